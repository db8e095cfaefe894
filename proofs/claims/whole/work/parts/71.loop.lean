set_option maxHeartbeats 4000000 in
set_option maxRecDepth 100000 in
theorem law_loop {p : Program} {l : Launch} {e : Env} {s : State} {m : MethodId} {args : Array Value} {below : List Frame} {meth : Method} {c : Code} {Q : State → Prop} {g : zG} {b L9 : Nat} {xs : Nat → Int32} {x9 o : Nat} {a : Nat → Nat} (hE : zE g p s m args c code RL 4 meth) (hX : va_X b L9 xs s s.heap) (hbl : b < s.heap.size) (hg : gz g = s.heap.size) (hL : L9 ≤ 3584)
    (kend : ∀ (H : Heap) (locs : List Loc) (ls : Array Slot) (cells slots : Nat) (W0 : va_W), cells ≤ 600000 → slots ≤ 7302250 → zB g s W0 H locs → W p l e room_1 s m args below meth c H locs cells slots Q (F0 m 1301 ls [])) :
    ∀ (fu i j : Nat) (H : Heap) (locs : List Loc) (ls : Array Slot) (W0 : va_W), i = 7 * j → i ≤ L9 → L9 - i < fu → LI g x9 o a W0 → zB g s W0 H locs → lv_has ls 4 [(3, .int (nI i)), (2, .ref o), (1, .ref x9), (0, .ref b)] → W p l e room_1 s m args below meth c H locs (30 + 151 * j) (2271 + 757 * j) Q (F0 m 18 ls []) := by
  intro fu
  induction fu with
  | zero => intro i j H locs ls W0 hj hi hfu; exact absurd hfu (Nat.not_lt_zero _)
  | succ fu ih =>
    intro i j H locs ls W0 hj hi hfu hS hB hl
    refine lv_iload_n hE.x hE.b dL_law_18 rfl (lv_at hl 0 rfl) ?_
    refine lv_aload_n hE.x hE.b dL_law_19 rfl (lv_at hl 3 rfl) ?_
    refine z_slen hE hB hX hbl hg dL_law_20 ?_
    refine lv_bipush (v := nI 7) hE.x hE.b dL_law_21 rfl ?_
    refine lv_isub hE.x hE.b dL_law_23 ?_
    refine z_gt (tgt := 1301) (X := ((i : Nat) : Int)) (Y := (L9 : Int) - 7) hE dL_law_24 (by decide) (nI_toInt (by omega)) (sub7_toInt hL) (fun c1 => ?_) (fun c1 => ?_)
    · exact kend _ _ _ _ _ _ (by omega) (by omega) hB
    · have hi7 : i + 7 ≤ L9 := by omega
      have next : ∀ (W1 : va_W) (H1 : Heap) (locs1 : List Loc), LI g x9 o a W1 → zB g s W1 H1 locs1 → W p l e room_1 s m args below meth c H1 locs1 (30 + 151 * j + 151) (2271 + 757 * j + 757) Q (F0 m 1295 ls []) := by
        intro W1 H1 locs1 hS hB
        refine lv_iinc (v := nI (i + 7)) (lv' := [(3, .int (nI (i + 7))), (2, .ref o), (1, .ref x9), (0, .ref b)]) hE.x hE.b dL_law_1295 hl (k := 0) rfl (nI_add _ _) (by decide) rfl (fun ls hl => ?_)
        refine lv_goto (tgt := 18) hE.x hE.b dL_law_1298 (by decide) ?_
        exact ih (i + 7) (j + 1) _ _ _ _ (by omega) hi7 (by omega) hS hB hl
      have hc : 30 + 151 * j + 151 ≤ 600000 ∧ 2271 + 757 * j + 757 ≤ 7302250 := by omega
      refine lv_aload_n hE.x hE.b dL_law_27 rfl (lv_at hl 3 rfl) ?_
      refine lv_iload_n hE.x hE.b dL_law_28 rfl (lv_at hl 0 rfl) ?_
      refine z_sld hE hB hX hbl hg hL (by omega) dL_law_29 ?_
      refine lv_bipush (v := nI 31) hE.x hE.b dL_law_30 rfl ?_
      refine lv_iand hE.x hE.b dL_law_32 ?_
      generalize xs i &&& nI 31 = y9
      by_cases e0 : y9 = nI 0
      · refine lv_tableIn (tgt := 172) hE.x hE.b dL_law_33 (by rw [e0]; decide) (by rw [e0]; decide) (by rw [e0]; rfl) (by decide) ?_
        exact law_land hE hX hbl hg hL hi7 hl hc hS hB next
      by_cases e1 : y9 = nI 1
      · refine lv_tableIn (tgt := 185) hE.x hE.b dL_law_33 (by rw [e1]; decide) (by rw [e1]; decide) (by rw [e1]; rfl) (by decide) ?_
        exact law_town hE hX hbl hg hL hi7 hl hc hS hB next
      by_cases e2 : y9 = nI 2
      · refine lv_tableIn (tgt := 208) hE.x hE.b dL_law_33 (by rw [e2]; decide) (by rw [e2]; decide) (by rw [e2]; rfl) (by decide) ?_
        exact law_road hE hX hbl hg hL hi7 hl hc hS hB next
      by_cases e3 : y9 = nI 3
      · refine lv_tableIn (tgt := 251) hE.x hE.b dL_law_33 (by rw [e3]; decide) (by rw [e3]; decide) (by rw [e3]; rfl) (by decide) ?_
        exact law_clause hE hX hbl hg hL hi7 hl hc hS hB next
      by_cases e4 : y9 = nI 4
      · refine lv_tableIn (tgt := 314) hE.x hE.b dL_law_33 (by rw [e4]; decide) (by rw [e4]; decide) (by rw [e4]; rfl) (by decide) ?_
        exact law_strike hE hX hbl hg hL hi7 hl hc hS hB next
      by_cases e5 : y9 = nI 5
      · refine lv_tableIn (tgt := 337) hE.x hE.b dL_law_33 (by rw [e5]; decide) (by rw [e5]; decide) (by rw [e5]; rfl) (by decide) ?_
        exact law_undo hE hX hbl hg hL hi7 hl hc hS hB next
      by_cases e6 : y9 = nI 6
      · refine lv_tableIn (tgt := 350) hE.x hE.b dL_law_33 (by rw [e6]; decide) (by rw [e6]; decide) (by rw [e6]; rfl) (by decide) ?_
        exact law_type hE hX hbl hg hL hi7 hl hc hS hB next
      by_cases e7 : y9 = nI 7
      · refine lv_tableIn (tgt := 373) hE.x hE.b dL_law_33 (by rw [e7]; decide) (by rw [e7]; decide) (by rw [e7]; rfl) (by decide) ?_
        exact law_clear hE hX hbl hg hL hi7 hl hc hS hB next
      by_cases e8 : y9 = nI 8
      · refine lv_tableIn (tgt := 386) hE.x hE.b dL_law_33 (by rw [e8]; decide) (by rw [e8]; decide) (by rw [e8]; rfl) (by decide) ?_
        exact law_read hE hX hbl hg hL hi7 hl hc hS hB next
      by_cases e9 : y9 = nI 9
      · refine lv_tableIn (tgt := 399) hE.x hE.b dL_law_33 (by rw [e9]; decide) (by rw [e9]; decide) (by rw [e9]; rfl) (by decide) ?_
        exact law_of hE hX hbl hg hL hi7 hl hc hS hB next
      by_cases e10 : y9 = nI 10
      · refine lv_tableIn (tgt := 432) hE.x hE.b dL_law_33 (by rw [e10]; decide) (by rw [e10]; decide) (by rw [e10]; rfl) (by decide) ?_
        exact law_far hE hX hbl hg hL hi7 hl hc hS hB next
      by_cases e11 : y9 = nI 11
      · refine lv_tableIn (tgt := 465) hE.x hE.b dL_law_33 (by rw [e11]; decide) (by rw [e11]; decide) (by rw [e11]; rfl) (by decide) ?_
        exact law_allowed hE hX hbl hg hL hi7 hl hc hS hB next
      by_cases e12 : y9 = nI 12
      · refine lv_tableIn (tgt := 540) hE.x hE.b dL_law_33 (by rw [e12]; decide) (by rw [e12]; decide) (by rw [e12]; rfl) (by decide) ?_
        exact law_nearest hE hX hbl hg hL hi7 hl hc hS hB next
      by_cases e13 : y9 = nI 13
      · refine lv_tableIn (tgt := 615) hE.x hE.b dL_law_33 (by rw [e13]; decide) (by rw [e13]; decide) (by rw [e13]; rfl) (by decide) ?_
        exact law_contradict hE hX hbl hg hL hi7 hl hc hS hB next
      by_cases e14 : y9 = nI 14
      · refine lv_tableIn (tgt := 658) hE.x hE.b dL_law_33 (by rw [e14]; decide) (by rw [e14]; decide) (by rw [e14]; rfl) (by decide) ?_
        exact law_settle hE hX hbl hg hL hi7 hl hc hS hB next
      by_cases e15 : y9 = nI 15
      · refine lv_tableIn (tgt := 691) hE.x hE.b dL_law_33 (by rw [e15]; decide) (by rw [e15]; decide) (by rw [e15]; rfl) (by decide) ?_
        exact law_reads hE hX hbl hg hL hi7 hl hc hS hB next
      by_cases e16 : y9 = nI 16
      · refine lv_tableIn (tgt := 754) hE.x hE.b dL_law_33 (by rw [e16]; decide) (by rw [e16]; decide) (by rw [e16]; rfl) (by decide) ?_
        exact law_patience hE hX hbl hg hL hi7 hl hc hS hB next
      by_cases e17 : y9 = nI 17
      · refine lv_tableIn (tgt := 807) hE.x hE.b dL_law_33 (by rw [e17]; decide) (by rw [e17]; decide) (by rw [e17]; rfl) (by decide) ?_
        exact law_concede hE hX hbl hg hL hi7 hl hc hS hB next
      by_cases e18 : y9 = nI 18
      · refine lv_tableIn (tgt := 860) hE.x hE.b dL_law_33 (by rw [e18]; decide) (by rw [e18]; decide) (by rw [e18]; rfl) (by decide) ?_
        exact law_presses hE hX hbl hg hL hi7 hl hc hS hB next
      by_cases e19 : y9 = nI 19
      · refine lv_tableIn (tgt := 893) hE.x hE.b dL_law_33 (by rw [e19]; decide) (by rw [e19]; decide) (by rw [e19]; rfl) (by decide) ?_
        exact law_leave hE hX hbl hg hL hi7 hl hc hS hB next
      by_cases e20 : y9 = nI 20
      · refine lv_tableIn (tgt := 956) hE.x hE.b dL_law_33 (by rw [e20]; decide) (by rw [e20]; decide) (by rw [e20]; rfl) (by decide) ?_
        exact law_burn hE hX hbl hg hL hi7 hl hc hS hB next
      by_cases e21 : y9 = nI 21
      · refine lv_tableIn (tgt := 969) hE.x hE.b dL_law_33 (by rw [e21]; decide) (by rw [e21]; decide) (by rw [e21]; rfl) (by decide) ?_
        exact law_forged hE hX hbl hg hL hi7 hl hc hS hB next
      by_cases e22 : y9 = nI 22
      · refine lv_tableIn (tgt := 982) hE.x hE.b dL_law_33 (by rw [e22]; decide) (by rw [e22]; decide) (by rw [e22]; rfl) (by decide) ?_
        exact law_whose hE hX hbl hg hL hi7 hl hc hS hB next
      by_cases e23 : y9 = nI 23
      · refine lv_tableIn (tgt := 1057) hE.x hE.b dL_law_33 (by rw [e23]; decide) (by rw [e23]; decide) (by rw [e23]; rfl) (by decide) ?_
        exact law_odds hE hX hbl hg hL hi7 hl hc hS hB next
      by_cases e24 : y9 = nI 24
      · refine lv_tableIn (tgt := 1132) hE.x hE.b dL_law_33 (by rw [e24]; decide) (by rw [e24]; decide) (by rw [e24]; rfl) (by decide) ?_
        exact law_drawn hE hX hbl hg hL hi7 hl hc hS hB next
      by_cases e25 : y9 = nI 25
      · refine lv_tableIn (tgt := 1165) hE.x hE.b dL_law_33 (by rw [e25]; decide) (by rw [e25]; decide) (by rw [e25]; rfl) (by decide) ?_
        exact law_part hE hX hbl hg hL hi7 hl hc hS hB next
      by_cases e26 : y9 = nI 26
      · refine lv_tableIn (tgt := 1189) hE.x hE.b dL_law_33 (by rw [e26]; decide) (by rw [e26]; decide) (by rw [e26]; rfl) (by decide) ?_
        exact law_image hE hX hbl hg hL hi7 hl hc hS hB next
      by_cases e27 : y9 = nI 27
      · refine lv_tableIn (tgt := 1212) hE.x hE.b dL_law_33 (by rw [e27]; decide) (by rw [e27]; decide) (by rw [e27]; rfl) (by decide) ?_
        exact law_from hE hX hbl hg hL hi7 hl hc hS hB next
      by_cases e28 : y9 = nI 28
      · refine lv_tableIn (tgt := 1235) hE.x hE.b dL_law_33 (by rw [e28]; decide) (by rw [e28]; decide) (by rw [e28]; rfl) (by decide) ?_
        exact law_status hE hX hbl hg hL hi7 hl hc hS hB next
      by_cases e29 : y9 = nI 29
      · refine lv_tableIn (tgt := 1258) hE.x hE.b dL_law_33 (by rw [e29]; decide) (by rw [e29]; decide) (by rw [e29]; rfl) (by decide) ?_
        exact law_count hE hX hbl hg hL hi7 hl hc hS hB next
      by_cases e30 : y9 = nI 30
      · refine lv_tableIn (tgt := 1281) hE.x hE.b dL_law_33 (by rw [e30]; decide) (by rw [e30]; decide) (by rw [e30]; rfl) (by decide) ?_
        exact law_digest hE hX hbl hg hL hi7 hl hc hS hB next
      refine lv_tableOut (tgt := 1295) hE.x hE.b dL_law_33 ?_ (by decide) ?_
      · have g0 := ne_toInt e0 (by decide)
        have g1 := ne_toInt e1 (by decide)
        have g2 := ne_toInt e2 (by decide)
        have g3 := ne_toInt e3 (by decide)
        have g4 := ne_toInt e4 (by decide)
        have g5 := ne_toInt e5 (by decide)
        have g6 := ne_toInt e6 (by decide)
        have g7 := ne_toInt e7 (by decide)
        have g8 := ne_toInt e8 (by decide)
        have g9 := ne_toInt e9 (by decide)
        have g10 := ne_toInt e10 (by decide)
        have g11 := ne_toInt e11 (by decide)
        have g12 := ne_toInt e12 (by decide)
        have g13 := ne_toInt e13 (by decide)
        have g14 := ne_toInt e14 (by decide)
        have g15 := ne_toInt e15 (by decide)
        have g16 := ne_toInt e16 (by decide)
        have g17 := ne_toInt e17 (by decide)
        have g18 := ne_toInt e18 (by decide)
        have g19 := ne_toInt e19 (by decide)
        have g20 := ne_toInt e20 (by decide)
        have g21 := ne_toInt e21 (by decide)
        have g22 := ne_toInt e22 (by decide)
        have g23 := ne_toInt e23 (by decide)
        have g24 := ne_toInt e24 (by decide)
        have g25 := ne_toInt e25 (by decide)
        have g26 := ne_toInt e26 (by decide)
        have g27 := ne_toInt e27 (by decide)
        have g28 := ne_toInt e28 (by decide)
        have g29 := ne_toInt e29 (by decide)
        have g30 := ne_toInt e30 (by decide)
        clear e0 e1 e2 e3 e4 e5 e6 e7 e8 e9 e10 e11 e12 e13 e14 e15 e16 e17 e18 e19 e20 e21 e22 e23 e24 e25 e26 e27 e28 e29 e30
        omega
      refine W.widen (k := 30 + 151 * j + 151) (n := 2271 + 757 * j + 757) (by omega) (by omega) ?_
      exact next _ _ _ hS hB
