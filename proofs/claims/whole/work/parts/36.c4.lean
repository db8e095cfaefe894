theorem dX4_roadsBuilt_0 : decode cX4_roadsBuilt 0 = .ok (.iconst 0, 1) := by decide +kernel
theorem dX4_roadsBuilt_1 : decode cX4_roadsBuilt 1 = .ok (.istore_n 1, 1) := by decide +kernel
theorem dX4_roadsBuilt_2 : decode cX4_roadsBuilt 2 = .ok (.iconst 0, 1) := by decide +kernel
theorem dX4_roadsBuilt_3 : decode cX4_roadsBuilt 3 = .ok (.istore_n 2, 1) := by decide +kernel
theorem dX4_roadsBuilt_4 : decode cX4_roadsBuilt 4 = .ok (.iload_n 2, 1) := by decide +kernel
theorem dX4_roadsBuilt_5 : decode cX4_roadsBuilt 5 = .ok (.aload_n 0, 1) := by decide +kernel
theorem dX4_roadsBuilt_6 : decode cX4_roadsBuilt 6 = .ok (.getfield 39, 3) := by decide +kernel
theorem dX4_roadsBuilt_9 : decode cX4_roadsBuilt 9 = .ok (.if_icmp .ge 39, 3) := by decide +kernel
theorem dX4_roadsBuilt_12 : decode cX4_roadsBuilt 12 = .ok (.iload_n 2, 1) := by decide +kernel
theorem dX4_roadsBuilt_13 : decode cX4_roadsBuilt 13 = .ok (.iconst 1, 1) := by decide +kernel
theorem dX4_roadsBuilt_14 : decode cX4_roadsBuilt 14 = .ok (.iadd, 1) := by decide +kernel
theorem dX4_roadsBuilt_15 : decode cX4_roadsBuilt 15 = .ok (.istore_n 3, 1) := by decide +kernel
theorem dX4_roadsBuilt_16 : decode cX4_roadsBuilt 16 = .ok (.iload_n 3, 1) := by decide +kernel
theorem dX4_roadsBuilt_17 : decode cX4_roadsBuilt 17 = .ok (.aload_n 0, 1) := by decide +kernel
theorem dX4_roadsBuilt_18 : decode cX4_roadsBuilt 18 = .ok (.getfield 39, 3) := by decide +kernel
theorem dX4_roadsBuilt_21 : decode cX4_roadsBuilt 21 = .ok (.if_icmp .ge 21, 3) := by decide +kernel
theorem dX4_roadsBuilt_24 : decode cX4_roadsBuilt 24 = .ok (.aload_n 0, 1) := by decide +kernel
theorem dX4_roadsBuilt_25 : decode cX4_roadsBuilt 25 = .ok (.iload_n 2, 1) := by decide +kernel
theorem dX4_roadsBuilt_26 : decode cX4_roadsBuilt 26 = .ok (.iload_n 3, 1) := by decide +kernel
theorem dX4_roadsBuilt_27 : decode cX4_roadsBuilt 27 = .ok (.invokevirtual 62, 3) := by decide +kernel
theorem dX4_roadsBuilt_30 : decode cX4_roadsBuilt 30 = .ok (.ifCond .le 6, 3) := by decide +kernel
theorem dX4_roadsBuilt_33 : decode cX4_roadsBuilt 33 = .ok (.iinc 1 1, 3) := by decide +kernel
theorem dX4_roadsBuilt_36 : decode cX4_roadsBuilt 36 = .ok (.iinc 3 1, 3) := by decide +kernel
theorem dX4_roadsBuilt_39 : decode cX4_roadsBuilt 39 = .ok (.goto (-23), 3) := by decide +kernel
theorem dX4_roadsBuilt_42 : decode cX4_roadsBuilt 42 = .ok (.iinc 2 1, 3) := by decide +kernel
theorem dX4_roadsBuilt_45 : decode cX4_roadsBuilt 45 = .ok (.goto (-41), 3) := by decide +kernel
theorem dX4_roadsBuilt_48 : decode cX4_roadsBuilt 48 = .ok (.iload_n 1, 1) := by decide +kernel
theorem dX4_roadsBuilt_49 : decode cX4_roadsBuilt 49 = .ok (.ireturn, 1) := by decide +kernel
theorem dX4_mixedIn_0 : decode cX4_mixedIn 0 = .ok (.lload_n 1, 1) := by decide +kernel
theorem dX4_mixedIn_1 : decode cX4_mixedIn 1 = .ok (.lstore_n 3, 1) := by decide +kernel
theorem dX4_mixedIn_2 : decode cX4_mixedIn 2 = .ok (.iconst 0, 1) := by decide +kernel
theorem dX4_mixedIn_3 : decode cX4_mixedIn 3 = .ok (.istore 5, 2) := by decide +kernel
theorem dX4_mixedIn_5 : decode cX4_mixedIn 5 = .ok (.iload 5, 2) := by decide +kernel
theorem dX4_mixedIn_7 : decode cX4_mixedIn 7 = .ok (.aload_n 0, 1) := by decide +kernel
theorem dX4_mixedIn_8 : decode cX4_mixedIn 8 = .ok (.getfield 39, 3) := by decide +kernel
theorem dX4_mixedIn_11 : decode cX4_mixedIn 11 = .ok (.if_icmp .ge 22, 3) := by decide +kernel
theorem dX4_mixedIn_14 : decode cX4_mixedIn 14 = .ok (.lload_n 3, 1) := by decide +kernel
theorem dX4_mixedIn_15 : decode cX4_mixedIn 15 = .ok (.aload_n 0, 1) := by decide +kernel
theorem dX4_mixedIn_16 : decode cX4_mixedIn 16 = .ok (.getfield 9, 3) := by decide +kernel
theorem dX4_mixedIn_19 : decode cX4_mixedIn 19 = .ok (.iload 5, 2) := by decide +kernel
theorem dX4_mixedIn_21 : decode cX4_mixedIn 21 = .ok (.iaload, 1) := by decide +kernel
theorem dX4_mixedIn_22 : decode cX4_mixedIn 22 = .ok (.i2l, 1) := by decide +kernel
theorem dX4_mixedIn_23 : decode cX4_mixedIn 23 = .ok (.invokestatic 119, 3) := by decide +kernel
theorem dX4_mixedIn_26 : decode cX4_mixedIn 26 = .ok (.lstore_n 3, 1) := by decide +kernel
theorem dX4_mixedIn_27 : decode cX4_mixedIn 27 = .ok (.iinc 5 1, 3) := by decide +kernel
theorem dX4_mixedIn_30 : decode cX4_mixedIn 30 = .ok (.goto (-25), 3) := by decide +kernel
theorem dX4_mixedIn_33 : decode cX4_mixedIn 33 = .ok (.iconst 0, 1) := by decide +kernel
theorem dX4_mixedIn_34 : decode cX4_mixedIn 34 = .ok (.istore 5, 2) := by decide +kernel
theorem dX4_mixedIn_36 : decode cX4_mixedIn 36 = .ok (.iload 5, 2) := by decide +kernel
theorem dX4_mixedIn_38 : decode cX4_mixedIn 38 = .ok (.aload_n 0, 1) := by decide +kernel
theorem dX4_mixedIn_39 : decode cX4_mixedIn 39 = .ok (.getfield 39, 3) := by decide +kernel
theorem dX4_mixedIn_42 : decode cX4_mixedIn 42 = .ok (.if_icmp .ge 44, 3) := by decide +kernel
theorem dX4_mixedIn_45 : decode cX4_mixedIn 45 = .ok (.iload 5, 2) := by decide +kernel
theorem dX4_mixedIn_47 : decode cX4_mixedIn 47 = .ok (.iconst 1, 1) := by decide +kernel
theorem dX4_mixedIn_48 : decode cX4_mixedIn 48 = .ok (.iadd, 1) := by decide +kernel
theorem dX4_mixedIn_49 : decode cX4_mixedIn 49 = .ok (.istore 6, 2) := by decide +kernel
theorem dX4_mixedIn_51 : decode cX4_mixedIn 51 = .ok (.iload 6, 2) := by decide +kernel
theorem dX4_mixedIn_53 : decode cX4_mixedIn 53 = .ok (.aload_n 0, 1) := by decide +kernel
theorem dX4_mixedIn_54 : decode cX4_mixedIn 54 = .ok (.getfield 39, 3) := by decide +kernel
theorem dX4_mixedIn_57 : decode cX4_mixedIn 57 = .ok (.if_icmp .ge 23, 3) := by decide +kernel
theorem dX4_mixedIn_60 : decode cX4_mixedIn 60 = .ok (.lload_n 3, 1) := by decide +kernel
theorem dX4_mixedIn_61 : decode cX4_mixedIn 61 = .ok (.aload_n 0, 1) := by decide +kernel
theorem dX4_mixedIn_62 : decode cX4_mixedIn 62 = .ok (.iload 5, 2) := by decide +kernel
theorem dX4_mixedIn_64 : decode cX4_mixedIn 64 = .ok (.iload 6, 2) := by decide +kernel
theorem dX4_mixedIn_66 : decode cX4_mixedIn 66 = .ok (.invokevirtual 62, 3) := by decide +kernel
theorem dX4_mixedIn_69 : decode cX4_mixedIn 69 = .ok (.i2l, 1) := by decide +kernel
theorem dX4_mixedIn_70 : decode cX4_mixedIn 70 = .ok (.invokestatic 119, 3) := by decide +kernel
theorem dX4_mixedIn_73 : decode cX4_mixedIn 73 = .ok (.lstore_n 3, 1) := by decide +kernel
theorem dX4_mixedIn_74 : decode cX4_mixedIn 74 = .ok (.iinc 6 1, 3) := by decide +kernel
theorem dX4_mixedIn_77 : decode cX4_mixedIn 77 = .ok (.goto (-26), 3) := by decide +kernel
theorem dX4_mixedIn_80 : decode cX4_mixedIn 80 = .ok (.iinc 5 1, 3) := by decide +kernel
theorem dX4_mixedIn_83 : decode cX4_mixedIn 83 = .ok (.goto (-47), 3) := by decide +kernel
theorem dX4_mixedIn_86 : decode cX4_mixedIn 86 = .ok (.iconst 0, 1) := by decide +kernel
theorem dX4_mixedIn_87 : decode cX4_mixedIn 87 = .ok (.istore 5, 2) := by decide +kernel
theorem dX4_mixedIn_89 : decode cX4_mixedIn 89 = .ok (.iload 5, 2) := by decide +kernel
theorem dX4_mixedIn_91 : decode cX4_mixedIn 91 = .ok (.aload_n 0, 1) := by decide +kernel
theorem dX4_mixedIn_92 : decode cX4_mixedIn 92 = .ok (.getfield 43, 3) := by decide +kernel
theorem dX4_mixedIn_95 : decode cX4_mixedIn 95 = .ok (.if_icmp .ge 21, 3) := by decide +kernel
theorem dX4_mixedIn_98 : decode cX4_mixedIn 98 = .ok (.lload_n 3, 1) := by decide +kernel
theorem dX4_mixedIn_99 : decode cX4_mixedIn 99 = .ok (.aload_n 0, 1) := by decide +kernel
theorem dX4_mixedIn_100 : decode cX4_mixedIn 100 = .ok (.getfield 20, 3) := by decide +kernel
theorem dX4_mixedIn_103 : decode cX4_mixedIn 103 = .ok (.iload 5, 2) := by decide +kernel
theorem dX4_mixedIn_105 : decode cX4_mixedIn 105 = .ok (.aaload, 1) := by decide +kernel
theorem dX4_mixedIn_106 : decode cX4_mixedIn 106 = .ok (.invokestatic 123, 3) := by decide +kernel
theorem dX4_mixedIn_109 : decode cX4_mixedIn 109 = .ok (.lstore_n 3, 1) := by decide +kernel
theorem dX4_mixedIn_110 : decode cX4_mixedIn 110 = .ok (.iinc 5 1, 3) := by decide +kernel
theorem dX4_mixedIn_113 : decode cX4_mixedIn 113 = .ok (.goto (-24), 3) := by decide +kernel
theorem dX4_mixedIn_116 : decode cX4_mixedIn 116 = .ok (.iconst 0, 1) := by decide +kernel
theorem dX4_mixedIn_117 : decode cX4_mixedIn 117 = .ok (.istore 5, 2) := by decide +kernel
theorem dX4_mixedIn_119 : decode cX4_mixedIn 119 = .ok (.iload 5, 2) := by decide +kernel
theorem dX4_mixedIn_121 : decode cX4_mixedIn 121 = .ok (.iconst 5, 1) := by decide +kernel
theorem dX4_mixedIn_122 : decode cX4_mixedIn 122 = .ok (.aload_n 0, 1) := by decide +kernel
theorem dX4_mixedIn_123 : decode cX4_mixedIn 123 = .ok (.getfield 49, 3) := by decide +kernel
theorem dX4_mixedIn_126 : decode cX4_mixedIn 126 = .ok (.imul, 1) := by decide +kernel
theorem dX4_mixedIn_127 : decode cX4_mixedIn 127 = .ok (.if_icmp .ge 22, 3) := by decide +kernel
theorem dX4_mixedIn_130 : decode cX4_mixedIn 130 = .ok (.lload_n 3, 1) := by decide +kernel
theorem dX4_mixedIn_131 : decode cX4_mixedIn 131 = .ok (.aload_n 0, 1) := by decide +kernel
theorem dX4_mixedIn_132 : decode cX4_mixedIn 132 = .ok (.getfield 30, 3) := by decide +kernel
theorem dX4_mixedIn_135 : decode cX4_mixedIn 135 = .ok (.iload 5, 2) := by decide +kernel
theorem dX4_mixedIn_137 : decode cX4_mixedIn 137 = .ok (.iaload, 1) := by decide +kernel
theorem dX4_mixedIn_138 : decode cX4_mixedIn 138 = .ok (.i2l, 1) := by decide +kernel
theorem dX4_mixedIn_139 : decode cX4_mixedIn 139 = .ok (.invokestatic 119, 3) := by decide +kernel
theorem dX4_mixedIn_142 : decode cX4_mixedIn 142 = .ok (.lstore_n 3, 1) := by decide +kernel
theorem dX4_mixedIn_143 : decode cX4_mixedIn 143 = .ok (.iinc 5 1, 3) := by decide +kernel
theorem dX4_mixedIn_146 : decode cX4_mixedIn 146 = .ok (.goto (-27), 3) := by decide +kernel
theorem dX4_mixedIn_149 : decode cX4_mixedIn 149 = .ok (.lload_n 3, 1) := by decide +kernel
theorem dX4_mixedIn_150 : decode cX4_mixedIn 150 = .ok (.lreturn, 1) := by decide +kernel
theorem kX4_roadsBuilt : zCV yX4_roadsBuilt RX4 cX4_roadsBuilt 4 (some .int) 0 := ⟨q3_215, q3_216, q1_2, q3_217, rfl, by decide +kernel, by decide +kernel, by decide +kernel⟩
theorem kX4_mixedIn : zCV yX4_mixedIn RX4 cX4_mixedIn 7 (some .long) 1 := ⟨q3_228, q3_229, q1_2, q3_230, rfl, by decide +kernel, by decide +kernel, by decide +kernel⟩
set_option maxHeartbeats 4000000 in
set_option maxRecDepth 100000 in
theorem c_X4_roadsBuilt (l : Launch) (g : zG) (b : Nat) (a : Nat → Nat) (T : Nat) (C : Nat) (U : Nat) (V : Nat) (rd : Nat → Int32) (ro : Nat → Int32) (lw : Nat → Option Nat) (pl : Nat → Option Nat) (pc : Nat → Int32) (gv : Nat → Int32) (aw : Nat → Int32) (nt : Nat → Int32) (n : Nat → Int32) (B : va_W) (X : va_W) (hn : nOK n T C V U) (hrel : relL n T C U V rd ro lw pl pc gv B) (hBX : ∀ x ∈ B, x ∈ X) : Met l yX4_roadsBuilt (Cond.code yX4_roadsBuilt cX4_roadsBuilt 4 (some .int) :: TBL) { frames := 1, cells := 0, slots := 0, locals := 22 } (zPc [.ref b] g (lW g b a (nI T) (nI C) (nI U) (nI V) rd ro lw pl pc gv aw nt ++ X)) (zQi g (fun r ws => r = nI (rcA n T T) ∧ ws = lW g b a (nI T) (nI C) (nI U) (nI V) rd ro lw pl pc gv aw nt ++ X)) 0 0 (zA (gz g)) := by
  refine z_start (by decide +kernel) rfl (Nat.le_of_ble_eq_true rfl) ?_
  intro p e s m args below meth c ls hE hr hnm hB hl
  have hl : lv_has ls 4 [(0, .ref b)] := hl
  revert hB
  generalize s.heap = H
  generalize ([] : List Loc) = locs
  intro hB
  have hT6 := hn.T6
  have hC8 := hn.C8
  have hV8 := hn.V8
  have hU8 := hn.U8
  refine lv_iconst (v := nI 0) hE.x hE.b dX4_roadsBuilt_0 rfl ?_
  refine lv_istore_n (lv' := [(1, .int (nI 0)), (0, .ref b)]) hE.x hE.b dX4_roadsBuilt_1 rfl hl (by decide) rfl (fun ls hl => ?_)
  refine lv_iconst (v := nI 0) hE.x hE.b dX4_roadsBuilt_2 rfl ?_
  refine lv_istore_n (lv' := [(2, .int (nI 0)), (1, .int (nI 0)), (0, .ref b)]) hE.x hE.b dX4_roadsBuilt_3 rfl hl (by decide) rfl (fun ls hl => ?_)
  have k4 : ∀ (fu : Nat) (m9 : Nat) (x : Nat) (H : Heap) (locs : List Loc) (ls : Array Slot), T - x < fu → (x ≤ T) → (m9 = rcA n T x) → zB g s (lW g b a (nI T) (nI C) (nI U) (nI V) rd ro lw pl pc gv aw nt ++ X) H locs → lv_has ls 4 [(2, .int (nI x)), (1, .int (nI m9)), (0, .ref b)] → W p l e { frames := 1, cells := 0, slots := 0, locals := 22 } s m args below meth c H locs 0 0 (MQ below (zQi g (fun r ws => r = nI (rcA n T T) ∧ ws = lW g b a (nI T) (nI C) (nI U) (nI V) rd ro lw pl pc gv aw nt ++ X)) args s 0 0 (zA (gz g))) (F0 m 4 ls []) := by
    intro fu
    induction fu with
    | zero => intro m9 x H locs ls hfu hx hm hB hl; exact absurd hfu (Nat.not_lt_zero _)
    | succ fu ih4 =>
      intro m9 x H locs ls hfu hx hm hB hl
      refine lv_iload_n hE.x hE.b dX4_roadsBuilt_4 rfl (lv_at hl 0 rfl) ?_
      refine lv_aload_n hE.x hE.b dX4_roadsBuilt_5 rfl (lv_at hl 2 rfl) ?_
      refine z_get (v := .int (nI T)) hE hB inX4 0 rfl rfl 0 (by decide) q1_33 (fun _ h9 => h9) rfl dX4_roadsBuilt_6 ?_
      refine z_ge (tgt := 48) (X := ((x : Nat) : Int)) (Y := ((T : Nat) : Int)) hE dX4_roadsBuilt_9 (by decide) (nI_toInt (n := x) (by omega)) (nI_toInt (n := T) (by omega)) (fun c_1 => ?_) (fun c_1 => ?_)
      · refine lv_iload_n hE.x hE.b dX4_roadsBuilt_48 rfl (lv_at hl 1 rfl) ?_
        exact z_iret (v := (nI m9)) (ws := lW g b a (nI T) (nI C) (nI U) (nI V) rd ro lw pl pc gv aw nt ++ X) hE hB hr (⟨by rw [hm, show x = T by omega], rfl⟩) dX4_roadsBuilt_49
      · refine lv_iload_n hE.x hE.b dX4_roadsBuilt_12 rfl (lv_at hl 0 rfl) ?_
        refine lv_iconst (v := nI 1) hE.x hE.b dX4_roadsBuilt_13 rfl ?_
        refine z_iaddN hE dX4_roadsBuilt_14 ?_
        refine lv_istore_n (lv' := [(3, .int (nI (x + 1))), (2, .int (nI x)), (1, .int (nI m9)), (0, .ref b)]) hE.x hE.b dX4_roadsBuilt_15 rfl hl (by decide) rfl (fun ls hl => ?_)
        have k16 : ∀ (fu : Nat) (m9 : Nat) (k : Nat) (H : Heap) (locs : List Loc) (ls : Array Slot), T - k < fu → (k ≤ T - (x + 1)) → (m9 = rcA n T x + rcB n x k) → zB g s (lW g b a (nI T) (nI C) (nI U) (nI V) rd ro lw pl pc gv aw nt ++ X) H locs → lv_has ls 4 [(3, .int (nI (x + 1 + k))), (2, .int (nI x)), (1, .int (nI m9)), (0, .ref b)] → W p l e { frames := 1, cells := 0, slots := 0, locals := 22 } s m args below meth c H locs 0 0 (MQ below (zQi g (fun r ws => r = nI (rcA n T T) ∧ ws = lW g b a (nI T) (nI C) (nI U) (nI V) rd ro lw pl pc gv aw nt ++ X)) args s 0 0 (zA (gz g))) (F0 m 16 ls []) := by
          intro fu
          induction fu with
          | zero => intro m9 k H locs ls hfu hk hm hB hl; exact absurd hfu (Nat.not_lt_zero _)
          | succ fu ih16 =>
            intro m9 k H locs ls hfu hk hm hB hl
            refine lv_iload_n hE.x hE.b dX4_roadsBuilt_16 rfl (lv_at hl 0 rfl) ?_
            refine lv_aload_n hE.x hE.b dX4_roadsBuilt_17 rfl (lv_at hl 3 rfl) ?_
            refine z_get (v := .int (nI T)) hE hB inX4 0 rfl rfl 0 (by decide) q1_33 (fun _ h9 => h9) rfl dX4_roadsBuilt_18 ?_
            refine z_ge (tgt := 42) (X := (((x + 1 + k) : Nat) : Int)) (Y := ((T : Nat) : Int)) hE dX4_roadsBuilt_21 (by decide) (nI_toInt (n := (x + 1 + k)) (by omega)) (nI_toInt (n := T) (by omega)) (fun c_2 => ?_) (fun c_2 => ?_)
            · refine lv_iinc (v := (nI (x + 1))) (lv' := [(2, .int (nI (x + 1))), (3, .int (nI (x + 1 + k))), (1, .int (nI m9)), (0, .ref b)]) hE.x hE.b dX4_roadsBuilt_42 hl (k := 1) rfl (nI_add _ _) (by decide) rfl (fun ls hl => ?_)
              refine lv_goto (tgt := 4) hE.x hE.b dX4_roadsBuilt_45 (by decide) ?_
              exact ih4 m9 (x + 1) _ _ _ (by omega) (by omega) (by rw [hm, show k = T - (x + 1) by omega]; rfl) hB (lv_sub hl [0, 2, 3] rfl)
            · refine lv_aload_n hE.x hE.b dX4_roadsBuilt_24 rfl (lv_at hl 3 rfl) ?_
              refine lv_iload_n hE.x hE.b dX4_roadsBuilt_25 rfl (lv_at hl 1 rfl) ?_
              refine lv_iload_n hE.x hE.b dX4_roadsBuilt_26 rfl (lv_at hl 0 rfl) ?_
              refine z_qi hB (z_cV hE hB (c_X4_roadDays l g b a T C U V rd ro lw pl pc gv aw nt x (x + 1 + k) n B X hn hrel hBX (by omega) (by omega)) q2_237 kX4_roadDays ⟨rfl, rfl⟩ ⟨Nat.le_of_ble_eq_true rfl, Nat.le_of_ble_eq_true rfl⟩ 0 rfl rfl rfl hl.1 rfl (Nat.le_of_ble_eq_true rfl) dX4_roadsBuilt_27 ⟨Nat.le_of_ble_eq_true rfl, Nat.le_of_ble_eq_true rfl⟩) (fun r_3 w_4 H locs hw hB => ?_)
              obtain ⟨hr9, hw9⟩ := hw
              have hr9 := hr9.symm
              subst hr9
              have hw9 := hw9.symm
              subst hw9
              have hw9 := rwE_9 hn (i := 6 * x + (x + 1 + k)) (by omega)
              refine z_le0 (tgt := 36) (X := (((rwE n (6 * x + (x + 1 + k))) : Nat) : Int)) hE dX4_roadsBuilt_30 (by decide) (nI_toInt (n := (rwE n (6 * x + (x + 1 + k)))) (by omega)) (fun c_5 => ?_) (fun c_5 => ?_)
              · refine lv_iinc (v := (nI ((x + 1 + k) + 1))) (lv' := [(3, .int (nI ((x + 1 + k) + 1))), (2, .int (nI x)), (1, .int (nI m9)), (0, .ref b)]) hE.x hE.b dX4_roadsBuilt_36 hl (k := 0) rfl (nI_add _ _) (by decide) rfl (fun ls hl => ?_)
                refine lv_goto (tgt := 16) hE.x hE.b dX4_roadsBuilt_39 (by decide) ?_
                exact ih16 m9 (k + 1) _ _ _ (by omega) (by omega) (by have h8 := rcB_n (n := n) (a := x) (k := k) (by omega); omega) hB hl
              · refine lv_iinc (v := (nI (m9 + 1))) (lv' := [(1, .int (nI (m9 + 1))), (3, .int (nI (x + 1 + k))), (2, .int (nI x)), (0, .ref b)]) hE.x hE.b dX4_roadsBuilt_33 hl (k := 2) rfl (nI_add _ _) (by decide) rfl (fun ls hl => ?_)
                refine lv_iinc (v := (nI ((x + 1 + k) + 1))) (lv' := [(3, .int (nI ((x + 1 + k) + 1))), (1, .int (nI (m9 + 1))), (2, .int (nI x)), (0, .ref b)]) hE.x hE.b dX4_roadsBuilt_36 hl (k := 1) rfl (nI_add _ _) (by decide) rfl (fun ls hl => ?_)
                refine lv_goto (tgt := 16) hE.x hE.b dX4_roadsBuilt_39 (by decide) ?_
                exact ih16 (m9 + 1) (k + 1) _ _ _ (by omega) (by omega) (by have h8 := rcB_y (n := n) (a := x) (k := k) (by omega); omega) hB (lv_sub hl [0, 2, 1, 3] rfl)
        exact k16 (T - 0 + 1) m9 0 _ _ _ (Nat.lt_succ_self _) (by omega) (by rw [hm]; rfl) hB hl
  exact k4 (T - 0 + 1) 0 0 _ _ _ (Nat.lt_succ_self _) (by omega) rfl hB hl

set_option maxHeartbeats 4000000 in
set_option maxRecDepth 100000 in
theorem c_X4_mixedIn (l : Launch) (g : zG) (b : Nat) (a : Nat → Nat) (T : Nat) (C : Nat) (U : Nat) (V : Nat) (rd : Nat → Int32) (ro : Nat → Int32) (lw : Nat → Option Nat) (pl : Nat → Option Nat) (pc : Nat → Int32) (gv : Nat → Int32) (aw : Nat → Int32) (nt : Nat → Int32) (h : Int64) (n : Nat → Int32) (B : va_W) (X : va_W) (hn : nOK n T C V U) (hrel : relL n T C U V rd ro lw pl pc gv B) (hBX : ∀ x ∈ B, x ∈ X) : Met l yX4_mixedIn (Cond.code yX4_mixedIn cX4_mixedIn 7 (some .long) :: TBL) { frames := 2, cells := 0, slots := 0, locals := 47 } (zPc [.ref b, .long h] g (lW g b a (nI T) (nI C) (nI U) (nI V) rd ro lw pl pc gv aw nt ++ X)) (zQl g (fun r ws => r = (smL n (smL n (dgA n T (smL n h 4 T) T) 46 (5 * C)) 86 (5 * V)) ∧ ws = lW g b a (nI T) (nI C) (nI U) (nI V) rd ro lw pl pc gv aw nt ++ X)) 0 0 (zA (gz g)) := by
  refine z_start (by decide +kernel) rfl (Nat.le_of_ble_eq_true rfl) ?_
  intro p e s m args below meth c ls hE hr hnm hB hl
  have hl : lv_has ls 7 [(0, .ref b), (1, .long h)] := hl
  revert hB
  generalize s.heap = H
  generalize ([] : List Loc) = locs
  intro hB
  have hT6 := hn.T6
  have hC8 := hn.C8
  have hV8 := hn.V8
  have hU8 := hn.U8
  refine lv_lload_n hE.x hE.b dX4_mixedIn_0 rfl (lv_at hl 1 rfl) ?_
  refine lv_lstore_n (lv' := [(3, .long h), (0, .ref b), (1, .long h)]) hE.x hE.b dX4_mixedIn_1 rfl hl (by decide) rfl (fun ls hl => ?_)
  refine lv_iconst (v := nI 0) hE.x hE.b dX4_mixedIn_2 rfl ?_
  refine lv_istore (lv' := [(5, .int (nI 0)), (3, .long h), (0, .ref b), (1, .long h)]) hE.x hE.b dX4_mixedIn_3 hl (by decide) rfl (fun ls hl => ?_)
  have k5 : ∀ (fu : Nat) (v : Int64) (k : Nat) (H : Heap) (locs : List Loc) (ls : Array Slot), T - k < fu → (k ≤ T) → (v = smL n h 4 k) → zB g s (lW g b a (nI T) (nI C) (nI U) (nI V) rd ro lw pl pc gv aw nt ++ X) H locs → lv_has ls 7 [(5, .int (nI k)), (3, .long v), (0, .ref b), (1, .long h)] → W p l e { frames := 2, cells := 0, slots := 0, locals := 47 } s m args below meth c H locs 0 0 (MQ below (zQl g (fun r ws => r = (smL n (smL n (dgA n T (smL n h 4 T) T) 46 (5 * C)) 86 (5 * V)) ∧ ws = lW g b a (nI T) (nI C) (nI U) (nI V) rd ro lw pl pc gv aw nt ++ X)) args s 0 0 (zA (gz g))) (F0 m 5 ls []) := by
    intro fu
    induction fu with
    | zero => intro v k H locs ls hfu hk hv hB hl; exact absurd hfu (Nat.not_lt_zero _)
    | succ fu ih5 =>
      intro v k H locs ls hfu hk hv hB hl
      refine lv_iload hE.x hE.b dX4_mixedIn_5 (lv_at hl 0 rfl) ?_
      refine lv_aload_n hE.x hE.b dX4_mixedIn_7 rfl (lv_at hl 2 rfl) ?_
      refine z_get (v := .int (nI T)) hE hB inX4 0 rfl rfl 0 (by decide) q1_33 (fun _ h9 => h9) rfl dX4_mixedIn_8 ?_
      refine z_ge (tgt := 33) (X := ((k : Nat) : Int)) (Y := ((T : Nat) : Int)) hE dX4_mixedIn_11 (by decide) (nI_toInt (n := k) (by omega)) (nI_toInt (n := T) (by omega)) (fun c_1 => ?_) (fun c_1 => ?_)
      · refine lv_iconst (v := nI 0) hE.x hE.b dX4_mixedIn_33 rfl ?_
        refine lv_istore (lv' := [(5, .int (nI 0)), (3, .long v), (0, .ref b), (1, .long h)]) hE.x hE.b dX4_mixedIn_34 hl (by decide) rfl (fun ls hl => ?_)
        have k36 : ∀ (fu : Nat) (v : Int64) (k : Nat) (H : Heap) (locs : List Loc) (ls : Array Slot), T - k < fu → (k ≤ T) → (v = dgA n T (smL n h 4 T) k) → zB g s (lW g b a (nI T) (nI C) (nI U) (nI V) rd ro lw pl pc gv aw nt ++ X) H locs → lv_has ls 7 [(5, .int (nI k)), (3, .long v), (0, .ref b), (1, .long h)] → W p l e { frames := 2, cells := 0, slots := 0, locals := 47 } s m args below meth c H locs 0 0 (MQ below (zQl g (fun r ws => r = (smL n (smL n (dgA n T (smL n h 4 T) T) 46 (5 * C)) 86 (5 * V)) ∧ ws = lW g b a (nI T) (nI C) (nI U) (nI V) rd ro lw pl pc gv aw nt ++ X)) args s 0 0 (zA (gz g))) (F0 m 36 ls []) := by
          intro fu
          induction fu with
          | zero => intro v k H locs ls hfu hk hv hB hl; exact absurd hfu (Nat.not_lt_zero _)
          | succ fu ih36 =>
            intro v k H locs ls hfu hk hv hB hl
            refine lv_iload hE.x hE.b dX4_mixedIn_36 (lv_at hl 0 rfl) ?_
            refine lv_aload_n hE.x hE.b dX4_mixedIn_38 rfl (lv_at hl 2 rfl) ?_
            refine z_get (v := .int (nI T)) hE hB inX4 0 rfl rfl 0 (by decide) q1_33 (fun _ h9 => h9) rfl dX4_mixedIn_39 ?_
            refine z_ge (tgt := 86) (X := ((k : Nat) : Int)) (Y := ((T : Nat) : Int)) hE dX4_mixedIn_42 (by decide) (nI_toInt (n := k) (by omega)) (nI_toInt (n := T) (by omega)) (fun c_2 => ?_) (fun c_2 => ?_)
            · refine lv_iconst (v := nI 0) hE.x hE.b dX4_mixedIn_86 rfl ?_
              refine lv_istore (lv' := [(5, .int (nI 0)), (3, .long v), (0, .ref b), (1, .long h)]) hE.x hE.b dX4_mixedIn_87 hl (by decide) rfl (fun ls hl => ?_)
              have k89 : ∀ (fu : Nat) (v : Int64) (c9 : Nat) (H : Heap) (locs : List Loc) (ls : Array Slot), C - c9 < fu → (c9 ≤ C) → (v = smL n (dgA n T (smL n h 4 T) T) 46 (5 * c9)) → zB g s (lW g b a (nI T) (nI C) (nI U) (nI V) rd ro lw pl pc gv aw nt ++ X) H locs → lv_has ls 7 [(5, .int (nI c9)), (3, .long v), (0, .ref b), (1, .long h)] → W p l e { frames := 2, cells := 0, slots := 0, locals := 47 } s m args below meth c H locs 0 0 (MQ below (zQl g (fun r ws => r = (smL n (smL n (dgA n T (smL n h 4 T) T) 46 (5 * C)) 86 (5 * V)) ∧ ws = lW g b a (nI T) (nI C) (nI U) (nI V) rd ro lw pl pc gv aw nt ++ X)) args s 0 0 (zA (gz g))) (F0 m 89 ls []) := by
                intro fu
                induction fu with
                | zero => intro v c9 H locs ls hfu hk hv hB hl; exact absurd hfu (Nat.not_lt_zero _)
                | succ fu ih89 =>
                  intro v c9 H locs ls hfu hk hv hB hl
                  refine lv_iload hE.x hE.b dX4_mixedIn_89 (lv_at hl 0 rfl) ?_
                  refine lv_aload_n hE.x hE.b dX4_mixedIn_91 rfl (lv_at hl 2 rfl) ?_
                  refine z_get (v := .int (nI C)) hE hB inX4 0 rfl rfl 1 (by decide) q1_36 (fun _ h9 => h9) rfl dX4_mixedIn_92 ?_
                  refine z_ge (tgt := 116) (X := ((c9 : Nat) : Int)) (Y := ((C : Nat) : Int)) hE dX4_mixedIn_95 (by decide) (nI_toInt (n := c9) (by omega)) (nI_toInt (n := C) (by omega)) (fun c_3 => ?_) (fun c_3 => ?_)
                  · refine lv_iconst (v := nI 0) hE.x hE.b dX4_mixedIn_116 rfl ?_
                    refine lv_istore (lv' := [(5, .int (nI 0)), (3, .long v), (0, .ref b), (1, .long h)]) hE.x hE.b dX4_mixedIn_117 hl (by decide) rfl (fun ls hl => ?_)
                    have k119 : ∀ (fu : Nat) (v : Int64) (k : Nat) (H : Heap) (locs : List Loc) (ls : Array Slot), 5 * V - k < fu → (k ≤ 5 * V) → (v = smL n (smL n (dgA n T (smL n h 4 T) T) 46 (5 * C)) 86 k) → zB g s (lW g b a (nI T) (nI C) (nI U) (nI V) rd ro lw pl pc gv aw nt ++ X) H locs → lv_has ls 7 [(5, .int (nI k)), (3, .long v), (0, .ref b), (1, .long h)] → W p l e { frames := 2, cells := 0, slots := 0, locals := 47 } s m args below meth c H locs 0 0 (MQ below (zQl g (fun r ws => r = (smL n (smL n (dgA n T (smL n h 4 T) T) 46 (5 * C)) 86 (5 * V)) ∧ ws = lW g b a (nI T) (nI C) (nI U) (nI V) rd ro lw pl pc gv aw nt ++ X)) args s 0 0 (zA (gz g))) (F0 m 119 ls []) := by
                      intro fu
                      induction fu with
                      | zero => intro v k H locs ls hfu hk hv hB hl; exact absurd hfu (Nat.not_lt_zero _)
                      | succ fu ih119 =>
                        intro v k H locs ls hfu hk hv hB hl
                        refine lv_iload hE.x hE.b dX4_mixedIn_119 (lv_at hl 0 rfl) ?_
                        refine lv_iconst (v := nI 5) hE.x hE.b dX4_mixedIn_121 rfl ?_
                        refine lv_aload_n hE.x hE.b dX4_mixedIn_122 rfl (lv_at hl 2 rfl) ?_
                        refine z_get (v := .int (nI V)) hE hB inX4 0 rfl rfl 3 (by decide) q1_41 (fun _ h9 => h9) rfl dX4_mixedIn_123 ?_
                        refine z_imulN hE dX4_mixedIn_126 ?_
                        refine z_ge (tgt := 149) (X := ((k : Nat) : Int)) (Y := (((5 * V) : Nat) : Int)) hE dX4_mixedIn_127 (by decide) (nI_toInt (n := k) (by omega)) (nI_toInt (n := (5 * V)) (by omega)) (fun c_4 => ?_) (fun c_4 => ?_)
                        · refine lv_lload_n hE.x hE.b dX4_mixedIn_149 rfl (lv_at hl 1 rfl) ?_
                          exact z_lret (v := v) (ws := lW g b a (nI T) (nI C) (nI U) (nI V) rd ro lw pl pc gv aw nt ++ X) hE hB hr (⟨by rw [hv, show k = 5 * V by omega], rfl⟩) dX4_mixedIn_150
                        · refine lv_lload_n hE.x hE.b dX4_mixedIn_130 rfl (lv_at hl 1 rfl) ?_
                          refine lv_aload_n hE.x hE.b dX4_mixedIn_131 rfl (lv_at hl 2 rfl) ?_
                          refine z_get (v := .ref (a 5)) hE hB inX4 0 rfl rfl 9 (by decide) q1_48 (fun _ h9 => h9) rfl dX4_mixedIn_132 ?_
                          refine lv_iload hE.x hE.b dX4_mixedIn_135 (lv_at hl 0 rfl) ?_
                          refine z_iald (k := k) (f := gv) hE hB 6 rfl (by omega) (by decide) dX4_mixedIn_137 ?_
                          refine z_top (y := (n (86 + k))) (hrel.2.2.2.1 _ (by omega)) ?_
                          refine lv_i2l hE.x hE.b dX4_mixedIn_138 rfl ?_
                          refine z_ql hB (z_cSN hE hB (c_X8_mixed l g v (Int32.toInt64 (n (86 + k))) (lW g b a (nI T) (nI C) (nI U) (nI V) rd ro lw pl pc gv aw nt ++ X)) hE.2.1.2.1.2.2.2.2.2.2 kX8_mixed ⟨rfl, rfl⟩ ⟨Nat.le_of_ble_eq_true rfl, Nat.le_of_ble_eq_true rfl⟩ rfl hl.1 rfl (Nat.le_of_ble_eq_true rfl) dX4_mixedIn_139 ⟨Nat.le_of_ble_eq_true rfl, Nat.le_of_ble_eq_true rfl⟩) (fun r_5 w_6 H locs hw hB => ?_)
                          obtain ⟨hr9, hw9⟩ := hw
                          have hr9 := hr9.symm
                          subst hr9
                          have hw9 := hw9.symm
                          subst hw9
                          refine lv_lstore_n (lv' := [(3, .long (lN 31 * v + (Int32.toInt64 (n (86 + k))))), (5, .int (nI k)), (0, .ref b), (1, .long h)]) hE.x hE.b dX4_mixedIn_142 rfl hl (by decide) rfl (fun ls hl => ?_)
                          refine lv_iinc (v := (nI (k + 1))) (lv' := [(5, .int (nI (k + 1))), (3, .long (lN 31 * v + (Int32.toInt64 (n (86 + k))))), (0, .ref b), (1, .long h)]) hE.x hE.b dX4_mixedIn_143 hl (k := 1) rfl (nI_add _ _) (by decide) rfl (fun ls hl => ?_)
                          refine lv_goto (tgt := 119) hE.x hE.b dX4_mixedIn_146 (by decide) ?_
                          exact ih119 (lN 31 * v + (Int32.toInt64 (n (86 + k)))) (k + 1) _ _ _ (by omega) (by omega) (by rw [hv]; rfl) hB hl
                    exact k119 (5 * V - 0 + 1) v 0 _ _ _ (Nat.lt_succ_self _) (by omega) (by rw [hv, show c9 = C by omega]; rfl) hB hl
                  · refine lv_lload_n hE.x hE.b dX4_mixedIn_98 rfl (lv_at hl 1 rfl) ?_
                    refine lv_aload_n hE.x hE.b dX4_mixedIn_99 rfl (lv_at hl 2 rfl) ?_
                    refine z_get (v := .ref (a 2)) hE hB inX4 0 rfl rfl 6 (by decide) q1_45 (fun _ h9 => h9) rfl dX4_mixedIn_100 ?_
                    refine lv_iload hE.x hE.b dX4_mixedIn_103 (lv_at hl 0 rfl) ?_
                    refine z_nald (k := c9) (f := lw) hE hB 3 rfl (by omega) (by decide) dX4_mixedIn_105 ?_
                    obtain ⟨q, k, hq, hk, hnk, hm⟩ := hrel.2.2.1 c9 (by omega)
                    refine z_topv (show va_rf (lw c9) = Value.ref q by rw [hq]; rfl) ?_
                    refine z_ql hB (z_cS hE hB (c_X4_mixedClause l g v q k (n (46 + 5 * c9 + 1)) (n (46 + 5 * c9 + 2)) (n (46 + 5 * c9 + 3)) (n (46 + 5 * c9 + 4)) (lW g b a (nI T) (nI C) (nI U) (nI V) rd ro lw pl pc gv aw nt ++ X) hk (List.mem_append_right _ (hBX _ hm))) q3_232 kX4_mixedClause ⟨rfl, rfl⟩ ⟨Nat.le_of_ble_eq_true rfl, Nat.le_of_ble_eq_true rfl⟩ rfl hl.1 rfl (Nat.le_of_ble_eq_true rfl) dX4_mixedIn_106 ⟨Nat.le_of_ble_eq_true rfl, Nat.le_of_ble_eq_true rfl⟩) (fun r_7 w_8 H locs hw hB => ?_)
                    obtain ⟨hr9, hw9⟩ := hw
                    have hr9 := hr9.symm
                    subst hr9
                    have hw9 := hw9.symm
                    subst hw9
                    refine lv_lstore_n (lv' := [(3, .long (lN 31 * (lN 31 * (lN 31 * (lN 31 * (lN 31 * v + lN k) + (n (46 + 5 * c9 + 1)).toInt64) + (n (46 + 5 * c9 + 2)).toInt64) + (n (46 + 5 * c9 + 3)).toInt64) + (n (46 + 5 * c9 + 4)).toInt64)), (5, .int (nI c9)), (0, .ref b), (1, .long h)]) hE.x hE.b dX4_mixedIn_109 rfl hl (by decide) rfl (fun ls hl => ?_)
                    refine lv_iinc (v := (nI (c9 + 1))) (lv' := [(5, .int (nI (c9 + 1))), (3, .long (lN 31 * (lN 31 * (lN 31 * (lN 31 * (lN 31 * v + lN k) + (n (46 + 5 * c9 + 1)).toInt64) + (n (46 + 5 * c9 + 2)).toInt64) + (n (46 + 5 * c9 + 3)).toInt64) + (n (46 + 5 * c9 + 4)).toInt64)), (0, .ref b), (1, .long h)]) hE.x hE.b dX4_mixedIn_110 hl (k := 1) rfl (nI_add _ _) (by decide) rfl (fun ls hl => ?_)
                    refine lv_goto (tgt := 89) hE.x hE.b dX4_mixedIn_113 (by decide) ?_
                    exact ih89 (lN 31 * (lN 31 * (lN 31 * (lN 31 * (lN 31 * v + lN k) + (n (46 + 5 * c9 + 1)).toInt64) + (n (46 + 5 * c9 + 2)).toInt64) + (n (46 + 5 * c9 + 3)).toInt64) + (n (46 + 5 * c9 + 4)).toInt64) (c9 + 1) _ _ _ (by omega) (by omega) (smL_5 hv hnk (by omega)) hB hl
              exact k89 (C - 0 + 1) v 0 _ _ _ (Nat.lt_succ_self _) (by omega) (by rw [hv, show k = T by omega]; rfl) hB hl
            · refine lv_iload hE.x hE.b dX4_mixedIn_45 (lv_at hl 0 rfl) ?_
              refine lv_iconst (v := nI 1) hE.x hE.b dX4_mixedIn_47 rfl ?_
              refine z_iaddN hE dX4_mixedIn_48 ?_
              refine lv_istore (lv' := [(6, .int (nI (k + 1))), (5, .int (nI k)), (3, .long v), (0, .ref b), (1, .long h)]) hE.x hE.b dX4_mixedIn_49 hl (by decide) rfl (fun ls hl => ?_)
              have k51 : ∀ (fu : Nat) (v : Int64) (j : Nat) (H : Heap) (locs : List Loc) (ls : Array Slot), T - j < fu → (j ≤ T - (k + 1)) → (v = dgB n (dgA n T (smL n h 4 T) k) k j) → zB g s (lW g b a (nI T) (nI C) (nI U) (nI V) rd ro lw pl pc gv aw nt ++ X) H locs → lv_has ls 7 [(6, .int (nI (k + 1 + j))), (5, .int (nI k)), (3, .long v), (0, .ref b), (1, .long h)] → W p l e { frames := 2, cells := 0, slots := 0, locals := 47 } s m args below meth c H locs 0 0 (MQ below (zQl g (fun r ws => r = (smL n (smL n (dgA n T (smL n h 4 T) T) 46 (5 * C)) 86 (5 * V)) ∧ ws = lW g b a (nI T) (nI C) (nI U) (nI V) rd ro lw pl pc gv aw nt ++ X)) args s 0 0 (zA (gz g))) (F0 m 51 ls []) := by
                intro fu
                induction fu with
                | zero => intro v j H locs ls hfu hj hv hB hl; exact absurd hfu (Nat.not_lt_zero _)
                | succ fu ih51 =>
                  intro v j H locs ls hfu hj hv hB hl
                  refine lv_iload hE.x hE.b dX4_mixedIn_51 (lv_at hl 0 rfl) ?_
                  refine lv_aload_n hE.x hE.b dX4_mixedIn_53 rfl (lv_at hl 3 rfl) ?_
                  refine z_get (v := .int (nI T)) hE hB inX4 0 rfl rfl 0 (by decide) q1_33 (fun _ h9 => h9) rfl dX4_mixedIn_54 ?_
                  refine z_ge (tgt := 80) (X := (((k + 1 + j) : Nat) : Int)) (Y := ((T : Nat) : Int)) hE dX4_mixedIn_57 (by decide) (nI_toInt (n := (k + 1 + j)) (by omega)) (nI_toInt (n := T) (by omega)) (fun c_9 => ?_) (fun c_9 => ?_)
                  · refine lv_iinc (v := (nI (k + 1))) (lv' := [(5, .int (nI (k + 1))), (6, .int (nI (k + 1 + j))), (3, .long v), (0, .ref b), (1, .long h)]) hE.x hE.b dX4_mixedIn_80 hl (k := 1) rfl (nI_add _ _) (by decide) rfl (fun ls hl => ?_)
                    refine lv_goto (tgt := 36) hE.x hE.b dX4_mixedIn_83 (by decide) ?_
                    exact ih36 v (k + 1) _ _ _ (by omega) (by omega) (by rw [hv, show j = T - (k + 1) by omega]; rfl) hB (lv_sub hl [0, 2, 3, 4] rfl)
                  · refine lv_lload_n hE.x hE.b dX4_mixedIn_60 rfl (lv_at hl 2 rfl) ?_
                    refine lv_aload_n hE.x hE.b dX4_mixedIn_61 rfl (lv_at hl 3 rfl) ?_
                    refine lv_iload hE.x hE.b dX4_mixedIn_62 (lv_at hl 1 rfl) ?_
                    refine lv_iload hE.x hE.b dX4_mixedIn_64 (lv_at hl 0 rfl) ?_
                    refine z_qi hB (z_cV hE hB (c_X4_roadDays l g b a T C U V rd ro lw pl pc gv aw nt k (k + 1 + j) n B X hn hrel hBX (by omega) (by omega)) q2_237 kX4_roadDays ⟨rfl, rfl⟩ ⟨Nat.le_of_ble_eq_true rfl, Nat.le_of_ble_eq_true rfl⟩ 0 rfl rfl rfl hl.1 rfl (Nat.le_of_ble_eq_true rfl) dX4_mixedIn_66 ⟨Nat.le_of_ble_eq_true rfl, Nat.le_of_ble_eq_true rfl⟩) (fun r_10 w_11 H locs hw hB => ?_)
                    obtain ⟨hr9, hw9⟩ := hw
                    have hr9 := hr9.symm
                    subst hr9
                    have hw9 := hw9.symm
                    subst hw9
                    have hw9 := rwE_9 hn (i := 6 * k + (k + 1 + j)) (by omega)
                    refine lv_i2l (v := lN (rwE n (6 * k + (k + 1 + j)))) hE.x hE.b dX4_mixedIn_69 (nI_l (by omega)) ?_
                    refine z_ql hB (z_cSN hE hB (c_X8_mixed l g v (lN (rwE n (6 * k + (k + 1 + j)))) (lW g b a (nI T) (nI C) (nI U) (nI V) rd ro lw pl pc gv aw nt ++ X)) hE.2.1.2.1.2.2.2.2.2.2 kX8_mixed ⟨rfl, rfl⟩ ⟨Nat.le_of_ble_eq_true rfl, Nat.le_of_ble_eq_true rfl⟩ rfl hl.1 rfl (Nat.le_of_ble_eq_true rfl) dX4_mixedIn_70 ⟨Nat.le_of_ble_eq_true rfl, Nat.le_of_ble_eq_true rfl⟩) (fun r_12 w_13 H locs hw hB => ?_)
                    obtain ⟨hr9, hw9⟩ := hw
                    have hr9 := hr9.symm
                    subst hr9
                    have hw9 := hw9.symm
                    subst hw9
                    refine lv_lstore_n (lv' := [(3, .long (lN 31 * v + (lN (rwE n (6 * k + (k + 1 + j)))))), (6, .int (nI (k + 1 + j))), (5, .int (nI k)), (0, .ref b), (1, .long h)]) hE.x hE.b dX4_mixedIn_73 rfl hl (by decide) rfl (fun ls hl => ?_)
                    refine lv_iinc (v := (nI ((k + 1 + j) + 1))) (lv' := [(6, .int (nI ((k + 1 + j) + 1))), (3, .long (lN 31 * v + (lN (rwE n (6 * k + (k + 1 + j)))))), (5, .int (nI k)), (0, .ref b), (1, .long h)]) hE.x hE.b dX4_mixedIn_74 hl (k := 1) rfl (nI_add _ _) (by decide) rfl (fun ls hl => ?_)
                    refine lv_goto (tgt := 51) hE.x hE.b dX4_mixedIn_77 (by decide) ?_
                    exact ih51 (lN 31 * v + (lN (rwE n (6 * k + (k + 1 + j))))) (j + 1) _ _ _ (by omega) (by omega) (by rw [hv]; simp only [dgB]; rw [rwE_v hn (by omega) (by omega), show (nI (rwE n (6 * k + (k + 1 + j)))).toInt64 = lN (rwE n (6 * k + (k + 1 + j))) from nI_l (by omega)]) hB (lv_sub hl [0, 2, 1, 3, 4] rfl)
              exact k51 (T - 0 + 1) v 0 _ _ _ (Nat.lt_succ_self _) (by omega) (by rw [hv]; rfl) hB hl
        exact k36 (T - 0 + 1) v 0 _ _ _ (Nat.lt_succ_self _) (by omega) (by rw [hv, show k = T by omega]; rfl) hB hl
      · refine lv_lload_n hE.x hE.b dX4_mixedIn_14 rfl (lv_at hl 1 rfl) ?_
        refine lv_aload_n hE.x hE.b dX4_mixedIn_15 rfl (lv_at hl 2 rfl) ?_
        refine z_get (v := .ref (a 0)) hE hB inX4 0 rfl rfl 4 (by decide) q1_43 (fun _ h9 => h9) rfl dX4_mixedIn_16 ?_
        refine lv_iload hE.x hE.b dX4_mixedIn_19 (lv_at hl 0 rfl) ?_
        refine z_iald (k := k) (f := rd) hE hB 1 rfl (by omega) (by decide) dX4_mixedIn_21 ?_
        refine z_top (y := (n (4 + k))) (hrel.1 _ (by omega)) ?_
        refine lv_i2l hE.x hE.b dX4_mixedIn_22 rfl ?_
        refine z_ql hB (z_cSN hE hB (c_X8_mixed l g v (Int32.toInt64 (n (4 + k))) (lW g b a (nI T) (nI C) (nI U) (nI V) rd ro lw pl pc gv aw nt ++ X)) hE.2.1.2.1.2.2.2.2.2.2 kX8_mixed ⟨rfl, rfl⟩ ⟨Nat.le_of_ble_eq_true rfl, Nat.le_of_ble_eq_true rfl⟩ rfl hl.1 rfl (Nat.le_of_ble_eq_true rfl) dX4_mixedIn_23 ⟨Nat.le_of_ble_eq_true rfl, Nat.le_of_ble_eq_true rfl⟩) (fun r_14 w_15 H locs hw hB => ?_)
        obtain ⟨hr9, hw9⟩ := hw
        have hr9 := hr9.symm
        subst hr9
        have hw9 := hw9.symm
        subst hw9
        refine lv_lstore_n (lv' := [(3, .long (lN 31 * v + (Int32.toInt64 (n (4 + k))))), (5, .int (nI k)), (0, .ref b), (1, .long h)]) hE.x hE.b dX4_mixedIn_26 rfl hl (by decide) rfl (fun ls hl => ?_)
        refine lv_iinc (v := (nI (k + 1))) (lv' := [(5, .int (nI (k + 1))), (3, .long (lN 31 * v + (Int32.toInt64 (n (4 + k))))), (0, .ref b), (1, .long h)]) hE.x hE.b dX4_mixedIn_27 hl (k := 1) rfl (nI_add _ _) (by decide) rfl (fun ls hl => ?_)
        refine lv_goto (tgt := 5) hE.x hE.b dX4_mixedIn_30 (by decide) ?_
        exact ih5 (lN 31 * v + (Int32.toInt64 (n (4 + k)))) (k + 1) _ _ _ (by omega) (by omega) (by rw [hv]; rfl) hB hl
  exact k5 (T - 0 + 1) h 0 _ _ _ (Nat.lt_succ_self _) (by omega) rfl hB hl
