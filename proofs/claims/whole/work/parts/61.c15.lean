theorem dX8_from_0 : decode cX8_from 0 = .ok (.iload_n 1, 1) := by decide +kernel
theorem dX8_from_1 : decode cX8_from 1 = .ok (.iconst 0, 1) := by decide +kernel
theorem dX8_from_2 : decode cX8_from 2 = .ok (.iconst 1, 1) := by decide +kernel
theorem dX8_from_3 : decode cX8_from 3 = .ok (.invokestatic 52, 3) := by decide +kernel
theorem dX8_from_6 : decode cX8_from 6 = .ok (.ifCond .ne 10, 3) := by decide +kernel
theorem dX8_from_9 : decode cX8_from 9 = .ok (.aload_n 0, 1) := by decide +kernel
theorem dX8_from_10 : decode cX8_from 10 = .ok (.bipush (-2), 2) := by decide +kernel
theorem dX8_from_12 : decode cX8_from 12 = .ok (.invokevirtual 56, 3) := by decide +kernel
theorem dX8_from_15 : decode cX8_from 15 = .ok (.ireturn, 1) := by decide +kernel
theorem dX8_from_16 : decode cX8_from 16 = .ok (.aload_n 0, 1) := by decide +kernel
theorem dX8_from_17 : decode cX8_from 17 = .ok (.getfield 19, 3) := by decide +kernel
theorem dX8_from_20 : decode cX8_from 20 = .ok (.iload_n 1, 1) := by decide +kernel
theorem dX8_from_21 : decode cX8_from 21 = .ok (.aaload, 1) := by decide +kernel
theorem dX8_from_22 : decode cX8_from 22 = .ok (.astore_n 2, 1) := by decide +kernel
theorem dX8_from_23 : decode cX8_from 23 = .ok (.aload_n 2, 1) := by decide +kernel
theorem dX8_from_24 : decode cX8_from 24 = .ok (.ifnonnull 8, 3) := by decide +kernel
theorem dX8_from_27 : decode cX8_from 27 = .ok (.aload_n 0, 1) := by decide +kernel
theorem dX8_from_28 : decode cX8_from 28 = .ok (.invokevirtual 100, 3) := by decide +kernel
theorem dX8_from_31 : decode cX8_from 31 = .ok (.ireturn, 1) := by decide +kernel
theorem dX8_from_32 : decode cX8_from 32 = .ok (.aload_n 0, 1) := by decide +kernel
theorem dX8_from_33 : decode cX8_from 33 = .ok (.getfield 10, 3) := by decide +kernel
theorem dX8_from_36 : decode cX8_from 36 = .ok (.aload_n 2, 1) := by decide +kernel
theorem dX8_from_37 : decode cX8_from 37 = .ok (.invokevirtual 225, 3) := by decide +kernel
theorem dX8_from_40 : decode cX8_from 40 = .ok (.iconst 1, 1) := by decide +kernel
theorem dX8_from_41 : decode cX8_from 41 = .ok (.ireturn, 1) := by decide +kernel
theorem dX8_image_0 : decode cX8_image 0 = .ok (.iload_n 1, 1) := by decide +kernel
theorem dX8_image_1 : decode cX8_image 1 = .ok (.iconst 0, 1) := by decide +kernel
theorem dX8_image_2 : decode cX8_image 2 = .ok (.iconst 1, 1) := by decide +kernel
theorem dX8_image_3 : decode cX8_image 3 = .ok (.invokestatic 52, 3) := by decide +kernel
theorem dX8_image_6 : decode cX8_image 6 = .ok (.ifCond .ne 10, 3) := by decide +kernel
theorem dX8_image_9 : decode cX8_image 9 = .ok (.aload_n 0, 1) := by decide +kernel
theorem dX8_image_10 : decode cX8_image 10 = .ok (.bipush (-2), 2) := by decide +kernel
theorem dX8_image_12 : decode cX8_image 12 = .ok (.invokevirtual 56, 3) := by decide +kernel
theorem dX8_image_15 : decode cX8_image 15 = .ok (.ireturn, 1) := by decide +kernel
theorem dX8_image_16 : decode cX8_image 16 = .ok (.aload_n 0, 1) := by decide +kernel
theorem dX8_image_17 : decode cX8_image 17 = .ok (.getfield 19, 3) := by decide +kernel
theorem dX8_image_20 : decode cX8_image 20 = .ok (.iload_n 1, 1) := by decide +kernel
theorem dX8_image_21 : decode cX8_image 21 = .ok (.aaload, 1) := by decide +kernel
theorem dX8_image_22 : decode cX8_image 22 = .ok (.astore_n 2, 1) := by decide +kernel
theorem dX8_image_23 : decode cX8_image 23 = .ok (.aload_n 2, 1) := by decide +kernel
theorem dX8_image_24 : decode cX8_image 24 = .ok (.ifnonnull 18, 3) := by decide +kernel
theorem dX8_image_27 : decode cX8_image 27 = .ok (.new 7, 3) := by decide +kernel
theorem dX8_image_30 : decode cX8_image 30 = .ok (.dup, 1) := by decide +kernel
theorem dX8_image_31 : decode cX8_image 31 = .ok (.invokespecial 9, 3) := by decide +kernel
theorem dX8_image_34 : decode cX8_image 34 = .ok (.astore_n 2, 1) := by decide +kernel
theorem dX8_image_35 : decode cX8_image 35 = .ok (.aload_n 0, 1) := by decide +kernel
theorem dX8_image_36 : decode cX8_image 36 = .ok (.getfield 19, 3) := by decide +kernel
theorem dX8_image_39 : decode cX8_image 39 = .ok (.iload_n 1, 1) := by decide +kernel
theorem dX8_image_40 : decode cX8_image 40 = .ok (.aload_n 2, 1) := by decide +kernel
theorem dX8_image_41 : decode cX8_image 41 = .ok (.aastore, 1) := by decide +kernel
theorem dX8_image_42 : decode cX8_image 42 = .ok (.aload_n 2, 1) := by decide +kernel
theorem dX8_image_43 : decode cX8_image 43 = .ok (.aload_n 0, 1) := by decide +kernel
theorem dX8_image_44 : decode cX8_image 44 = .ok (.getfield 10, 3) := by decide +kernel
theorem dX8_image_47 : decode cX8_image 47 = .ok (.invokevirtual 225, 3) := by decide +kernel
theorem dX8_image_50 : decode cX8_image 50 = .ok (.iconst 1, 1) := by decide +kernel
theorem dX8_image_51 : decode cX8_image 51 = .ok (.ireturn, 1) := by decide +kernel
theorem kX8_from : zCV yX8_from RX8 cX8_from 3 (some .int) 1 := ⟨q3_203, q3_204, q1_1, q3_205, rfl, by decide +kernel, by decide +kernel, by decide +kernel⟩
theorem kX8_image : zCV yX8_image RX8 cX8_image 3 (some .int) 1 := ⟨q3_195, q3_196, q1_1, q3_197, rfl, by decide +kernel, by decide +kernel, by decide +kernel⟩
set_option maxHeartbeats 4000000 in
set_option maxRecDepth 100000 in
theorem c_X8_from_b (l : Launch) (g : zG) (x9 : Nat) (d : Nat) (rr : Nat) (im : Nat) (tx : Nat) (lx : Int32) (ab : Int32) (be : Int32) (bd : Int32) (no : Int32) (fl : Int32) (tb : Nat → Int32) (ib : Nat → Option Nat) (w : Int32) (X : va_W) (hw : inZ 0 1 w.toInt = false) : Met l yX8_from (Cond.code yX8_from cX8_from 3 (some .int) :: TBL) { frames := 1, cells := 0, slots := 0, locals := 22 } (zPc [.ref x9, .int w] g (xW g x9 d rr im tx lx ab be bd no fl tb ib ++ X)) (zQi g (fun r ws => r = (-2) ∧ ws = xW g x9 d rr im tx lx ab be (bd + nI 1) no fl tb ib ++ X)) 0 0 (zA (gz g)) := by
  refine z_start (by decide +kernel) rfl (Nat.le_of_ble_eq_true rfl) ?_
  intro p e s m args below meth c ls hE hr hnm hB hl
  have hl : lv_has ls 3 [(0, .ref x9), (1, .int w)] := hl
  revert hB
  generalize s.heap = H
  generalize ([] : List Loc) = locs
  intro hB
  refine lv_iload_n hE.x hE.b dX8_from_0 rfl (lv_at hl 1 rfl) ?_
  refine lv_iconst (v := nI 0) hE.x hE.b dX8_from_1 rfl ?_
  refine lv_iconst (v := nI 1) hE.x hE.b dX8_from_2 rfl ?_
  refine z_qi hB (z_cS hE hB (c_X8_within l g w (nI 0) (nI 1) w.toInt (0 : Int) (1 : Int) (xW g x9 d rr im tx lx ab be bd no fl tb ib ++ X) rfl rfl rfl) q1_123 kX8_within ⟨rfl, rfl⟩ ⟨Nat.le_of_ble_eq_true rfl, Nat.le_of_ble_eq_true rfl⟩ rfl hl.1 rfl (Nat.le_of_ble_eq_true rfl) dX8_from_3 ⟨Nat.le_of_ble_eq_true rfl, Nat.le_of_ble_eq_true rfl⟩) (fun r_1 w_2 H locs hw hB => ?_)
  obtain ⟨hr9, hw9⟩ := hw
  have hr9 := hr9.symm
  subst hr9
  have hw9 := hw9.symm
  subst hw9
  refine z_bt (b := (inZ (0 : Int) (1 : Int) w.toInt)) (tgt := 16) hE dX8_from_6 (by decide) (fun c_3 => ?_) (fun c_3 => ?_)
  · · exact absurd (hw.symm.trans c_3) (by decide)
  · refine lv_aload_n hE.x hE.b dX8_from_9 rfl (lv_at hl 0 rfl) ?_
    refine lv_bipush (v := (-2)) hE.x hE.b dX8_from_10 rfl ?_
    refine z_qi hB (z_cV hE hB (c_X8_bad l g x9 d rr im tx lx ab be bd no fl tb ib (-2) X) q1_126 kX8_bad ⟨rfl, rfl⟩ ⟨Nat.le_of_ble_eq_true rfl, Nat.le_of_ble_eq_true rfl⟩ 0 rfl rfl rfl hl.1 rfl (Nat.le_of_ble_eq_true rfl) dX8_from_12 ⟨Nat.le_of_ble_eq_true rfl, Nat.le_of_ble_eq_true rfl⟩) (fun r_4 w_5 H locs hw hB => ?_)
    obtain ⟨hr9, hw9⟩ := hw
    have hr9 := hr9.symm
    subst hr9
    have hw9 := hw9.symm
    subst hw9
    exact z_iret (v := (-2)) (ws := xW g x9 d rr im tx lx ab be (bd + nI 1) no fl tb ib ++ X) hE hB hr (⟨rfl, rfl⟩) dX8_from_15

set_option maxHeartbeats 4000000 in
set_option maxRecDepth 100000 in
theorem c_X8_image_b (l : Launch) (g : zG) (x9 : Nat) (d : Nat) (rr : Nat) (im : Nat) (tx : Nat) (lx : Int32) (ab : Int32) (be : Int32) (bd : Int32) (no : Int32) (fl : Int32) (tb : Nat → Int32) (ib : Nat → Option Nat) (w : Int32) (X : va_W) (hw : inZ 0 1 w.toInt = false) : Met l yX8_image (Cond.code yX8_image cX8_image 3 (some .int) :: TBL) { frames := 1, cells := 0, slots := 0, locals := 22 } (zPc [.ref x9, .int w] g (xW g x9 d rr im tx lx ab be bd no fl tb ib ++ X)) (zQi g (fun r ws => r = (-2) ∧ ws = xW g x9 d rr im tx lx ab be (bd + nI 1) no fl tb ib ++ X)) 0 0 (zA (gz g)) := by
  refine z_start (by decide +kernel) rfl (Nat.le_of_ble_eq_true rfl) ?_
  intro p e s m args below meth c ls hE hr hnm hB hl
  have hl : lv_has ls 3 [(0, .ref x9), (1, .int w)] := hl
  revert hB
  generalize s.heap = H
  generalize ([] : List Loc) = locs
  intro hB
  refine lv_iload_n hE.x hE.b dX8_image_0 rfl (lv_at hl 1 rfl) ?_
  refine lv_iconst (v := nI 0) hE.x hE.b dX8_image_1 rfl ?_
  refine lv_iconst (v := nI 1) hE.x hE.b dX8_image_2 rfl ?_
  refine z_qi hB (z_cS hE hB (c_X8_within l g w (nI 0) (nI 1) w.toInt (0 : Int) (1 : Int) (xW g x9 d rr im tx lx ab be bd no fl tb ib ++ X) rfl rfl rfl) q1_123 kX8_within ⟨rfl, rfl⟩ ⟨Nat.le_of_ble_eq_true rfl, Nat.le_of_ble_eq_true rfl⟩ rfl hl.1 rfl (Nat.le_of_ble_eq_true rfl) dX8_image_3 ⟨Nat.le_of_ble_eq_true rfl, Nat.le_of_ble_eq_true rfl⟩) (fun r_1 w_2 H locs hw hB => ?_)
  obtain ⟨hr9, hw9⟩ := hw
  have hr9 := hr9.symm
  subst hr9
  have hw9 := hw9.symm
  subst hw9
  refine z_bt (b := (inZ (0 : Int) (1 : Int) w.toInt)) (tgt := 16) hE dX8_image_6 (by decide) (fun c_3 => ?_) (fun c_3 => ?_)
  · · exact absurd (hw.symm.trans c_3) (by decide)
  · refine lv_aload_n hE.x hE.b dX8_image_9 rfl (lv_at hl 0 rfl) ?_
    refine lv_bipush (v := (-2)) hE.x hE.b dX8_image_10 rfl ?_
    refine z_qi hB (z_cV hE hB (c_X8_bad l g x9 d rr im tx lx ab be bd no fl tb ib (-2) X) q1_126 kX8_bad ⟨rfl, rfl⟩ ⟨Nat.le_of_ble_eq_true rfl, Nat.le_of_ble_eq_true rfl⟩ 0 rfl rfl rfl hl.1 rfl (Nat.le_of_ble_eq_true rfl) dX8_image_12 ⟨Nat.le_of_ble_eq_true rfl, Nat.le_of_ble_eq_true rfl⟩) (fun r_4 w_5 H locs hw hB => ?_)
    obtain ⟨hr9, hw9⟩ := hw
    have hr9 := hr9.symm
    subst hr9
    have hw9 := hw9.symm
    subst hw9
    exact z_iret (v := (-2)) (ws := xW g x9 d rr im tx lx ab be (bd + nI 1) no fl tb ib ++ X) hE hB hr (⟨rfl, rfl⟩) dX8_image_15

set_option maxHeartbeats 4000000 in
set_option maxRecDepth 100000 in
theorem c_X8_from_n (l : Launch) (g : zG) (x9 : Nat) (d : Nat) (rr : Nat) (im : Nat) (tx : Nat) (lx : Int32) (ab : Int32) (be : Int32) (bd : Int32) (no : Int32) (fl : Int32) (tb : Nat → Int32) (ib : Nat → Option Nat) (k : Nat) (X : va_W) (hk : k ≤ 1) (hib : ib k = none) : Met l yX8_from (Cond.code yX8_from cX8_from 3 (some .int) :: TBL) { frames := 1, cells := 0, slots := 0, locals := 22 } (zPc [.ref x9, .int (nI k)] g (xW g x9 d rr im tx lx ab be bd no fl tb ib ++ X)) (zQi g (fun r ws => r = (-3) ∧ ws = xW g x9 d rr im tx lx ab be bd (no + nI 1) fl tb ib ++ X)) 0 0 (zA (gz g)) := by
  refine z_start (by decide +kernel) rfl (Nat.le_of_ble_eq_true rfl) ?_
  intro p e s m args below meth c ls hE hr hnm hB hl
  have hl : lv_has ls 3 [(0, .ref x9), (1, .int (nI k))] := hl
  revert hB
  generalize s.heap = H
  generalize ([] : List Loc) = locs
  intro hB
  have hin : inZ 0 1 ((k : Nat) : Int) = true := decide_eq_true (by omega)
  refine lv_iload_n hE.x hE.b dX8_from_0 rfl (lv_at hl 1 rfl) ?_
  refine lv_iconst (v := nI 0) hE.x hE.b dX8_from_1 rfl ?_
  refine lv_iconst (v := nI 1) hE.x hE.b dX8_from_2 rfl ?_
  refine z_qi hB (z_cS hE hB (c_X8_within l g (nI k) (nI 0) (nI 1) ((k : Nat) : Int) (0 : Int) (1 : Int) (xW g x9 d rr im tx lx ab be bd no fl tb ib ++ X) (nI_toInt (n := k) (by omega)) rfl rfl) q1_123 kX8_within ⟨rfl, rfl⟩ ⟨Nat.le_of_ble_eq_true rfl, Nat.le_of_ble_eq_true rfl⟩ rfl hl.1 rfl (Nat.le_of_ble_eq_true rfl) dX8_from_3 ⟨Nat.le_of_ble_eq_true rfl, Nat.le_of_ble_eq_true rfl⟩) (fun r_1 w_2 H locs hw hB => ?_)
  obtain ⟨hr9, hw9⟩ := hw
  have hr9 := hr9.symm
  subst hr9
  have hw9 := hw9.symm
  subst hw9
  refine z_bt (b := (inZ (0 : Int) (1 : Int) ((k : Nat) : Int))) (tgt := 16) hE dX8_from_6 (by decide) (fun c_3 => ?_) (fun c_3 => ?_)
  · refine lv_aload_n hE.x hE.b dX8_from_16 rfl (lv_at hl 0 rfl) ?_
    refine z_get (v := .ref im) hE hB inX8 0 rfl rfl 2 (by decide) q1_81 (fun _ h9 => h9) rfl dX8_from_17 ?_
    refine lv_iload_n hE.x hE.b dX8_from_20 rfl (lv_at hl 1 rfl) ?_
    refine z_mald (k := k) (f := ib) hE hB 2 rfl (by omega) (by decide) dX8_from_21 ?_
    refine z_topv (show va_rf (ib k) = Value.null by rw [hib]; rfl) ?_
    refine lv_astore_nN (lv' := [(2, .null), (0, .ref x9), (1, .int (nI k))]) hE.x hE.b dX8_from_22 rfl hl (by decide) rfl (fun ls hl => ?_)
    refine lv_aload_nN hE.x hE.b dX8_from_23 rfl (lv_at hl 0 rfl) ?_
    refine lv_ifnonnullN hE.x hE.b dX8_from_24 ?_
    refine lv_aload_n hE.x hE.b dX8_from_27 rfl (lv_at hl 1 rfl) ?_
    refine z_qi hB (z_cV hE hB (c_X8_no l g x9 d rr im tx lx ab be bd no fl tb ib X) q2_45 kX8_no ⟨rfl, rfl⟩ ⟨Nat.le_of_ble_eq_true rfl, Nat.le_of_ble_eq_true rfl⟩ 0 rfl rfl rfl hl.1 rfl (Nat.le_of_ble_eq_true rfl) dX8_from_28 ⟨Nat.le_of_ble_eq_true rfl, Nat.le_of_ble_eq_true rfl⟩) (fun r_4 w_5 H locs hw hB => ?_)
    obtain ⟨hr9, hw9⟩ := hw
    have hr9 := hr9.symm
    subst hr9
    have hw9 := hw9.symm
    subst hw9
    exact z_iret (v := (-3)) (ws := xW g x9 d rr im tx lx ab be bd (no + nI 1) fl tb ib ++ X) hE hB hr (⟨rfl, rfl⟩) dX8_from_31
  · · exact absurd (hin.symm.trans c_3) (by decide)

set_option maxHeartbeats 4000000 in
set_option maxRecDepth 100000 in
theorem c_X8_from_y (l : Launch) (g : zG) (x9 : Nat) (d : Nat) (rr : Nat) (im : Nat) (tx : Nat) (lx : Int32) (ab : Int32) (be : Int32) (bd : Int32) (no : Int32) (fl : Int32) (tb : Nat → Int32) (ib : Nat → Option Nat) (da : Nat → Nat) (T : Nat) (C : Nat) (U : Nat) (V : Nat) (rd : Nat → Int32) (ro : Nat → Int32) (lw : Nat → Option Nat) (pl : Nat → Option Nat) (pc : Nat → Int32) (gv : Nat → Int32) (aw : Nat → Int32) (nt : Nat → Int32) (b2 : Nat) (a2 : Nat → Nat) (T2 : Nat) (C2 : Nat) (U2 : Nat) (V2 : Nat) (rd2 : Nat → Int32) (ro2 : Nat → Int32) (lw2 : Nat → Option Nat) (pl2 : Nat → Option Nat) (pc2 : Nat → Int32) (gv2 : Nat → Int32) (aw2 : Nat → Int32) (nt2 : Nat → Int32) (k : Nat) (n : Nat → Int32) (B : va_W) (X : va_W) (hk : k ≤ 1) (hib : ib k = some b2) (hn : nOK n T2 C2 V2 U2) (hrel : relL n T2 C2 U2 V2 rd2 ro2 lw2 pl2 pc2 gv2 B) (hBX : ∀ x ∈ B, x ∈ X) : Met l yX8_from (Cond.code yX8_from cX8_from 3 (some .int) :: TBL) { frames := 2, cells := 0, slots := 0, locals := 85 } (zPc [.ref x9, .int (nI k)] g (xW g x9 d rr im tx lx ab be bd no fl tb ib ++ (lW g d da (nI T) (nI C) (nI U) (nI V) rd ro lw pl pc gv aw nt ++ (lW g b2 a2 (nI T2) (nI C2) (nI U2) (nI V2) rd2 ro2 lw2 pl2 pc2 gv2 aw2 nt2 ++ X)))) (zQi g (fun r ws => r = nI 1 ∧ ws = xW g x9 d rr im tx lx ab be bd no fl tb ib ++ (lW g d da (nI T2) (nI C2) (nI U2) (nI V2) (va_cpy rd2 rd 0 0 6) (va_cpy ro2 ro 0 0 36) (va_cpy lw2 lw 0 0 8) (va_cpy pl2 pl 0 0 64) (va_cpy pc2 pc 0 0 8) (va_cpy gv2 gv 0 0 40) aw nt ++ (lW g b2 a2 (nI T2) (nI C2) (nI U2) (nI V2) rd2 ro2 lw2 pl2 pc2 gv2 aw2 nt2 ++ X)))) 0 0 (zA (gz g)) := by
  refine z_start (by decide +kernel) rfl (Nat.le_of_ble_eq_true rfl) ?_
  intro p e s m args below meth c ls hE hr hnm hB hl
  have hl : lv_has ls 3 [(0, .ref x9), (1, .int (nI k))] := hl
  revert hB
  generalize s.heap = H
  generalize ([] : List Loc) = locs
  intro hB
  have hin : inZ 0 1 ((k : Nat) : Int) = true := decide_eq_true (by omega)
  refine lv_iload_n hE.x hE.b dX8_from_0 rfl (lv_at hl 1 rfl) ?_
  refine lv_iconst (v := nI 0) hE.x hE.b dX8_from_1 rfl ?_
  refine lv_iconst (v := nI 1) hE.x hE.b dX8_from_2 rfl ?_
  refine z_qi hB (z_cS hE hB (c_X8_within l g (nI k) (nI 0) (nI 1) ((k : Nat) : Int) (0 : Int) (1 : Int) (xW g x9 d rr im tx lx ab be bd no fl tb ib ++ (lW g d da (nI T) (nI C) (nI U) (nI V) rd ro lw pl pc gv aw nt ++ (lW g b2 a2 (nI T2) (nI C2) (nI U2) (nI V2) rd2 ro2 lw2 pl2 pc2 gv2 aw2 nt2 ++ X))) (nI_toInt (n := k) (by omega)) rfl rfl) q1_123 kX8_within ⟨rfl, rfl⟩ ⟨Nat.le_of_ble_eq_true rfl, Nat.le_of_ble_eq_true rfl⟩ rfl hl.1 rfl (Nat.le_of_ble_eq_true rfl) dX8_from_3 ⟨Nat.le_of_ble_eq_true rfl, Nat.le_of_ble_eq_true rfl⟩) (fun r_1 w_2 H locs hw hB => ?_)
  obtain ⟨hr9, hw9⟩ := hw
  have hr9 := hr9.symm
  subst hr9
  have hw9 := hw9.symm
  subst hw9
  refine z_bt (b := (inZ (0 : Int) (1 : Int) ((k : Nat) : Int))) (tgt := 16) hE dX8_from_6 (by decide) (fun c_3 => ?_) (fun c_3 => ?_)
  · refine lv_aload_n hE.x hE.b dX8_from_16 rfl (lv_at hl 0 rfl) ?_
    refine z_get (v := .ref im) hE hB inX8 0 rfl rfl 2 (by decide) q1_81 (fun _ h9 => h9) rfl dX8_from_17 ?_
    refine lv_iload_n hE.x hE.b dX8_from_20 rfl (lv_at hl 1 rfl) ?_
    refine z_mald (k := k) (f := ib) hE hB 2 rfl (by omega) (by decide) dX8_from_21 ?_
    refine z_topv (show va_rf (ib k) = Value.ref b2 by rw [hib]; rfl) ?_
    refine lv_astore_n (lv' := [(2, .ref b2), (0, .ref x9), (1, .int (nI k))]) hE.x hE.b dX8_from_22 rfl hl (by decide) rfl (fun ls hl => ?_)
    refine lv_aload_n hE.x hE.b dX8_from_23 rfl (lv_at hl 0 rfl) ?_
    refine lv_ifnonnull (tgt := 32) hE.x hE.b dX8_from_24 (by decide) ?_
    refine lv_aload_n hE.x hE.b dX8_from_32 rfl (lv_at hl 1 rfl) ?_
    refine z_get (v := .ref d) hE hB inX8 0 rfl rfl 0 (by decide) q1_79 (fun _ h9 => h9) rfl dX8_from_33 ?_
    refine lv_aload_n hE.x hE.b dX8_from_36 rfl (lv_at hl 0 rfl) ?_
    have hB := zB_perm hB (List.perm_append_comm_assoc _ _ _)
    have hB := zB_perm hB (List.Perm.append_left _ (List.perm_append_comm_assoc _ _ _))
    refine z_qv hB (z_cV hE hB (c_X4_becomeLike l g d da T C U V rd ro lw pl pc gv aw nt b2 a2 T2 C2 U2 V2 rd2 ro2 lw2 pl2 pc2 gv2 aw2 nt2 n B (xW g x9 d rr im tx lx ab be bd no fl tb ib ++ X) hn hrel (fun x h => List.mem_append_right _ (hBX x h))) q3_198 kX4_becomeLike ⟨rfl, rfl⟩ ⟨Nat.le_of_ble_eq_true rfl, Nat.le_of_ble_eq_true rfl⟩ 0 rfl rfl rfl hl.1 rfl (Nat.le_of_ble_eq_true rfl) dX8_from_37 ⟨Nat.le_of_ble_eq_true rfl, Nat.le_of_ble_eq_true rfl⟩) (fun w_5 H locs hw hB => ?_)
    have hw9 := hw
    have hw9 := hw9.symm
    subst hw9
    refine lv_iconst (v := nI 1) hE.x hE.b dX8_from_40 rfl ?_
    have hB := zB_perm hB (List.Perm.append_left _ (List.perm_append_comm_assoc _ _ _))
    have hB := zB_perm hB (List.perm_append_comm_assoc _ _ _)
    exact z_iret (v := (nI 1)) (ws := xW g x9 d rr im tx lx ab be bd no fl tb ib ++ (lW g d da (nI T2) (nI C2) (nI U2) (nI V2) (va_cpy rd2 rd 0 0 6) (va_cpy ro2 ro 0 0 36) (va_cpy lw2 lw 0 0 8) (va_cpy pl2 pl 0 0 64) (va_cpy pc2 pc 0 0 8) (va_cpy gv2 gv 0 0 40) aw nt ++ (lW g b2 a2 (nI T2) (nI C2) (nI U2) (nI V2) rd2 ro2 lw2 pl2 pc2 gv2 aw2 nt2 ++ X))) hE hB hr (⟨rfl, rfl⟩) dX8_from_41
  · · exact absurd (hin.symm.trans c_3) (by decide)

set_option maxHeartbeats 4000000 in
set_option maxRecDepth 100000 in
theorem c_X8_image_y (l : Launch) (g : zG) (x9 : Nat) (d : Nat) (rr : Nat) (im : Nat) (tx : Nat) (lx : Int32) (ab : Int32) (be : Int32) (bd : Int32) (no : Int32) (fl : Int32) (tb : Nat → Int32) (ib : Nat → Option Nat) (da : Nat → Nat) (T : Nat) (C : Nat) (U : Nat) (V : Nat) (rd : Nat → Int32) (ro : Nat → Int32) (lw : Nat → Option Nat) (pl : Nat → Option Nat) (pc : Nat → Int32) (gv : Nat → Int32) (aw : Nat → Int32) (nt : Nat → Int32) (b2 : Nat) (a2 : Nat → Nat) (T2 : Nat) (C2 : Nat) (U2 : Nat) (V2 : Nat) (rd2 : Nat → Int32) (ro2 : Nat → Int32) (lw2 : Nat → Option Nat) (pl2 : Nat → Option Nat) (pc2 : Nat → Int32) (gv2 : Nat → Int32) (aw2 : Nat → Int32) (nt2 : Nat → Int32) (k : Nat) (n : Nat → Int32) (B : va_W) (X : va_W) (hk : k ≤ 1) (hib : ib k = some b2) (hn : nOK n T C V U) (hrel : relL n T C U V rd ro lw pl pc gv B) (hBX : ∀ x ∈ B, x ∈ X) : Met l yX8_image (Cond.code yX8_image cX8_image 3 (some .int) :: TBL) { frames := 2, cells := 0, slots := 0, locals := 85 } (zPc [.ref x9, .int (nI k)] g (xW g x9 d rr im tx lx ab be bd no fl tb ib ++ (lW g d da (nI T) (nI C) (nI U) (nI V) rd ro lw pl pc gv aw nt ++ (lW g b2 a2 (nI T2) (nI C2) (nI U2) (nI V2) rd2 ro2 lw2 pl2 pc2 gv2 aw2 nt2 ++ X)))) (zQi g (fun r ws => r = nI 1 ∧ ws = xW g x9 d rr im tx lx ab be bd no fl tb ib ++ (lW g d da (nI T) (nI C) (nI U) (nI V) rd ro lw pl pc gv aw nt ++ (lW g b2 a2 (nI T) (nI C) (nI U) (nI V) (va_cpy rd rd2 0 0 6) (va_cpy ro ro2 0 0 36) (va_cpy lw lw2 0 0 8) (va_cpy pl pl2 0 0 64) (va_cpy pc pc2 0 0 8) (va_cpy gv gv2 0 0 40) aw2 nt2 ++ X)))) 0 0 (zA (gz g)) := by
  refine z_start (by decide +kernel) rfl (Nat.le_of_ble_eq_true rfl) ?_
  intro p e s m args below meth c ls hE hr hnm hB hl
  have hl : lv_has ls 3 [(0, .ref x9), (1, .int (nI k))] := hl
  revert hB
  generalize s.heap = H
  generalize ([] : List Loc) = locs
  intro hB
  have hin : inZ 0 1 ((k : Nat) : Int) = true := decide_eq_true (by omega)
  refine lv_iload_n hE.x hE.b dX8_image_0 rfl (lv_at hl 1 rfl) ?_
  refine lv_iconst (v := nI 0) hE.x hE.b dX8_image_1 rfl ?_
  refine lv_iconst (v := nI 1) hE.x hE.b dX8_image_2 rfl ?_
  refine z_qi hB (z_cS hE hB (c_X8_within l g (nI k) (nI 0) (nI 1) ((k : Nat) : Int) (0 : Int) (1 : Int) (xW g x9 d rr im tx lx ab be bd no fl tb ib ++ (lW g d da (nI T) (nI C) (nI U) (nI V) rd ro lw pl pc gv aw nt ++ (lW g b2 a2 (nI T2) (nI C2) (nI U2) (nI V2) rd2 ro2 lw2 pl2 pc2 gv2 aw2 nt2 ++ X))) (nI_toInt (n := k) (by omega)) rfl rfl) q1_123 kX8_within ⟨rfl, rfl⟩ ⟨Nat.le_of_ble_eq_true rfl, Nat.le_of_ble_eq_true rfl⟩ rfl hl.1 rfl (Nat.le_of_ble_eq_true rfl) dX8_image_3 ⟨Nat.le_of_ble_eq_true rfl, Nat.le_of_ble_eq_true rfl⟩) (fun r_1 w_2 H locs hw hB => ?_)
  obtain ⟨hr9, hw9⟩ := hw
  have hr9 := hr9.symm
  subst hr9
  have hw9 := hw9.symm
  subst hw9
  refine z_bt (b := (inZ (0 : Int) (1 : Int) ((k : Nat) : Int))) (tgt := 16) hE dX8_image_6 (by decide) (fun c_3 => ?_) (fun c_3 => ?_)
  · refine lv_aload_n hE.x hE.b dX8_image_16 rfl (lv_at hl 0 rfl) ?_
    refine z_get (v := .ref im) hE hB inX8 0 rfl rfl 2 (by decide) q1_81 (fun _ h9 => h9) rfl dX8_image_17 ?_
    refine lv_iload_n hE.x hE.b dX8_image_20 rfl (lv_at hl 1 rfl) ?_
    refine z_mald (k := k) (f := ib) hE hB 2 rfl (by omega) (by decide) dX8_image_21 ?_
    refine z_topv (show va_rf (ib k) = Value.ref b2 by rw [hib]; rfl) ?_
    refine lv_astore_n (lv' := [(2, .ref b2), (0, .ref x9), (1, .int (nI k))]) hE.x hE.b dX8_image_22 rfl hl (by decide) rfl (fun ls hl => ?_)
    refine lv_aload_n hE.x hE.b dX8_image_23 rfl (lv_at hl 0 rfl) ?_
    refine lv_ifnonnull (tgt := 42) hE.x hE.b dX8_image_24 (by decide) ?_
    refine lv_aload_n hE.x hE.b dX8_image_42 rfl (lv_at hl 0 rfl) ?_
    refine lv_aload_n hE.x hE.b dX8_image_43 rfl (lv_at hl 1 rfl) ?_
    refine z_get (v := .ref d) hE hB inX8 0 rfl rfl 0 (by decide) q1_79 (fun _ h9 => h9) rfl dX8_image_44 ?_
    have hB := zB_perm hB (List.Perm.append_left _ (List.perm_append_comm_assoc _ _ _))
    have hB := zB_perm hB (List.perm_append_comm_assoc _ _ _)
    have hB := zB_perm hB (List.Perm.append_left _ (List.perm_append_comm_assoc _ _ _))
    refine z_qv hB (z_cV hE hB (c_X4_becomeLike l g b2 a2 T2 C2 U2 V2 rd2 ro2 lw2 pl2 pc2 gv2 aw2 nt2 d da T C U V rd ro lw pl pc gv aw nt n B (xW g x9 d rr im tx lx ab be bd no fl tb ib ++ X) hn hrel (fun x h => List.mem_append_right _ (hBX x h))) q3_198 kX4_becomeLike ⟨rfl, rfl⟩ ⟨Nat.le_of_ble_eq_true rfl, Nat.le_of_ble_eq_true rfl⟩ 0 rfl rfl rfl hl.1 rfl (Nat.le_of_ble_eq_true rfl) dX8_image_47 ⟨Nat.le_of_ble_eq_true rfl, Nat.le_of_ble_eq_true rfl⟩) (fun w_5 H locs hw hB => ?_)
    have hw9 := hw
    have hw9 := hw9.symm
    subst hw9
    refine lv_iconst (v := nI 1) hE.x hE.b dX8_image_50 rfl ?_
    have hB := zB_perm hB (List.Perm.append_left _ (List.perm_append_comm_assoc _ _ _))
    have hB := zB_perm hB (List.perm_append_comm_assoc _ _ _)
    have hB := zB_perm hB (List.Perm.append_left _ (List.perm_append_comm_assoc _ _ _))
    exact z_iret (v := (nI 1)) (ws := xW g x9 d rr im tx lx ab be bd no fl tb ib ++ (lW g d da (nI T) (nI C) (nI U) (nI V) rd ro lw pl pc gv aw nt ++ (lW g b2 a2 (nI T) (nI C) (nI U) (nI V) (va_cpy rd rd2 0 0 6) (va_cpy ro ro2 0 0 36) (va_cpy lw lw2 0 0 8) (va_cpy pl pl2 0 0 64) (va_cpy pc pc2 0 0 8) (va_cpy gv gv2 0 0 40) aw2 nt2 ++ X))) hE hB hr (⟨rfl, rfl⟩) dX8_image_51
  · · exact absurd (hin.symm.trans c_3) (by decide)

set_option maxHeartbeats 4000000 in
set_option maxRecDepth 100000 in
theorem c_X8_image_n (l : Launch) (g : zG) (x9 : Nat) (d : Nat) (rr : Nat) (im : Nat) (tx : Nat) (lx : Int32) (ab : Int32) (be : Int32) (bd : Int32) (no : Int32) (fl : Int32) (tb : Nat → Int32) (ib : Nat → Option Nat) (da : Nat → Nat) (T : Nat) (C : Nat) (U : Nat) (V : Nat) (rd : Nat → Int32) (ro : Nat → Int32) (lw : Nat → Option Nat) (pl : Nat → Option Nat) (pc : Nat → Int32) (gv : Nat → Int32) (aw : Nat → Int32) (nt : Nat → Int32) (k : Nat) (n : Nat → Int32) (B : va_W) (X : va_W) (hk : k ≤ 1) (hib : ib k = none) (hn : nOK n T C V U) (hrel : relL n T C U V rd ro lw pl pc gv B) (hBX : ∀ x ∈ B, x ∈ X) : Met l yX8_image (Cond.code yX8_image cX8_image 3 (some .int) :: TBL) { frames := 2, cells := 9, slots := 216, locals := 85 } (zPc [.ref x9, .int (nI k)] g (xW g x9 d rr im tx lx ab be bd no fl tb ib ++ (lW g d da (nI T) (nI C) (nI U) (nI V) rd ro lw pl pc gv aw nt ++ X))) (zQi g (fun r ws => ∃ (b9 : Nat) (a9 : Nat → Nat), r = nI 1 ∧ ws = xW g x9 d rr im tx lx ab be bd no fl tb (va_up ib k (some b9)) ++ (lW g d da (nI T) (nI C) (nI U) (nI V) rd ro lw pl pc gv aw nt ++ (lW g b9 a9 (nI T) (nI C) (nI U) (nI V) (va_cpy rd (fun _ => 0) 0 0 6) (va_cpy ro (fun _ => 0) 0 0 36) (va_cpy lw (fun _ => none) 0 0 8) (va_cpy pl (fun _ => none) 0 0 64) (va_cpy pc (fun _ => 0) 0 0 8) (va_cpy gv (fun _ => 0) 0 0 40) (fun _ => 0) (fun _ => 0) ++ X)))) 9 216 (zA (gz g)) := by
  refine z_start (by decide +kernel) rfl (Nat.le_of_ble_eq_true rfl) ?_
  intro p e s m args below meth c ls hE hr hnm hB hl
  have hl : lv_has ls 3 [(0, .ref x9), (1, .int (nI k))] := hl
  revert hB
  generalize s.heap = H
  generalize ([] : List Loc) = locs
  intro hB
  have hin : inZ 0 1 ((k : Nat) : Int) = true := decide_eq_true (by omega)
  refine lv_iload_n hE.x hE.b dX8_image_0 rfl (lv_at hl 1 rfl) ?_
  refine lv_iconst (v := nI 0) hE.x hE.b dX8_image_1 rfl ?_
  refine lv_iconst (v := nI 1) hE.x hE.b dX8_image_2 rfl ?_
  refine z_qi hB (z_cS hE hB (c_X8_within l g (nI k) (nI 0) (nI 1) ((k : Nat) : Int) (0 : Int) (1 : Int) (xW g x9 d rr im tx lx ab be bd no fl tb ib ++ (lW g d da (nI T) (nI C) (nI U) (nI V) rd ro lw pl pc gv aw nt ++ X)) (nI_toInt (n := k) (by omega)) rfl rfl) q1_123 kX8_within ⟨rfl, rfl⟩ ⟨Nat.le_of_ble_eq_true rfl, Nat.le_of_ble_eq_true rfl⟩ rfl hl.1 rfl (Nat.le_of_ble_eq_true rfl) dX8_image_3 ⟨Nat.le_of_ble_eq_true rfl, Nat.le_of_ble_eq_true rfl⟩) (fun r_1 w_2 H locs hw hB => ?_)
  obtain ⟨hr9, hw9⟩ := hw
  have hr9 := hr9.symm
  subst hr9
  have hw9 := hw9.symm
  subst hw9
  refine z_bt (b := (inZ (0 : Int) (1 : Int) ((k : Nat) : Int))) (tgt := 16) hE dX8_image_6 (by decide) (fun c_3 => ?_) (fun c_3 => ?_)
  · refine lv_aload_n hE.x hE.b dX8_image_16 rfl (lv_at hl 0 rfl) ?_
    refine z_get (v := .ref im) hE hB inX8 0 rfl rfl 2 (by decide) q1_81 (fun _ h9 => h9) rfl dX8_image_17 ?_
    refine lv_iload_n hE.x hE.b dX8_image_20 rfl (lv_at hl 1 rfl) ?_
    refine z_mald (k := k) (f := ib) hE hB 2 rfl (by omega) (by decide) dX8_image_21 ?_
    refine z_topv (show va_rf (ib k) = Value.null by rw [hib]; rfl) ?_
    refine lv_astore_nN (lv' := [(2, .null), (0, .ref x9), (1, .int (nI k))]) hE.x hE.b dX8_image_22 rfl hl (by decide) rfl (fun ls hl => ?_)
    refine lv_aload_nN hE.x hE.b dX8_image_23 rfl (lv_at hl 0 rfl) ?_
    refine lv_ifnonnullN hE.x hE.b dX8_image_24 ?_
    refine z_new (ci := 4) (fs := [.int 0, .int 0, .int 0, .int 0, .null, .null, .null, .null, .null, .null, .null, .null]) hE hB inX4 tyX4 tyX4_ok q1_25 q1_26 q1_2 rfl (fun j hj => by (match j, hj with | 0, _ => rfl | 1, _ => rfl | 2, _ => rfl | 3, _ => rfl | 4, _ => rfl | 5, _ => rfl | 6, _ => rfl | 7, _ => rfl | 8, _ => rfl | 9, _ => rfl | 10, _ => rfl | 11, _ => rfl | n + 12, h => omega)) (Nat.le_of_ble_eq_true rfl) (Nat.le_of_ble_eq_true rfl) dX8_image_27 (fun q_4 H hB => ?_)
    refine lv_dup hE.x hE.b dX8_image_30 rfl ?_
    refine z_qv hB (z_cIN hE hB (c_X4_init l g q_4 (xW g x9 d rr im tx lx ab be bd no fl tb ib ++ (lW g d da (nI T) (nI C) (nI U) (nI V) rd ro lw pl pc gv aw nt ++ X))) hE.2.1.2.1.1 kX4_init ⟨rfl, rfl⟩ ⟨Nat.le_of_ble_eq_true rfl, Nat.le_of_ble_eq_true rfl⟩ rfl hl.1 rfl (Nat.le_of_ble_eq_true rfl) dX8_image_31 ⟨Nat.le_of_ble_eq_true rfl, Nat.le_of_ble_eq_true rfl⟩) (fun w_6 H locs hw hB => ?_)
    obtain ⟨a_7, hw9⟩ := hw
    have hw9 := hw9.symm
    subst hw9
    refine lv_astore_n (lv' := [(2, .ref q_4), (0, .ref x9), (1, .int (nI k))]) hE.x hE.b dX8_image_34 rfl hl (by decide) rfl (fun ls hl => ?_)
    refine lv_aload_n hE.x hE.b dX8_image_35 rfl (lv_at hl 1 rfl) ?_
    refine z_get (v := .ref im) hE hB inX8 9 rfl rfl 2 (by decide) q1_81 (fun _ h9 => h9) rfl dX8_image_36 ?_
    refine lv_iload_n hE.x hE.b dX8_image_39 rfl (lv_at hl 2 rfl) ?_
    refine lv_aload_n hE.x hE.b dX8_image_40 rfl (lv_at hl 0 rfl) ?_
    refine z_mast (k := k) (f := ib) (v := q_4) (ws' := lW g q_4 a_7 (nI 0) (nI 0) (nI 0) (nI 0) (fun _ => 0) (fun _ => 0) (fun _ => none) (fun _ => none) (fun _ => 0) (fun _ => 0) (fun _ => 0) (fun _ => 0) ++ (xW g x9 d rr im tx lx ab be bd no fl tb (va_up ib k (some q_4)) ++ (lW g d da (nI T) (nI C) (nI U) (nI V) rd ro lw pl pc gv aw nt ++ X))) hE hB 11 rfl (by omega) (by decide) 0 rfl rfl dX8_image_41 (fun H locs hB => ?_)
    refine lv_aload_n hE.x hE.b dX8_image_42 rfl (lv_at hl 0 rfl) ?_
    refine lv_aload_n hE.x hE.b dX8_image_43 rfl (lv_at hl 1 rfl) ?_
    refine z_get (v := .ref d) hE hB inX8 9 rfl rfl 0 (by decide) q1_79 (fun _ h9 => h9) rfl dX8_image_44 ?_
    have hB := zB_perm hB (List.Perm.append_left _ (List.perm_append_comm_assoc _ _ _))
    refine z_qv hB (z_cV hE hB (c_X4_becomeLike l g q_4 a_7 0 0 0 0 (fun _ => 0) (fun _ => 0) (fun _ => none) (fun _ => none) (fun _ => 0) (fun _ => 0) (fun _ => 0) (fun _ => 0) d da T C U V rd ro lw pl pc gv aw nt n B (xW g x9 d rr im tx lx ab be bd no fl tb (va_up ib k (some q_4)) ++ X) hn hrel (fun x h => List.mem_append_right _ (hBX x h))) q3_198 kX4_becomeLike ⟨rfl, rfl⟩ ⟨Nat.le_of_ble_eq_true rfl, Nat.le_of_ble_eq_true rfl⟩ 0 rfl rfl rfl hl.1 rfl (Nat.le_of_ble_eq_true rfl) dX8_image_47 ⟨Nat.le_of_ble_eq_true rfl, Nat.le_of_ble_eq_true rfl⟩) (fun w_9 H locs hw hB => ?_)
    have hw9 := hw
    have hw9 := hw9.symm
    subst hw9
    refine lv_iconst (v := nI 1) hE.x hE.b dX8_image_50 rfl ?_
    have hB := zB_perm hB (List.Perm.append_left _ (List.perm_append_comm_assoc _ _ _))
    have hB := zB_perm hB (List.perm_append_comm_assoc _ _ _)
    have hB := zB_perm hB (List.Perm.append_left _ (List.perm_append_comm_assoc _ _ _))
    exact z_iret (v := (nI 1)) (ws := xW g x9 d rr im tx lx ab be bd no fl tb (va_up ib k (some q_4)) ++ (lW g d da (nI T) (nI C) (nI U) (nI V) rd ro lw pl pc gv aw nt ++ (lW g q_4 a_7 (nI T) (nI C) (nI U) (nI V) (va_cpy rd (fun _ => 0) 0 0 6) (va_cpy ro (fun _ => 0) 0 0 36) (va_cpy lw (fun _ => none) 0 0 8) (va_cpy pl (fun _ => none) 0 0 64) (va_cpy pc (fun _ => 0) 0 0 8) (va_cpy gv (fun _ => 0) 0 0 40) (fun _ => 0) (fun _ => 0) ++ X))) hE hB hr (⟨q_4, a_7, rfl, rfl⟩) dX8_image_51
  · · exact absurd (hin.symm.trans c_3) (by decide)
