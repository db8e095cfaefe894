theorem dX8_read_0 : decode cX8_read 0 = .ok (.aload_n 0, 1) := by decide +kernel
theorem dX8_read_1 : decode cX8_read 1 = .ok (.getfield 16, 3) := by decide +kernel
theorem dX8_read_4 : decode cX8_read 4 = .ok (.invokevirtual 49, 3) := by decide +kernel
theorem dX8_read_7 : decode cX8_read 7 = .ok (.new 106, 3) := by decide +kernel
theorem dX8_read_10 : decode cX8_read 10 = .ok (.dup, 1) := by decide +kernel
theorem dX8_read_11 : decode cX8_read 11 = .ok (.aload_n 0, 1) := by decide +kernel
theorem dX8_read_12 : decode cX8_read 12 = .ok (.getfield 23, 3) := by decide +kernel
theorem dX8_read_15 : decode cX8_read 15 = .ok (.aload_n 0, 1) := by decide +kernel
theorem dX8_read_16 : decode cX8_read 16 = .ok (.getfield 27, 3) := by decide +kernel
theorem dX8_read_19 : decode cX8_read 19 = .ok (.aload_n 0, 1) := by decide +kernel
theorem dX8_read_20 : decode cX8_read 20 = .ok (.getfield 16, 3) := by decide +kernel
theorem dX8_read_23 : decode cX8_read 23 = .ok (.invokespecial 108, 3) := by decide +kernel
theorem dX8_read_26 : decode cX8_read 26 = .ok (.astore_n 1, 1) := by decide +kernel
theorem dX8_read_27 : decode cX8_read 27 = .ok (.aload_n 1, 1) := by decide +kernel
theorem dX8_read_28 : decode cX8_read 28 = .ok (.invokevirtual 111, 3) := by decide +kernel
theorem dX8_read_31 : decode cX8_read 31 = .ok (.istore_n 2, 1) := by decide +kernel
theorem dX8_read_32 : decode cX8_read 32 = .ok (.iload_n 2, 1) := by decide +kernel
theorem dX8_read_33 : decode cX8_read 33 = .ok (.ifCond .ge 11, 3) := by decide +kernel
theorem dX8_read_36 : decode cX8_read 36 = .ok (.bipush (-10), 2) := by decide +kernel
theorem dX8_read_38 : decode cX8_read 38 = .ok (.aload_n 1, 1) := by decide +kernel
theorem dX8_read_39 : decode cX8_read 39 = .ok (.getfield 114, 3) := by decide +kernel
theorem dX8_read_42 : decode cX8_read 42 = .ok (.isub, 1) := by decide +kernel
theorem dX8_read_43 : decode cX8_read 43 = .ok (.ireturn, 1) := by decide +kernel
theorem dX8_read_44 : decode cX8_read 44 = .ok (.aload_n 0, 1) := by decide +kernel
theorem dX8_read_45 : decode cX8_read 45 = .ok (.getfield 10, 3) := by decide +kernel
theorem dX8_read_48 : decode cX8_read 48 = .ok (.astore_n 3, 1) := by decide +kernel
theorem dX8_read_49 : decode cX8_read 49 = .ok (.aload_n 0, 1) := by decide +kernel
theorem dX8_read_50 : decode cX8_read 50 = .ok (.aload_n 0, 1) := by decide +kernel
theorem dX8_read_51 : decode cX8_read 51 = .ok (.getfield 16, 3) := by decide +kernel
theorem dX8_read_54 : decode cX8_read 54 = .ok (.putfield 10, 3) := by decide +kernel
theorem dX8_read_57 : decode cX8_read 57 = .ok (.aload_n 0, 1) := by decide +kernel
theorem dX8_read_58 : decode cX8_read 58 = .ok (.aload_n 3, 1) := by decide +kernel
theorem dX8_read_59 : decode cX8_read 59 = .ok (.putfield 16, 3) := by decide +kernel
theorem dX8_read_62 : decode cX8_read 62 = .ok (.iload_n 2, 1) := by decide +kernel
theorem dX8_read_63 : decode cX8_read 63 = .ok (.ireturn, 1) := by decide +kernel
theorem kX8_read : zCV yX8_read RX8 cX8_read 4 (some .int) 0 := ⟨q2_62, q2_63, q1_1, q2_64, rfl, by decide +kernel, by decide +kernel, by decide +kernel⟩
set_option maxHeartbeats 4000000 in
set_option maxRecDepth 100000 in
theorem c_X8_read (l : Launch) (g : zG) (x9 : Nat) (d : Nat) (rr : Nat) (im : Nat) (tx : Nat) (ab : Int32) (be : Int32) (tb : Nat → Int32) (ib : Nat → Option Nat) (da : Nat → Nat) (T : Nat) (C : Nat) (U : Nat) (V : Nat) (rd : Nat → Int32) (ro : Nat → Int32) (lw : Nat → Option Nat) (pl : Nat → Option Nat) (pc : Nat → Int32) (gv : Nat → Int32) (aw : Nat → Int32) (nt : Nat → Int32) (dr : Nat → Nat) (T2 : Nat) (C2 : Nat) (U2 : Nat) (V2 : Nat) (rd2 : Nat → Int32) (ro2 : Nat → Int32) (lw2 : Nat → Option Nat) (pl2 : Nat → Option Nat) (pc2 : Nat → Int32) (gv2 : Nat → Int32) (aw2 : Nat → Int32) (nt2 : Nat → Int32) (A : Nat → Nat → Int32) (ln : Nat) (f6 : Nat → Int32) (f7 : Nat → Int32) (Y : va_W) (X : va_W) (hn : nOK (A 0) T C V U) (hrel : relL (A 0) T C U V rd ro lw pl pc gv Y) (hbn : bN lw2 8 Y ∧ bN pl2 64 Y) (hl150 : ln ≤ 150) (hby : byOK (A 5) ln) (htb : ∀ i, i < ln → tb i = A 5 i) : Met l yX8_read (Cond.code yX8_read cX8_read 4 (some .int) :: TBL) { frames := 9, cells := 151, slots := 757, locals := 202 } (zPc [.ref x9] g (xW g x9 d rr im tx (nI ln) ab be (A 3 0) (A 3 1) (A 3 2) tb ib ++ (lW g d da (nI T) (nI C) (nI U) (nI V) rd ro lw pl pc gv aw nt ++ (lW g rr dr (nI T2) (nI C2) (nI U2) (nI V2) rd2 ro2 lw2 pl2 pc2 gv2 aw2 nt2 ++ (Y ++ X))))) (zQi g (fun r ws => r = (xI (pRead (A 5) ln (clr (A 6)))) ∧ cD g x9 im tx (updA (updA (updA A 0 (nRd (pRead (A 5) ln (clr (A 6))) (A 0))) 6 f6) 7 f7) ln ab be tb ib Y X ws)) 151 757 (zA (gz g)) := by
  refine z_start (by decide +kernel) rfl (Nat.le_of_ble_eq_true rfl) ?_
  intro p e s m args below meth c ls hE hr hnm hB hl
  have hl : lv_has ls 4 [(0, .ref x9)] := hl
  revert hB
  generalize s.heap = H
  generalize ([] : List Loc) = locs
  intro hB
  have hB := zB_perm hB (List.Perm.append_left _ (List.perm_append_comm_assoc _ _ _))
  have hB := zB_perm hB (List.Perm.append_left _ (List.Perm.append_left _ (List.perm_append_comm_assoc _ _ _)))
  refine lv_aload_n hE.x hE.b dX8_read_0 rfl (lv_at hl 0 rfl) ?_
  refine z_get (v := .ref rr) hE hB inX8 0 rfl rfl 1 (by decide) q1_80 (fun _ h9 => h9) rfl dX8_read_1 ?_
  have hB := zB_perm hB (List.perm_append_comm_assoc _ _ _)
  refine z_qv hB (z_cV hE hB (c_X4_empty l g rr dr T2 C2 U2 V2 rd2 ro2 lw2 pl2 pc2 gv2 aw2 nt2 (xW g x9 d rr im tx (nI ln) ab be (A 3 0) (A 3 1) (A 3 2) tb ib ++ (Y ++ (lW g d da (nI T) (nI C) (nI U) (nI V) rd ro lw pl pc gv aw nt ++ X)))) q1_115 kX4_empty ⟨rfl, rfl⟩ ⟨Nat.le_of_ble_eq_true rfl, Nat.le_of_ble_eq_true rfl⟩ 0 rfl rfl rfl hl.1 rfl (Nat.le_of_ble_eq_true rfl) dX8_read_4 ⟨Nat.le_of_ble_eq_true rfl, Nat.le_of_ble_eq_true rfl⟩) (fun w_2 H locs hw hB => ?_)
  obtain ⟨f9_3, hw9, hf_4⟩ := hw
  have hw9 := hw9.symm
  subst hw9
  refine z_new (ci := 6) (fs := [.null, .int 0, .null, .int 0, .int 0, .int 0, .int 0]) hE hB inX6 tyX6 tyX6_ok q2_65 q2_66 q1_11 rfl (fun j hj => by (match j, hj with | 0, _ => rfl | 1, _ => rfl | 2, _ => rfl | 3, _ => rfl | 4, _ => rfl | 5, _ => rfl | 6, _ => rfl | n + 7, h => omega)) (Nat.le_of_ble_eq_true rfl) (Nat.le_of_ble_eq_true rfl) dX8_read_7 (fun q_5 H hB => ?_)
  refine lv_dup hE.x hE.b dX8_read_10 rfl ?_
  refine lv_aload_n hE.x hE.b dX8_read_11 rfl (lv_at hl 0 rfl) ?_
  refine z_get (v := .ref tx) hE hB inX8 10 rfl rfl 3 (by decide) q1_82 (fun _ h9 => h9) rfl dX8_read_12 ?_
  refine lv_aload_n hE.x hE.b dX8_read_15 rfl (lv_at hl 0 rfl) ?_
  refine z_get (v := .int (nI ln)) hE hB inX8 10 rfl rfl 4 (by decide) q1_83 (fun _ h9 => h9) rfl dX8_read_16 ?_
  refine lv_aload_n hE.x hE.b dX8_read_19 rfl (lv_at hl 0 rfl) ?_
  refine z_get (v := .ref rr) hE hB inX8 10 rfl rfl 1 (by decide) q1_80 (fun _ h9 => h9) rfl dX8_read_20 ?_
  have hB := zB_perm hB (List.Perm.append_left _ (List.perm_append_comm_assoc _ _ _))
  refine z_qv hB (z_cI hE hB (c_X6_init l g q_5 tx rr ln x9 d rr im (nI ln) ab be (A 3 0) (A 3 1) (A 3 2) tb ib (lW g rr dr (nI 0) (nI 0) (nI 0) (nI 0) rd2 f9_3 lw2 pl2 pc2 gv2 aw2 nt2 ++ (Y ++ (lW g d da (nI T) (nI C) (nI U) (nI V) rd ro lw pl pc gv aw nt ++ X))) (by omega)) q2_67 kX6_init ⟨rfl, rfl⟩ ⟨Nat.le_of_ble_eq_true rfl, Nat.le_of_ble_eq_true rfl⟩ rfl hl.1 rfl (Nat.le_of_ble_eq_true rfl) dX8_read_23 ⟨Nat.le_of_ble_eq_true rfl, Nat.le_of_ble_eq_true rfl⟩) (fun w_7 H locs hw hB => ?_)
  have hw9 := hw
  have hw9 := hw9.symm
  subst hw9
  refine lv_astore_n (lv' := [(1, .ref q_5), (0, .ref x9)]) hE.x hE.b dX8_read_26 rfl hl (by decide) rfl (fun ls hl => ?_)
  refine lv_aload_n hE.x hE.b dX8_read_27 rfl (lv_at hl 0 rfl) ?_
  refine z_qi hB (z_cV hE hB (c_X6_items l g q_5 tx rr ln (nI 0) (nI 0) (nI 0) x9 d rr im (nI ln) ab be (A 3 0) (A 3 1) (A 3 2) tb ib (A 5) dr 0 0 rd2 f9_3 lw2 pl2 pc2 gv2 aw2 nt2 (clr (A 6)) Y (lW g d da (nI T) (nI C) (nI U) (nI V) rd ro lw pl pc gv aw nt ++ X) (by omega) hby htb ⟨rfl, Nat.zero_le _, rfl, Nat.zero_le _⟩ (relL_0 (m := A 6) hbn hf_4)) q2_94 kX6_items ⟨rfl, rfl⟩ ⟨Nat.le_of_ble_eq_true rfl, Nat.le_of_ble_eq_true rfl⟩ 0 rfl rfl rfl hl.1 rfl (Nat.le_of_ble_eq_true rfl) dX8_read_28 ⟨Nat.le_of_ble_eq_true rfl, Nat.le_of_ble_eq_true rfl⟩) (fun r_8 w_9 H locs hw hB => ?_)
  obtain ⟨q9_10, T9_11, C9_12, n9_13, rd9_14, ro9_15, lw9_16, Y9_17, e9_18, t9_19, u9_20, hr9, hw9, hf_21, hf_22, hf_23, hf_24⟩ := hw
  have hr9 := hr9.symm
  subst hr9
  have hw9 := hw9.symm
  subst hw9
  have hy9 : ∀ y, (pRead (A 5) ln (clr (A 6))) = .inr y → nOK y.2.1 y.2.2.1 y.2.2.2 0 0 ∧ y.1 ≤ 152 := fun y hy => pRead_o nOK_clr hy
  refine lv_istore_n (lv' := [(2, .int (xJ (pRead (A 5) ln (clr (A 6))))), (1, .ref q_5), (0, .ref x9)]) hE.x hE.b dX8_read_31 rfl hl (by decide) rfl (fun ls hl => ?_)
  refine lv_iload_n hE.x hE.b dX8_read_32 rfl (lv_at hl 0 rfl) ?_
  refine z_ge0 (tgt := 44) (X := (xJ (pRead (A 5) ln (clr (A 6)))).toInt) hE dX8_read_33 (by decide) rfl (fun c_25 => ?_) (fun c_25 => ?_)
  · obtain ⟨it9, hxx, hix⟩ := xJ_r hf_23 (by omega)
    refine lv_aload_n hE.x hE.b dX8_read_44 rfl (lv_at hl 2 rfl) ?_
    refine z_get (v := .ref d) hE hB inX8 1 rfl rfl 0 (by decide) q1_79 (fun _ h9 => h9) rfl dX8_read_45 ?_
    refine lv_astore_n (lv' := [(3, .ref d), (2, .int (xJ (pRead (A 5) ln (clr (A 6))))), (1, .ref q_5), (0, .ref x9)]) hE.x hE.b dX8_read_48 rfl hl (by decide) rfl (fun ls hl => ?_)
    refine lv_aload_n hE.x hE.b dX8_read_49 rfl (lv_at hl 3 rfl) ?_
    refine lv_aload_n hE.x hE.b dX8_read_50 rfl (lv_at hl 3 rfl) ?_
    refine z_get (v := .ref rr) hE hB inX8 1 rfl rfl 1 (by decide) q1_80 (fun _ h9 => h9) rfl dX8_read_51 ?_
    refine z_put (v := .ref rr) (ty := (.object "BanLand$Land")) (ws' := rW q_5 tx (nI ln) rr (nI q9_10) e9_18 t9_19 u9_20 ++ (xW g x9 rr rr im tx (nI ln) ab be (A 3 0) (A 3 1) (A 3 2) tb ib ++ (lW g rr dr (nI T9_11) (nI C9_12) (nI 0) (nI 0) rd9_14 ro9_15 lw9_16 pl2 pc2 gv2 aw2 nt2 ++ (Y9_17 ++ (lW g d da (nI T) (nI C) (nI U) (nI V) rd ro lw pl pc gv aw nt ++ X))))) hE hB inX8 tyX8 tyX8_ok nmX8 1 rfl rfl 0 (by decide) q1_79 (fun _ h9 => h9) rfl (by decide +kernel) rfl rfl (Nat.le_of_ble_eq_true rfl) rfl dX8_read_54 (fun H locs hB => ?_)
    refine lv_aload_n hE.x hE.b dX8_read_57 rfl (lv_at hl 3 rfl) ?_
    refine lv_aload_n hE.x hE.b dX8_read_58 rfl (lv_at hl 0 rfl) ?_
    refine z_put (v := .ref d) (ty := (.object "BanLand$Land")) (ws' := rW q_5 tx (nI ln) rr (nI q9_10) e9_18 t9_19 u9_20 ++ (xW g x9 rr d im tx (nI ln) ab be (A 3 0) (A 3 1) (A 3 2) tb ib ++ (lW g rr dr (nI T9_11) (nI C9_12) (nI 0) (nI 0) rd9_14 ro9_15 lw9_16 pl2 pc2 gv2 aw2 nt2 ++ (Y9_17 ++ (lW g d da (nI T) (nI C) (nI U) (nI V) rd ro lw pl pc gv aw nt ++ X))))) hE hB inX8 tyX8 tyX8_ok nmX8 1 rfl rfl 1 (by decide) q1_80 (fun _ h9 => h9) rfl (by decide +kernel) rfl rfl (Nat.le_of_ble_eq_true rfl) rfl dX8_read_59 (fun H locs hB => ?_)
    refine lv_iload_n hE.x hE.b dX8_read_62 rfl (lv_at hl 1 rfl) ?_
    have hB := zB_perm hB (List.Perm.append_left _ (List.Perm.append_left _ (List.Perm.append_left _ (List.perm_append_comm_assoc _ _ _))))
    have hB := zB_perm hB (List.perm_append_comm_assoc _ _ _)
    have hB := zB_perm hB (List.Perm.append_left _ (List.perm_append_comm_assoc _ _ _))
    have hB := zB_perm hB (List.Perm.append_left _ (List.Perm.append_left _ (List.perm_append_comm_assoc _ _ _)))
    exact z_iret (v := (xJ (pRead (A 5) ln (clr (A 6))))) (ws := xW g x9 rr d im tx (nI ln) ab be (A 3 0) (A 3 1) (A 3 2) tb ib ++ (lW g rr dr (nI T9_11) (nI C9_12) (nI 0) (nI 0) rd9_14 ro9_15 lw9_16 pl2 pc2 gv2 aw2 nt2 ++ (lW g d da (nI T) (nI C) (nI U) (nI V) rd ro lw pl pc gv aw nt ++ (rW q_5 tx (nI ln) rr (nI q9_10) e9_18 t9_19 u9_20 ++ (Y9_17 ++ X))))) hE hB hr (⟨hix, cD_i (A1 := updA (updA (updA A 0 (nRd (pRead (A 5) ln (clr (A 6))) (A 0))) 6 f6) 7 f7) rr d dr da T9_11 C9_12 0 0 rd9_14 ro9_15 lw9_16 pl2 pc2 gv2 aw2 nt2 T C U V rd ro lw pl pc gv aw nt (rW q_5 tx (nI ln) rr (nI q9_10) e9_18 t9_19 u9_20 ++ Y9_17) rfl (by rw [List.append_assoc]; exact List.Perm.refl _) (nOK_rd (hy9 _ hxx).1 hxx) (relL_in (relL_rd hf_21 (hy9 _ hxx).1.T6 (hy9 _ hxx).1.C8 hxx) (fun _ h => List.mem_append_right _ h)) ⟨bN_more (relL_bN (relL_in hrel hf_22)).1 (fun _ h => List.mem_append_right _ h), bN_more (relL_bN (relL_in hrel hf_22)).2 (fun _ h => List.mem_append_right _ h)⟩ (fun x h => List.mem_append_right _ (hf_22 x h))⟩) dX8_read_63
  · refine lv_bipush (v := (-10)) hE.x hE.b dX8_read_36 rfl ?_
    refine lv_aload_n hE.x hE.b dX8_read_38 rfl (lv_at hl 1 rfl) ?_
    refine z_get (v := .int (nI q9_10)) hE hB inX6 0 rfl rfl 3 (by decide) q2_75 (fun _ h9 => h9) rfl dX8_read_39 ?_
    refine lv_isub hE.x hE.b dX8_read_42 ?_
    have hB := zB_perm hB (List.Perm.append_left _ (List.Perm.append_left _ (List.Perm.append_left _ (List.perm_append_comm_assoc _ _ _))))
    have hB := zB_perm hB (List.perm_append_comm_assoc _ _ _)
    have hB := zB_perm hB (List.Perm.append_left _ (List.Perm.append_left _ (List.perm_append_comm_assoc _ _ _)))
    have hB := zB_perm hB (List.Perm.append_left _ (List.perm_append_comm_assoc _ _ _))
    have hB := zB_perm hB (List.Perm.append_left _ (List.Perm.append_left _ (List.perm_append_comm_assoc _ _ _)))
    exact z_iret (v := ((-10) - (nI q9_10))) (ws := xW g x9 d rr im tx (nI ln) ab be (A 3 0) (A 3 1) (A 3 2) tb ib ++ (lW g d da (nI T) (nI C) (nI U) (nI V) rd ro lw pl pc gv aw nt ++ (lW g rr dr (nI T9_11) (nI C9_12) (nI 0) (nI 0) rd9_14 ro9_15 lw9_16 pl2 pc2 gv2 aw2 nt2 ++ (rW q_5 tx (nI ln) rr (nI q9_10) e9_18 t9_19 u9_20 ++ (Y9_17 ++ X))))) hE hB hr (⟨(xJ_l hf_23 (by omega) (fun y hy => (hy9 y hy).2)).2, cD_i (A1 := updA (updA (updA A 0 (A 0)) 6 f6) 7 f7) d rr da dr T C U V rd ro lw pl pc gv aw nt T9_11 C9_12 0 0 rd9_14 ro9_15 lw9_16 pl2 pc2 gv2 aw2 nt2 (rW q_5 tx (nI ln) rr (nI q9_10) e9_18 t9_19 u9_20 ++ Y9_17) (by rw [nRd_l (xJ_l hf_23 (by omega) (fun y hy => (hy9 y hy).2)).1]) (by rw [List.append_assoc]; exact List.Perm.refl _) hn (relL_in hrel (fun x h => List.mem_append_right _ (hf_22 x h))) ⟨bN_more (relL_bN hf_21).1 (fun _ h => List.mem_append_right _ h), bN_more (relL_bN hf_21).2 (fun _ h => List.mem_append_right _ h)⟩ (fun x h => List.mem_append_right _ (hf_22 x h))⟩) dX8_read_43
