theorem dX9_init_0 : decode cX9_init 0 = .ok (.aload_n 0, 1) := by decide +kernel
theorem dX9_init_1 : decode cX9_init 1 = .ok (.invokespecial 1, 3) := by decide +kernel
theorem dX9_init_4 : decode cX9_init 4 = .ok (.aload_n 0, 1) := by decide +kernel
theorem dX9_init_5 : decode cX9_init 5 = .ok (.sipush 454, 3) := by decide +kernel
theorem dX9_init_8 : decode cX9_init 8 = .ok (.newarray .int, 2) := by decide +kernel
theorem dX9_init_10 : decode cX9_init 10 = .ok (.putfield 7, 3) := by decide +kernel
theorem dX9_init_13 : decode cX9_init 13 = .ok (.aload_n 0, 1) := by decide +kernel
theorem dX9_init_14 : decode cX9_init 14 = .ok (.sipush 908, 3) := by decide +kernel
theorem dX9_init_17 : decode cX9_init 17 = .ok (.newarray .int, 2) := by decide +kernel
theorem dX9_init_19 : decode cX9_init 19 = .ok (.putfield 13, 3) := by decide +kernel
theorem dX9_init_22 : decode cX9_init 22 = .ok (.aload_n 0, 1) := by decide +kernel
theorem dX9_init_23 : decode cX9_init 23 = .ok (.iconst 2, 1) := by decide +kernel
theorem dX9_init_24 : decode cX9_init 24 = .ok (.newarray .boolean, 2) := by decide +kernel
theorem dX9_init_26 : decode cX9_init 26 = .ok (.putfield 16, 3) := by decide +kernel
theorem dX9_init_29 : decode cX9_init 29 = .ok (.aload_n 0, 1) := by decide +kernel
theorem dX9_init_30 : decode cX9_init 30 = .ok (.iconst 3, 1) := by decide +kernel
theorem dX9_init_31 : decode cX9_init 31 = .ok (.newarray .int, 2) := by decide +kernel
theorem dX9_init_33 : decode cX9_init 33 = .ok (.putfield 20, 3) := by decide +kernel
theorem dX9_init_36 : decode cX9_init 36 = .ok (.aload_n 0, 1) := by decide +kernel
theorem dX9_init_37 : decode cX9_init 37 = .ok (.lconst 1, 1) := by decide +kernel
theorem dX9_init_38 : decode cX9_init 38 = .ok (.putfield 23, 3) := by decide +kernel
theorem dX9_init_41 : decode cX9_init 41 = .ok (.aload_n 0, 1) := by decide +kernel
theorem dX9_init_42 : decode cX9_init 42 = .ok (.bipush 6, 2) := by decide +kernel
theorem dX9_init_44 : decode cX9_init 44 = .ok (.newarray .int, 2) := by decide +kernel
theorem dX9_init_46 : decode cX9_init 46 = .ok (.putfield 27, 3) := by decide +kernel
theorem dX9_init_49 : decode cX9_init 49 = .ok (.aload_n 0, 1) := by decide +kernel
theorem dX9_init_50 : decode cX9_init 50 = .ok (.sipush 150, 3) := by decide +kernel
theorem dX9_init_53 : decode cX9_init 53 = .ok (.newarray .int, 2) := by decide +kernel
theorem dX9_init_55 : decode cX9_init 55 = .ok (.putfield 30, 3) := by decide +kernel
theorem dX9_init_58 : decode cX9_init 58 = .ok (.aload_n 0, 1) := by decide +kernel
theorem dX9_init_59 : decode cX9_init 59 = .ok (.bipush 126, 2) := by decide +kernel
theorem dX9_init_61 : decode cX9_init 61 = .ok (.newarray .int, 2) := by decide +kernel
theorem dX9_init_63 : decode cX9_init 63 = .ok (.putfield 33, 3) := by decide +kernel
theorem dX9_init_66 : decode cX9_init 66 = .ok (.aload_n 0, 1) := by decide +kernel
theorem dX9_init_67 : decode cX9_init 67 = .ok (.iconst 5, 1) := by decide +kernel
theorem dX9_init_68 : decode cX9_init 68 = .ok (.newarray .int, 2) := by decide +kernel
theorem dX9_init_70 : decode cX9_init 70 = .ok (.putfield 36, 3) := by decide +kernel
theorem dX9_init_73 : decode cX9_init 73 = .ok (.return_, 1) := by decide +kernel
theorem dX8_init_0 : decode cX8_init 0 = .ok (.aload_n 0, 1) := by decide +kernel
theorem dX8_init_1 : decode cX8_init 1 = .ok (.invokespecial 1, 3) := by decide +kernel
theorem dX8_init_4 : decode cX8_init 4 = .ok (.aload_n 0, 1) := by decide +kernel
theorem dX8_init_5 : decode cX8_init 5 = .ok (.new 7, 3) := by decide +kernel
theorem dX8_init_8 : decode cX8_init 8 = .ok (.dup, 1) := by decide +kernel
theorem dX8_init_9 : decode cX8_init 9 = .ok (.invokespecial 9, 3) := by decide +kernel
theorem dX8_init_12 : decode cX8_init 12 = .ok (.putfield 10, 3) := by decide +kernel
theorem dX8_init_15 : decode cX8_init 15 = .ok (.aload_n 0, 1) := by decide +kernel
theorem dX8_init_16 : decode cX8_init 16 = .ok (.new 7, 3) := by decide +kernel
theorem dX8_init_19 : decode cX8_init 19 = .ok (.dup, 1) := by decide +kernel
theorem dX8_init_20 : decode cX8_init 20 = .ok (.invokespecial 9, 3) := by decide +kernel
theorem dX8_init_23 : decode cX8_init 23 = .ok (.putfield 16, 3) := by decide +kernel
theorem dX8_init_26 : decode cX8_init 26 = .ok (.aload_n 0, 1) := by decide +kernel
theorem dX8_init_27 : decode cX8_init 27 = .ok (.iconst 2, 1) := by decide +kernel
theorem dX8_init_28 : decode cX8_init 28 = .ok (.anewarray 7, 3) := by decide +kernel
theorem dX8_init_31 : decode cX8_init 31 = .ok (.putfield 19, 3) := by decide +kernel
theorem dX8_init_34 : decode cX8_init 34 = .ok (.aload_n 0, 1) := by decide +kernel
theorem dX8_init_35 : decode cX8_init 35 = .ok (.sipush 150, 3) := by decide +kernel
theorem dX8_init_38 : decode cX8_init 38 = .ok (.newarray .byte, 2) := by decide +kernel
theorem dX8_init_40 : decode cX8_init 40 = .ok (.putfield 23, 3) := by decide +kernel
theorem dX8_init_43 : decode cX8_init 43 = .ok (.aload_n 0, 1) := by decide +kernel
theorem dX8_init_44 : decode cX8_init 44 = .ok (.iconst 0, 1) := by decide +kernel
theorem dX8_init_45 : decode cX8_init 45 = .ok (.putfield 27, 3) := by decide +kernel
theorem dX8_init_48 : decode cX8_init 48 = .ok (.aload_n 0, 1) := by decide +kernel
theorem dX8_init_49 : decode cX8_init 49 = .ok (.iconst 0, 1) := by decide +kernel
theorem dX8_init_50 : decode cX8_init 50 = .ok (.putfield 31, 3) := by decide +kernel
theorem dX8_init_53 : decode cX8_init 53 = .ok (.aload_n 0, 1) := by decide +kernel
theorem dX8_init_54 : decode cX8_init 54 = .ok (.iconst 1, 1) := by decide +kernel
theorem dX8_init_55 : decode cX8_init 55 = .ok (.putfield 34, 3) := by decide +kernel
theorem dX8_init_58 : decode cX8_init 58 = .ok (.aload_n 0, 1) := by decide +kernel
theorem dX8_init_59 : decode cX8_init 59 = .ok (.iconst 0, 1) := by decide +kernel
theorem dX8_init_60 : decode cX8_init 60 = .ok (.putfield 37, 3) := by decide +kernel
theorem dX8_init_63 : decode cX8_init 63 = .ok (.aload_n 0, 1) := by decide +kernel
theorem dX8_init_64 : decode cX8_init 64 = .ok (.iconst 0, 1) := by decide +kernel
theorem dX8_init_65 : decode cX8_init 65 = .ok (.putfield 40, 3) := by decide +kernel
theorem dX8_init_68 : decode cX8_init 68 = .ok (.aload_n 0, 1) := by decide +kernel
theorem dX8_init_69 : decode cX8_init 69 = .ok (.iconst 0, 1) := by decide +kernel
theorem dX8_init_70 : decode cX8_init 70 = .ok (.putfield 43, 3) := by decide +kernel
theorem dX8_init_73 : decode cX8_init 73 = .ok (.return_, 1) := by decide +kernel
theorem kX9_init : zCI yX9_init cX9_init 1 0 := ⟨q3_238, q1_3, q3_239, rfl, by decide +kernel, by decide +kernel, by decide +kernel⟩
theorem kX8_init : zCI yX8_init cX8_init 1 0 := ⟨q1_20, q1_1, q1_21, rfl, by decide +kernel, by decide +kernel, by decide +kernel⟩
set_option maxHeartbeats 4000000 in
set_option maxRecDepth 100000 in
theorem c_X9_init (l : Launch) (g : zG) (o : Nat) (X : va_W)  : Met l yX9_init (Cond.code yX9_init cX9_init 1 none :: TBL) { frames := 1, cells := 8, slots := 1654, locals := 12 } (zPc [.ref o] g ([(o, .inr (9, [.null, .null, .null, .null, .long 0, .long 0, .int 0, .int 0, .int 0, .int 0, .int 0, .int 0, .null, .int 0, .long 0, .null, .int 0, .int 0, .int 0, .int 0, .int 0, .null, .null]))] ++ X)) (zQv g (fun ws => ∃ (a : Nat → Nat), ws = mW g o a (fun _ => 0) (vp_updL (fun _ => 0) 5 (lN 1)) (fun _ _ => 0) ++ X)) 8 1654 (zA (gz g)) := by
  refine z_start (by decide +kernel) rfl (Nat.le_of_ble_eq_true rfl) ?_
  intro p e s m args below meth c ls hE hr hnm hB hl
  have hl : lv_has ls 1 [(0, .ref o)] := hl
  revert hB
  generalize s.heap = H
  generalize ([] : List Loc) = locs
  intro hB
  refine lv_aload_n hE.x hE.b dX9_init_0 rfl (lv_at hl 0 rfl) ?_
  refine W.objInit hE.x hE.b hE.o (hE.t _ q4_0) (hE.t _ q1_23) (hE.t _ q1_24) rfl (by rw [hE.ml]; exact hl.1) rfl dX9_init_1 (Nat.le_of_ble_eq_true rfl) (Nat.le_of_ble_eq_true rfl) ?_
  refine W.eq (g2 := F0 m 4 ls []) rfl ?_
  refine lv_aload_n hE.x hE.b dX9_init_4 rfl (lv_at hl 0 rfl) ?_
  refine lv_sipush (v := (nI 454)) hE.x hE.b dX9_init_5 rfl ?_
  refine z_newI hE hB q1_77 (by decide) (Nat.le_of_ble_eq_true rfl) (Nat.le_of_ble_eq_true rfl) dX9_init_8 (fun q_1 H hB => ?_)
  refine z_putF (v := .ref q_1) (ty := (.array .int)) (ws' := [(q_1, .inl (gI g, 454, .inl (fun _ => 0)))] ++ ([(o, .inr (9, [.ref q_1, .null, .null, .null, .long 0, .long 0, .int 0, .int 0, .int 0, .int 0, .int 0, .int 0, .null, .int 0, .long 0, .null, .int 0, .int 0, .int 0, .int 0, .int 0, .null, .null]))] ++ X)) hE hB inX9 tyX9 tyX9_ok nmX9 1 rfl rfl 0 (by decide) q4_1 (fun _ h9 => h9) rfl hnm rfl (by decide +kernel) rfl rfl (Nat.le_of_ble_eq_true rfl) rfl dX9_init_10 (fun H locs hB => ?_)
  refine lv_aload_n hE.x hE.b dX9_init_13 rfl (lv_at hl 0 rfl) ?_
  refine lv_sipush (v := (nI 908)) hE.x hE.b dX9_init_14 rfl ?_
  refine z_newI hE hB q1_77 (by decide) (Nat.le_of_ble_eq_true rfl) (Nat.le_of_ble_eq_true rfl) dX9_init_17 (fun q_2 H hB => ?_)
  refine z_putF (v := .ref q_2) (ty := (.array .int)) (ws' := [(q_2, .inl (gI g, 908, .inl (fun _ => 0)))] ++ ([(q_1, .inl (gI g, 454, .inl (fun _ => 0)))] ++ ([(o, .inr (9, [.ref q_1, .ref q_2, .null, .null, .long 0, .long 0, .int 0, .int 0, .int 0, .int 0, .int 0, .int 0, .null, .int 0, .long 0, .null, .int 0, .int 0, .int 0, .int 0, .int 0, .null, .null]))] ++ X))) hE hB inX9 tyX9 tyX9_ok nmX9 2 rfl rfl 1 (by decide) q4_2 (fun _ h9 => h9) rfl hnm rfl (by decide +kernel) rfl rfl (Nat.le_of_ble_eq_true rfl) rfl dX9_init_19 (fun H locs hB => ?_)
  refine lv_aload_n hE.x hE.b dX9_init_22 rfl (lv_at hl 0 rfl) ?_
  refine lv_iconst (v := nI 2) hE.x hE.b dX9_init_23 rfl ?_
  refine z_newZ hE hB q4_71 (by decide) (Nat.le_of_ble_eq_true rfl) (Nat.le_of_ble_eq_true rfl) dX9_init_24 (fun q_3 H hB => ?_)
  refine z_putF (v := .ref q_3) (ty := (.array .boolean)) (ws' := [(q_3, .inl (gZ g, 2, .inl (fun _ => 0)))] ++ ([(q_2, .inl (gI g, 908, .inl (fun _ => 0)))] ++ ([(q_1, .inl (gI g, 454, .inl (fun _ => 0)))] ++ ([(o, .inr (9, [.ref q_1, .ref q_2, .ref q_3, .null, .long 0, .long 0, .int 0, .int 0, .int 0, .int 0, .int 0, .int 0, .null, .int 0, .long 0, .null, .int 0, .int 0, .int 0, .int 0, .int 0, .null, .null]))] ++ X)))) hE hB inX9 tyX9 tyX9_ok nmX9 3 rfl rfl 2 (by decide) q4_3 (fun _ h9 => h9) rfl hnm rfl (by decide +kernel) rfl rfl (Nat.le_of_ble_eq_true rfl) rfl dX9_init_26 (fun H locs hB => ?_)
  refine lv_aload_n hE.x hE.b dX9_init_29 rfl (lv_at hl 0 rfl) ?_
  refine lv_iconst (v := nI 3) hE.x hE.b dX9_init_30 rfl ?_
  refine z_newI hE hB q1_77 (by decide) (Nat.le_of_ble_eq_true rfl) (Nat.le_of_ble_eq_true rfl) dX9_init_31 (fun q_4 H hB => ?_)
  refine z_putF (v := .ref q_4) (ty := (.array .int)) (ws' := [(q_4, .inl (gI g, 3, .inl (fun _ => 0)))] ++ ([(q_3, .inl (gZ g, 2, .inl (fun _ => 0)))] ++ ([(q_2, .inl (gI g, 908, .inl (fun _ => 0)))] ++ ([(q_1, .inl (gI g, 454, .inl (fun _ => 0)))] ++ ([(o, .inr (9, [.ref q_1, .ref q_2, .ref q_3, .ref q_4, .long 0, .long 0, .int 0, .int 0, .int 0, .int 0, .int 0, .int 0, .null, .int 0, .long 0, .null, .int 0, .int 0, .int 0, .int 0, .int 0, .null, .null]))] ++ X))))) hE hB inX9 tyX9 tyX9_ok nmX9 4 rfl rfl 3 (by decide) q4_4 (fun _ h9 => h9) rfl hnm rfl (by decide +kernel) rfl rfl (Nat.le_of_ble_eq_true rfl) rfl dX9_init_33 (fun H locs hB => ?_)
  refine lv_aload_n hE.x hE.b dX9_init_36 rfl (lv_at hl 0 rfl) ?_
  refine lv_lconst (v := lN 1) hE.x hE.b dX9_init_37 rfl ?_
  refine z_put (v := .long (lN 1)) (ty := .long) (ws' := [(q_4, .inl (gI g, 3, .inl (fun _ => 0)))] ++ ([(q_3, .inl (gZ g, 2, .inl (fun _ => 0)))] ++ ([(q_2, .inl (gI g, 908, .inl (fun _ => 0)))] ++ ([(q_1, .inl (gI g, 454, .inl (fun _ => 0)))] ++ ([(o, .inr (9, [.ref q_1, .ref q_2, .ref q_3, .ref q_4, .long 0, .long (lN 1), .int 0, .int 0, .int 0, .int 0, .int 0, .int 0, .null, .int 0, .long 0, .null, .int 0, .int 0, .int 0, .int 0, .int 0, .null, .null]))] ++ X))))) hE hB inX9 tyX9 tyX9_ok nmX9 4 rfl rfl 5 (by decide) q4_6 (fun _ h9 => h9) rfl (by decide +kernel) rfl rfl (Nat.le_of_ble_eq_true rfl) rfl dX9_init_38 (fun H locs hB => ?_)
  refine lv_aload_n hE.x hE.b dX9_init_41 rfl (lv_at hl 0 rfl) ?_
  refine lv_bipush (v := (nI 6)) hE.x hE.b dX9_init_42 rfl ?_
  refine z_newI hE hB q1_77 (by decide) (Nat.le_of_ble_eq_true rfl) (Nat.le_of_ble_eq_true rfl) dX9_init_44 (fun q_5 H hB => ?_)
  refine z_putF (v := .ref q_5) (ty := (.array .int)) (ws' := [(q_5, .inl (gI g, 6, .inl (fun _ => 0)))] ++ ([(q_4, .inl (gI g, 3, .inl (fun _ => 0)))] ++ ([(q_3, .inl (gZ g, 2, .inl (fun _ => 0)))] ++ ([(q_2, .inl (gI g, 908, .inl (fun _ => 0)))] ++ ([(q_1, .inl (gI g, 454, .inl (fun _ => 0)))] ++ ([(o, .inr (9, [.ref q_1, .ref q_2, .ref q_3, .ref q_4, .long 0, .long (lN 1), .int 0, .int 0, .int 0, .int 0, .int 0, .int 0, .ref q_5, .int 0, .long 0, .null, .int 0, .int 0, .int 0, .int 0, .int 0, .null, .null]))] ++ X)))))) hE hB inX9 tyX9 tyX9_ok nmX9 5 rfl rfl 12 (by decide) q4_13 (fun _ h9 => h9) rfl hnm rfl (by decide +kernel) rfl rfl (Nat.le_of_ble_eq_true rfl) rfl dX9_init_46 (fun H locs hB => ?_)
  refine lv_aload_n hE.x hE.b dX9_init_49 rfl (lv_at hl 0 rfl) ?_
  refine lv_sipush (v := (nI 150)) hE.x hE.b dX9_init_50 rfl ?_
  refine z_newI hE hB q1_77 (by decide) (Nat.le_of_ble_eq_true rfl) (Nat.le_of_ble_eq_true rfl) dX9_init_53 (fun q_6 H hB => ?_)
  refine z_putF (v := .ref q_6) (ty := (.array .int)) (ws' := [(q_6, .inl (gI g, 150, .inl (fun _ => 0)))] ++ ([(q_5, .inl (gI g, 6, .inl (fun _ => 0)))] ++ ([(q_4, .inl (gI g, 3, .inl (fun _ => 0)))] ++ ([(q_3, .inl (gZ g, 2, .inl (fun _ => 0)))] ++ ([(q_2, .inl (gI g, 908, .inl (fun _ => 0)))] ++ ([(q_1, .inl (gI g, 454, .inl (fun _ => 0)))] ++ ([(o, .inr (9, [.ref q_1, .ref q_2, .ref q_3, .ref q_4, .long 0, .long (lN 1), .int 0, .int 0, .int 0, .int 0, .int 0, .int 0, .ref q_5, .int 0, .long 0, .ref q_6, .int 0, .int 0, .int 0, .int 0, .int 0, .null, .null]))] ++ X))))))) hE hB inX9 tyX9 tyX9_ok nmX9 6 rfl rfl 15 (by decide) q4_16 (fun _ h9 => h9) rfl hnm rfl (by decide +kernel) rfl rfl (Nat.le_of_ble_eq_true rfl) rfl dX9_init_55 (fun H locs hB => ?_)
  refine lv_aload_n hE.x hE.b dX9_init_58 rfl (lv_at hl 0 rfl) ?_
  refine lv_bipush (v := (nI 126)) hE.x hE.b dX9_init_59 rfl ?_
  refine z_newI hE hB q1_77 (by decide) (Nat.le_of_ble_eq_true rfl) (Nat.le_of_ble_eq_true rfl) dX9_init_61 (fun q_7 H hB => ?_)
  refine z_putF (v := .ref q_7) (ty := (.array .int)) (ws' := [(q_7, .inl (gI g, 126, .inl (fun _ => 0)))] ++ ([(q_6, .inl (gI g, 150, .inl (fun _ => 0)))] ++ ([(q_5, .inl (gI g, 6, .inl (fun _ => 0)))] ++ ([(q_4, .inl (gI g, 3, .inl (fun _ => 0)))] ++ ([(q_3, .inl (gZ g, 2, .inl (fun _ => 0)))] ++ ([(q_2, .inl (gI g, 908, .inl (fun _ => 0)))] ++ ([(q_1, .inl (gI g, 454, .inl (fun _ => 0)))] ++ ([(o, .inr (9, [.ref q_1, .ref q_2, .ref q_3, .ref q_4, .long 0, .long (lN 1), .int 0, .int 0, .int 0, .int 0, .int 0, .int 0, .ref q_5, .int 0, .long 0, .ref q_6, .int 0, .int 0, .int 0, .int 0, .int 0, .ref q_7, .null]))] ++ X)))))))) hE hB inX9 tyX9 tyX9_ok nmX9 7 rfl rfl 21 (by decide) q4_22 (fun _ h9 => h9) rfl hnm rfl (by decide +kernel) rfl rfl (Nat.le_of_ble_eq_true rfl) rfl dX9_init_63 (fun H locs hB => ?_)
  refine lv_aload_n hE.x hE.b dX9_init_66 rfl (lv_at hl 0 rfl) ?_
  refine lv_iconst (v := nI 5) hE.x hE.b dX9_init_67 rfl ?_
  refine z_newI hE hB q1_77 (by decide) (Nat.le_of_ble_eq_true rfl) (Nat.le_of_ble_eq_true rfl) dX9_init_68 (fun q_8 H hB => ?_)
  refine z_putF (v := .ref q_8) (ty := (.array .int)) (ws' := [(q_8, .inl (gI g, 5, .inl (fun _ => 0)))] ++ ([(q_7, .inl (gI g, 126, .inl (fun _ => 0)))] ++ ([(q_6, .inl (gI g, 150, .inl (fun _ => 0)))] ++ ([(q_5, .inl (gI g, 6, .inl (fun _ => 0)))] ++ ([(q_4, .inl (gI g, 3, .inl (fun _ => 0)))] ++ ([(q_3, .inl (gZ g, 2, .inl (fun _ => 0)))] ++ ([(q_2, .inl (gI g, 908, .inl (fun _ => 0)))] ++ ([(q_1, .inl (gI g, 454, .inl (fun _ => 0)))] ++ ([(o, .inr (9, [.ref q_1, .ref q_2, .ref q_3, .ref q_4, .long 0, .long (lN 1), .int 0, .int 0, .int 0, .int 0, .int 0, .int 0, .ref q_5, .int 0, .long 0, .ref q_6, .int 0, .int 0, .int 0, .int 0, .int 0, .ref q_7, .ref q_8]))] ++ X))))))))) hE hB inX9 tyX9 tyX9_ok nmX9 8 rfl rfl 22 (by decide) q4_23 (fun _ h9 => h9) rfl hnm rfl (by decide +kernel) rfl rfl (Nat.le_of_ble_eq_true rfl) rfl dX9_init_70 (fun H locs hB => ?_)
  have hB : zB g s (mW g o (fun k => [q_1, q_2, q_3, q_4, q_5, q_6, q_7, q_8].getD k 0) (fun _ => 0) (vp_updL (fun _ => 0) 5 (lN 1)) (fun _ _ => 0) ++ X) H locs := zB_perm hB ((List.reverse_perm (mW g o (fun k => [q_1, q_2, q_3, q_4, q_5, q_6, q_7, q_8].getD k 0) (fun _ => 0) (vp_updL (fun _ => 0) 5 (lN 1)) (fun _ _ => 0))).append_right X)
  exact z_vret (ws := mW g o (fun k => [q_1, q_2, q_3, q_4, q_5, q_6, q_7, q_8].getD k 0) (fun _ => 0) (vp_updL (fun _ => 0) 5 (lN 1)) (fun _ _ => 0) ++ X) hE hB hr (⟨(fun k => [q_1, q_2, q_3, q_4, q_5, q_6, q_7, q_8].getD k 0), rfl⟩) dX9_init_73

set_option maxHeartbeats 4000000 in
set_option maxRecDepth 100000 in
theorem c_X8_init (l : Launch) (g : zG) (x9 : Nat) (X : va_W)  : Met l yX8_init (Cond.code yX8_init cX8_init 1 none :: TBL) { frames := 2, cells := 20, slots := 584, locals := 32 } (zPc [.ref x9] g ([(x9, .inr (8, [.null, .null, .null, .null, .int 0, .int 0, .int 0, .int 0, .int 0, .int 0]))] ++ X)) (zQv g (fun ws => ∃ (d : Nat) (r : Nat) (im : Nat) (tx : Nat) (a1 : Nat → Nat) (a2 : Nat → Nat), ws = xW g x9 d r im tx (nI 0) (nI 0) (nI 1) (nI 0) (nI 0) (nI 0) (fun _ => 0) (fun _ => none) ++ (lW g d a1 (nI 0) (nI 0) (nI 0) (nI 0) (fun _ => 0) (fun _ => 0) (fun _ => none) (fun _ => none) (fun _ => 0) (fun _ => 0) (fun _ => 0) (fun _ => 0) ++ (lW g r a2 (nI 0) (nI 0) (nI 0) (nI 0) (fun _ => 0) (fun _ => 0) (fun _ => none) (fun _ => none) (fun _ => 0) (fun _ => 0) (fun _ => 0) (fun _ => 0) ++ X)))) 20 584 (zA (gz g)) := by
  refine z_start (by decide +kernel) rfl (Nat.le_of_ble_eq_true rfl) ?_
  intro p e s m args below meth c ls hE hr hnm hB hl
  have hl : lv_has ls 1 [(0, .ref x9)] := hl
  revert hB
  generalize s.heap = H
  generalize ([] : List Loc) = locs
  intro hB
  refine lv_aload_n hE.x hE.b dX8_init_0 rfl (lv_at hl 0 rfl) ?_
  refine W.objInit hE.x hE.b hE.o (hE.t _ q1_22) (hE.t _ q1_23) (hE.t _ q1_24) rfl (by rw [hE.ml]; exact hl.1) rfl dX8_init_1 (Nat.le_of_ble_eq_true rfl) (Nat.le_of_ble_eq_true rfl) ?_
  refine W.eq (g2 := F0 m 4 ls []) rfl ?_
  refine lv_aload_n hE.x hE.b dX8_init_4 rfl (lv_at hl 0 rfl) ?_
  refine z_new (ci := 4) (fs := [.int 0, .int 0, .int 0, .int 0, .null, .null, .null, .null, .null, .null, .null, .null]) hE hB inX4 tyX4 tyX4_ok q1_25 q1_26 q1_2 rfl (fun j hj => by (match j, hj with | 0, _ => rfl | 1, _ => rfl | 2, _ => rfl | 3, _ => rfl | 4, _ => rfl | 5, _ => rfl | 6, _ => rfl | 7, _ => rfl | 8, _ => rfl | 9, _ => rfl | 10, _ => rfl | 11, _ => rfl | n + 12, h => omega)) (Nat.le_of_ble_eq_true rfl) (Nat.le_of_ble_eq_true rfl) dX8_init_5 (fun q_1 H hB => ?_)
  refine lv_dup hE.x hE.b dX8_init_8 rfl ?_
  refine z_qv hB (z_cIN hE hB (c_X4_init l g q_1 ([(x9, .inr (8, [.null, .null, .null, .null, .int 0, .int 0, .int 0, .int 0, .int 0, .int 0]))] ++ X)) hE.2.1.2.1.1 kX4_init ⟨rfl, rfl⟩ ⟨Nat.le_of_ble_eq_true rfl, Nat.le_of_ble_eq_true rfl⟩ rfl hl.1 rfl (Nat.le_of_ble_eq_true rfl) dX8_init_9 ⟨Nat.le_of_ble_eq_true rfl, Nat.le_of_ble_eq_true rfl⟩) (fun w_3 H locs hw hB => ?_)
  obtain ⟨a_4, hw9⟩ := hw
  have hw9 := hw9.symm
  subst hw9
  refine z_put (v := .ref q_1) (ty := (.object "BanLand$Land")) (ws' := lW g q_1 a_4 (nI 0) (nI 0) (nI 0) (nI 0) (fun _ => 0) (fun _ => 0) (fun _ => none) (fun _ => none) (fun _ => 0) (fun _ => 0) (fun _ => 0) (fun _ => 0) ++ ([(x9, .inr (8, [.ref q_1, .null, .null, .null, .int 0, .int 0, .int 0, .int 0, .int 0, .int 0]))] ++ X)) hE hB inX8 tyX8 tyX8_ok nmX8 9 rfl rfl 0 (by decide) q1_79 (fun _ h9 => h9) rfl (by decide +kernel) rfl rfl (Nat.le_of_ble_eq_true rfl) rfl dX8_init_12 (fun H locs hB => ?_)
  refine lv_aload_n hE.x hE.b dX8_init_15 rfl (lv_at hl 0 rfl) ?_
  refine z_new (ci := 4) (fs := [.int 0, .int 0, .int 0, .int 0, .null, .null, .null, .null, .null, .null, .null, .null]) hE hB inX4 tyX4 tyX4_ok q1_25 q1_26 q1_2 rfl (fun j hj => by (match j, hj with | 0, _ => rfl | 1, _ => rfl | 2, _ => rfl | 3, _ => rfl | 4, _ => rfl | 5, _ => rfl | 6, _ => rfl | 7, _ => rfl | 8, _ => rfl | 9, _ => rfl | 10, _ => rfl | 11, _ => rfl | n + 12, h => omega)) (Nat.le_of_ble_eq_true rfl) (Nat.le_of_ble_eq_true rfl) dX8_init_16 (fun q_5 H hB => ?_)
  refine lv_dup hE.x hE.b dX8_init_19 rfl ?_
  refine z_qv hB (z_cIN hE hB (c_X4_init l g q_5 (lW g q_1 a_4 (nI 0) (nI 0) (nI 0) (nI 0) (fun _ => 0) (fun _ => 0) (fun _ => none) (fun _ => none) (fun _ => 0) (fun _ => 0) (fun _ => 0) (fun _ => 0) ++ ([(x9, .inr (8, [.ref q_1, .null, .null, .null, .int 0, .int 0, .int 0, .int 0, .int 0, .int 0]))] ++ X))) hE.2.1.2.1.1 kX4_init ⟨rfl, rfl⟩ ⟨Nat.le_of_ble_eq_true rfl, Nat.le_of_ble_eq_true rfl⟩ rfl hl.1 rfl (Nat.le_of_ble_eq_true rfl) dX8_init_20 ⟨Nat.le_of_ble_eq_true rfl, Nat.le_of_ble_eq_true rfl⟩) (fun w_7 H locs hw hB => ?_)
  obtain ⟨a_8, hw9⟩ := hw
  have hw9 := hw9.symm
  subst hw9
  refine z_put (v := .ref q_5) (ty := (.object "BanLand$Land")) (ws' := lW g q_5 a_8 (nI 0) (nI 0) (nI 0) (nI 0) (fun _ => 0) (fun _ => 0) (fun _ => none) (fun _ => none) (fun _ => 0) (fun _ => 0) (fun _ => 0) (fun _ => 0) ++ (lW g q_1 a_4 (nI 0) (nI 0) (nI 0) (nI 0) (fun _ => 0) (fun _ => 0) (fun _ => none) (fun _ => none) (fun _ => 0) (fun _ => 0) (fun _ => 0) (fun _ => 0) ++ ([(x9, .inr (8, [.ref q_1, .ref q_5, .null, .null, .int 0, .int 0, .int 0, .int 0, .int 0, .int 0]))] ++ X))) hE hB inX8 tyX8 tyX8_ok nmX8 18 rfl rfl 1 (by decide) q1_80 (fun _ h9 => h9) rfl (by decide +kernel) rfl rfl (Nat.le_of_ble_eq_true rfl) rfl dX8_init_23 (fun H locs hB => ?_)
  refine lv_aload_n hE.x hE.b dX8_init_26 rfl (lv_at hl 0 rfl) ?_
  refine lv_iconst (v := nI 2) hE.x hE.b dX8_init_27 rfl ?_
  refine z_newM hE hB q1_25 (by decide) (Nat.le_of_ble_eq_true rfl) (Nat.le_of_ble_eq_true rfl) dX8_init_28 (fun q_9 H hB => ?_)
  refine z_putF (v := .ref q_9) (ty := (.array (.object "BanLand$Land"))) (ws' := [(q_9, .inl (gL g, 2, .inr (.inr (.inr (.inr (fun _ => none))))))] ++ (lW g q_5 a_8 (nI 0) (nI 0) (nI 0) (nI 0) (fun _ => 0) (fun _ => 0) (fun _ => none) (fun _ => none) (fun _ => 0) (fun _ => 0) (fun _ => 0) (fun _ => 0) ++ (lW g q_1 a_4 (nI 0) (nI 0) (nI 0) (nI 0) (fun _ => 0) (fun _ => 0) (fun _ => none) (fun _ => none) (fun _ => 0) (fun _ => 0) (fun _ => 0) (fun _ => 0) ++ ([(x9, .inr (8, [.ref q_1, .ref q_5, .ref q_9, .null, .int 0, .int 0, .int 0, .int 0, .int 0, .int 0]))] ++ X)))) hE hB inX8 tyX8 tyX8_ok nmX8 19 rfl rfl 2 (by decide) q1_81 (fun _ h9 => h9) rfl hnm rfl (by decide +kernel) rfl rfl (Nat.le_of_ble_eq_true rfl) rfl dX8_init_31 (fun H locs hB => ?_)
  refine lv_aload_n hE.x hE.b dX8_init_34 rfl (lv_at hl 0 rfl) ?_
  refine lv_sipush (v := (nI 150)) hE.x hE.b dX8_init_35 rfl ?_
  refine z_newB hE hB q1_110 (by decide) (Nat.le_of_ble_eq_true rfl) (Nat.le_of_ble_eq_true rfl) dX8_init_38 (fun q_10 H hB => ?_)
  refine z_putF (v := .ref q_10) (ty := (.array .byte)) (ws' := [(q_10, .inl (gB g, 150, .inl (fun _ => 0)))] ++ ([(q_9, .inl (gL g, 2, .inr (.inr (.inr (.inr (fun _ => none))))))] ++ (lW g q_5 a_8 (nI 0) (nI 0) (nI 0) (nI 0) (fun _ => 0) (fun _ => 0) (fun _ => none) (fun _ => none) (fun _ => 0) (fun _ => 0) (fun _ => 0) (fun _ => 0) ++ (lW g q_1 a_4 (nI 0) (nI 0) (nI 0) (nI 0) (fun _ => 0) (fun _ => 0) (fun _ => none) (fun _ => none) (fun _ => 0) (fun _ => 0) (fun _ => 0) (fun _ => 0) ++ ([(x9, .inr (8, [.ref q_1, .ref q_5, .ref q_9, .ref q_10, .int 0, .int 0, .int 0, .int 0, .int 0, .int 0]))] ++ X))))) hE hB inX8 tyX8 tyX8_ok nmX8 20 rfl rfl 3 (by decide) q1_82 (fun _ h9 => h9) rfl hnm rfl (by decide +kernel) rfl rfl (Nat.le_of_ble_eq_true rfl) rfl dX8_init_40 (fun H locs hB => ?_)
  refine lv_aload_n hE.x hE.b dX8_init_43 rfl (lv_at hl 0 rfl) ?_
  refine lv_iconst (v := nI 0) hE.x hE.b dX8_init_44 rfl ?_
  refine z_put (v := .int (nI 0)) (ty := .int) (ws' := [(q_10, .inl (gB g, 150, .inl (fun _ => 0)))] ++ ([(q_9, .inl (gL g, 2, .inr (.inr (.inr (.inr (fun _ => none))))))] ++ (lW g q_5 a_8 (nI 0) (nI 0) (nI 0) (nI 0) (fun _ => 0) (fun _ => 0) (fun _ => none) (fun _ => none) (fun _ => 0) (fun _ => 0) (fun _ => 0) (fun _ => 0) ++ (lW g q_1 a_4 (nI 0) (nI 0) (nI 0) (nI 0) (fun _ => 0) (fun _ => 0) (fun _ => none) (fun _ => none) (fun _ => 0) (fun _ => 0) (fun _ => 0) (fun _ => 0) ++ ([(x9, .inr (8, [.ref q_1, .ref q_5, .ref q_9, .ref q_10, .int (nI 0), .int 0, .int 0, .int 0, .int 0, .int 0]))] ++ X))))) hE hB inX8 tyX8 tyX8_ok nmX8 20 rfl rfl 4 (by decide) q1_83 (fun _ h9 => h9) rfl (by decide +kernel) rfl rfl (Nat.le_of_ble_eq_true rfl) rfl dX8_init_45 (fun H locs hB => ?_)
  refine lv_aload_n hE.x hE.b dX8_init_48 rfl (lv_at hl 0 rfl) ?_
  refine lv_iconst (v := nI 0) hE.x hE.b dX8_init_49 rfl ?_
  refine z_put (v := .int (nI 0)) (ty := .int) (ws' := [(q_10, .inl (gB g, 150, .inl (fun _ => 0)))] ++ ([(q_9, .inl (gL g, 2, .inr (.inr (.inr (.inr (fun _ => none))))))] ++ (lW g q_5 a_8 (nI 0) (nI 0) (nI 0) (nI 0) (fun _ => 0) (fun _ => 0) (fun _ => none) (fun _ => none) (fun _ => 0) (fun _ => 0) (fun _ => 0) (fun _ => 0) ++ (lW g q_1 a_4 (nI 0) (nI 0) (nI 0) (nI 0) (fun _ => 0) (fun _ => 0) (fun _ => none) (fun _ => none) (fun _ => 0) (fun _ => 0) (fun _ => 0) (fun _ => 0) ++ ([(x9, .inr (8, [.ref q_1, .ref q_5, .ref q_9, .ref q_10, .int (nI 0), .int (nI 0), .int 0, .int 0, .int 0, .int 0]))] ++ X))))) hE hB inX8 tyX8 tyX8_ok nmX8 20 rfl rfl 5 (by decide) q1_84 (fun _ h9 => h9) rfl (by decide +kernel) rfl rfl (Nat.le_of_ble_eq_true rfl) rfl dX8_init_50 (fun H locs hB => ?_)
  refine lv_aload_n hE.x hE.b dX8_init_53 rfl (lv_at hl 0 rfl) ?_
  refine lv_iconst (v := nI 1) hE.x hE.b dX8_init_54 rfl ?_
  refine z_put (v := .int (nI 1)) (ty := .int) (ws' := [(q_10, .inl (gB g, 150, .inl (fun _ => 0)))] ++ ([(q_9, .inl (gL g, 2, .inr (.inr (.inr (.inr (fun _ => none))))))] ++ (lW g q_5 a_8 (nI 0) (nI 0) (nI 0) (nI 0) (fun _ => 0) (fun _ => 0) (fun _ => none) (fun _ => none) (fun _ => 0) (fun _ => 0) (fun _ => 0) (fun _ => 0) ++ (lW g q_1 a_4 (nI 0) (nI 0) (nI 0) (nI 0) (fun _ => 0) (fun _ => 0) (fun _ => none) (fun _ => none) (fun _ => 0) (fun _ => 0) (fun _ => 0) (fun _ => 0) ++ ([(x9, .inr (8, [.ref q_1, .ref q_5, .ref q_9, .ref q_10, .int (nI 0), .int (nI 0), .int (nI 1), .int 0, .int 0, .int 0]))] ++ X))))) hE hB inX8 tyX8 tyX8_ok nmX8 20 rfl rfl 6 (by decide) q1_85 (fun _ h9 => h9) rfl (by decide +kernel) rfl rfl (Nat.le_of_ble_eq_true rfl) rfl dX8_init_55 (fun H locs hB => ?_)
  refine lv_aload_n hE.x hE.b dX8_init_58 rfl (lv_at hl 0 rfl) ?_
  refine lv_iconst (v := nI 0) hE.x hE.b dX8_init_59 rfl ?_
  refine z_put (v := .int (nI 0)) (ty := .int) (ws' := [(q_10, .inl (gB g, 150, .inl (fun _ => 0)))] ++ ([(q_9, .inl (gL g, 2, .inr (.inr (.inr (.inr (fun _ => none))))))] ++ (lW g q_5 a_8 (nI 0) (nI 0) (nI 0) (nI 0) (fun _ => 0) (fun _ => 0) (fun _ => none) (fun _ => none) (fun _ => 0) (fun _ => 0) (fun _ => 0) (fun _ => 0) ++ (lW g q_1 a_4 (nI 0) (nI 0) (nI 0) (nI 0) (fun _ => 0) (fun _ => 0) (fun _ => none) (fun _ => none) (fun _ => 0) (fun _ => 0) (fun _ => 0) (fun _ => 0) ++ ([(x9, .inr (8, [.ref q_1, .ref q_5, .ref q_9, .ref q_10, .int (nI 0), .int (nI 0), .int (nI 1), .int (nI 0), .int 0, .int 0]))] ++ X))))) hE hB inX8 tyX8 tyX8_ok nmX8 20 rfl rfl 7 (by decide) q1_86 (fun _ h9 => h9) rfl (by decide +kernel) rfl rfl (Nat.le_of_ble_eq_true rfl) rfl dX8_init_60 (fun H locs hB => ?_)
  refine lv_aload_n hE.x hE.b dX8_init_63 rfl (lv_at hl 0 rfl) ?_
  refine lv_iconst (v := nI 0) hE.x hE.b dX8_init_64 rfl ?_
  refine z_put (v := .int (nI 0)) (ty := .int) (ws' := [(q_10, .inl (gB g, 150, .inl (fun _ => 0)))] ++ ([(q_9, .inl (gL g, 2, .inr (.inr (.inr (.inr (fun _ => none))))))] ++ (lW g q_5 a_8 (nI 0) (nI 0) (nI 0) (nI 0) (fun _ => 0) (fun _ => 0) (fun _ => none) (fun _ => none) (fun _ => 0) (fun _ => 0) (fun _ => 0) (fun _ => 0) ++ (lW g q_1 a_4 (nI 0) (nI 0) (nI 0) (nI 0) (fun _ => 0) (fun _ => 0) (fun _ => none) (fun _ => none) (fun _ => 0) (fun _ => 0) (fun _ => 0) (fun _ => 0) ++ ([(x9, .inr (8, [.ref q_1, .ref q_5, .ref q_9, .ref q_10, .int (nI 0), .int (nI 0), .int (nI 1), .int (nI 0), .int (nI 0), .int 0]))] ++ X))))) hE hB inX8 tyX8 tyX8_ok nmX8 20 rfl rfl 8 (by decide) q1_87 (fun _ h9 => h9) rfl (by decide +kernel) rfl rfl (Nat.le_of_ble_eq_true rfl) rfl dX8_init_65 (fun H locs hB => ?_)
  refine lv_aload_n hE.x hE.b dX8_init_68 rfl (lv_at hl 0 rfl) ?_
  refine lv_iconst (v := nI 0) hE.x hE.b dX8_init_69 rfl ?_
  refine z_put (v := .int (nI 0)) (ty := .int) (ws' := [(q_10, .inl (gB g, 150, .inl (fun _ => 0)))] ++ ([(q_9, .inl (gL g, 2, .inr (.inr (.inr (.inr (fun _ => none))))))] ++ (lW g q_5 a_8 (nI 0) (nI 0) (nI 0) (nI 0) (fun _ => 0) (fun _ => 0) (fun _ => none) (fun _ => none) (fun _ => 0) (fun _ => 0) (fun _ => 0) (fun _ => 0) ++ (lW g q_1 a_4 (nI 0) (nI 0) (nI 0) (nI 0) (fun _ => 0) (fun _ => 0) (fun _ => none) (fun _ => none) (fun _ => 0) (fun _ => 0) (fun _ => 0) (fun _ => 0) ++ ([(x9, .inr (8, [.ref q_1, .ref q_5, .ref q_9, .ref q_10, .int (nI 0), .int (nI 0), .int (nI 1), .int (nI 0), .int (nI 0), .int (nI 0)]))] ++ X))))) hE hB inX8 tyX8 tyX8_ok nmX8 20 rfl rfl 9 (by decide) q1_88 (fun _ h9 => h9) rfl (by decide +kernel) rfl rfl (Nat.le_of_ble_eq_true rfl) rfl dX8_init_70 (fun H locs hB => ?_)
  have hB := zB_perm hB (List.Perm.append_left _ (List.Perm.append_left _ (List.Perm.append_left _ (List.perm_append_comm_assoc _ _ _))))
  have hB := zB_perm hB (List.Perm.append_left _ (List.Perm.append_left _ (List.perm_append_comm_assoc _ _ _)))
  have hB := zB_perm hB (List.Perm.append_left _ (List.perm_append_comm_assoc _ _ _))
  have hB := zB_perm hB (List.perm_append_comm_assoc _ _ _)
  have hB := zB_perm hB (List.Perm.append_left _ (List.Perm.append_left _ (List.Perm.append_left _ (List.perm_append_comm_assoc _ _ _))))
  have hB : zB g s (xW g x9 q_1 q_5 q_9 q_10 (nI 0) (nI 0) (nI 1) (nI 0) (nI 0) (nI 0) (fun _ => 0) (fun _ => none) ++ (lW g q_1 a_4 (nI 0) (nI 0) (nI 0) (nI 0) (fun _ => 0) (fun _ => 0) (fun _ => none) (fun _ => none) (fun _ => 0) (fun _ => 0) (fun _ => 0) (fun _ => 0) ++ (lW g q_5 a_8 (nI 0) (nI 0) (nI 0) (nI 0) (fun _ => 0) (fun _ => 0) (fun _ => none) (fun _ => none) (fun _ => 0) (fun _ => 0) (fun _ => 0) (fun _ => 0) ++ X))) H locs := hB
  exact z_vret (ws := xW g x9 q_1 q_5 q_9 q_10 (nI 0) (nI 0) (nI 1) (nI 0) (nI 0) (nI 0) (fun _ => 0) (fun _ => none) ++ (lW g q_1 a_4 (nI 0) (nI 0) (nI 0) (nI 0) (fun _ => 0) (fun _ => 0) (fun _ => none) (fun _ => none) (fun _ => 0) (fun _ => 0) (fun _ => 0) (fun _ => 0) ++ (lW g q_5 a_8 (nI 0) (nI 0) (nI 0) (nI 0) (fun _ => 0) (fun _ => 0) (fun _ => none) (fun _ => none) (fun _ => 0) (fun _ => 0) (fun _ => 0) (fun _ => 0) ++ X))) hE hB hr (⟨q_1, q_5, q_9, q_10, a_4, a_8, rfl⟩) dX8_init_73
