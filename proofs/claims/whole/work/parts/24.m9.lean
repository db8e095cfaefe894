theorem dX9_readsTown_0 : decode cX9_readsTown 0 = .ok (.aload_n 0, 1) := by decide +kernel
theorem dX9_readsTown_1 : decode cX9_readsTown 1 = .ok (.getfield 33, 3) := by decide +kernel
theorem dX9_readsTown_4 : decode cX9_readsTown 4 = .ok (.iconst 0, 1) := by decide +kernel
theorem dX9_readsTown_5 : decode cX9_readsTown 5 = .ok (.iaload, 1) := by decide +kernel
theorem dX9_readsTown_6 : decode cX9_readsTown 6 = .ok (.bipush 6, 2) := by decide +kernel
theorem dX9_readsTown_8 : decode cX9_readsTown 8 = .ok (.if_icmp .ne 5, 3) := by decide +kernel
theorem dX9_readsTown_11 : decode cX9_readsTown 11 = .ok (.iconst 0, 1) := by decide +kernel
theorem dX9_readsTown_12 : decode cX9_readsTown 12 = .ok (.ireturn, 1) := by decide +kernel
theorem dX9_readsTown_13 : decode cX9_readsTown 13 = .ok (.aload_n 0, 1) := by decide +kernel
theorem dX9_readsTown_14 : decode cX9_readsTown 14 = .ok (.invokevirtual 249, 3) := by decide +kernel
theorem dX9_readsTown_17 : decode cX9_readsTown 17 = .ok (.aload_n 0, 1) := by decide +kernel
theorem dX9_readsTown_18 : decode cX9_readsTown 18 = .ok (.iconst 0, 1) := by decide +kernel
theorem dX9_readsTown_19 : decode cX9_readsTown 19 = .ok (.iconst 0, 1) := by decide +kernel
theorem dX9_readsTown_20 : decode cX9_readsTown 20 = .ok (.iconst 3, 1) := by decide +kernel
theorem dX9_readsTown_21 : decode cX9_readsTown 21 = .ok (.invokevirtual 252, 3) := by decide +kernel
theorem dX9_readsTown_24 : decode cX9_readsTown 24 = .ok (.ifCond .ne 5, 3) := by decide +kernel
theorem dX9_readsTown_27 : decode cX9_readsTown 27 = .ok (.iconst 0, 1) := by decide +kernel
theorem dX9_readsTown_28 : decode cX9_readsTown 28 = .ok (.ireturn, 1) := by decide +kernel
theorem dX9_readsTown_29 : decode cX9_readsTown 29 = .ok (.aload_n 0, 1) := by decide +kernel
theorem dX9_readsTown_30 : decode cX9_readsTown 30 = .ok (.getfield 33, 3) := by decide +kernel
theorem dX9_readsTown_33 : decode cX9_readsTown 33 = .ok (.aload_n 0, 1) := by decide +kernel
theorem dX9_readsTown_34 : decode cX9_readsTown 34 = .ok (.getfield 36, 3) := by decide +kernel
theorem dX9_readsTown_37 : decode cX9_readsTown 37 = .ok (.iconst 0, 1) := by decide +kernel
theorem dX9_readsTown_38 : decode cX9_readsTown 38 = .ok (.iaload, 1) := by decide +kernel
theorem dX9_readsTown_39 : decode cX9_readsTown 39 = .ok (.invokestatic 69, 3) := by decide +kernel
theorem dX9_readsTown_42 : decode cX9_readsTown 42 = .ok (.iconst 1, 1) := by decide +kernel
theorem dX9_readsTown_43 : decode cX9_readsTown 43 = .ok (.ireturn, 1) := by decide +kernel
theorem dX9_readsRoad_0 : decode cX9_readsRoad 0 = .ok (.aload_n 0, 1) := by decide +kernel
theorem dX9_readsRoad_1 : decode cX9_readsRoad 1 = .ok (.invokevirtual 249, 3) := by decide +kernel
theorem dX9_readsRoad_4 : decode cX9_readsRoad 4 = .ok (.aload_n 0, 1) := by decide +kernel
theorem dX9_readsRoad_5 : decode cX9_readsRoad 5 = .ok (.iconst 0, 1) := by decide +kernel
theorem dX9_readsRoad_6 : decode cX9_readsRoad 6 = .ok (.iconst 0, 1) := by decide +kernel
theorem dX9_readsRoad_7 : decode cX9_readsRoad 7 = .ok (.aload_n 0, 1) := by decide +kernel
theorem dX9_readsRoad_8 : decode cX9_readsRoad 8 = .ok (.getfield 33, 3) := by decide +kernel
theorem dX9_readsRoad_11 : decode cX9_readsRoad 11 = .ok (.iconst 0, 1) := by decide +kernel
theorem dX9_readsRoad_12 : decode cX9_readsRoad 12 = .ok (.iaload, 1) := by decide +kernel
theorem dX9_readsRoad_13 : decode cX9_readsRoad 13 = .ok (.iconst 1, 1) := by decide +kernel
theorem dX9_readsRoad_14 : decode cX9_readsRoad 14 = .ok (.isub, 1) := by decide +kernel
theorem dX9_readsRoad_15 : decode cX9_readsRoad 15 = .ok (.invokevirtual 252, 3) := by decide +kernel
theorem dX9_readsRoad_18 : decode cX9_readsRoad 18 = .ok (.ifCond .eq 52, 3) := by decide +kernel
theorem dX9_readsRoad_21 : decode cX9_readsRoad 21 = .ok (.aload_n 0, 1) := by decide +kernel
theorem dX9_readsRoad_22 : decode cX9_readsRoad 22 = .ok (.getfield 234, 3) := by decide +kernel
theorem dX9_readsRoad_25 : decode cX9_readsRoad 25 = .ok (.iconst 2, 1) := by decide +kernel
theorem dX9_readsRoad_26 : decode cX9_readsRoad 26 = .ok (.if_icmp .ne 16, 3) := by decide +kernel
theorem dX9_readsRoad_29 : decode cX9_readsRoad 29 = .ok (.aload_n 0, 1) := by decide +kernel
theorem dX9_readsRoad_30 : decode cX9_readsRoad 30 = .ok (.getfield 237, 3) := by decide +kernel
theorem dX9_readsRoad_33 : decode cX9_readsRoad 33 = .ok (.aload_n 0, 1) := by decide +kernel
theorem dX9_readsRoad_34 : decode cX9_readsRoad 34 = .ok (.getfield 36, 3) := by decide +kernel
theorem dX9_readsRoad_37 : decode cX9_readsRoad 37 = .ok (.iconst 0, 1) := by decide +kernel
theorem dX9_readsRoad_38 : decode cX9_readsRoad 38 = .ok (.iaload, 1) := by decide +kernel
theorem dX9_readsRoad_39 : decode cX9_readsRoad 39 = .ok (.if_icmp .eq 31, 3) := by decide +kernel
theorem dX9_readsRoad_42 : decode cX9_readsRoad 42 = .ok (.aload_n 0, 1) := by decide +kernel
theorem dX9_readsRoad_43 : decode cX9_readsRoad 43 = .ok (.iconst 1, 1) := by decide +kernel
theorem dX9_readsRoad_44 : decode cX9_readsRoad 44 = .ok (.iconst 0, 1) := by decide +kernel
theorem dX9_readsRoad_45 : decode cX9_readsRoad 45 = .ok (.aload_n 0, 1) := by decide +kernel
theorem dX9_readsRoad_46 : decode cX9_readsRoad 46 = .ok (.getfield 33, 3) := by decide +kernel
theorem dX9_readsRoad_49 : decode cX9_readsRoad 49 = .ok (.iconst 0, 1) := by decide +kernel
theorem dX9_readsRoad_50 : decode cX9_readsRoad 50 = .ok (.iaload, 1) := by decide +kernel
theorem dX9_readsRoad_51 : decode cX9_readsRoad 51 = .ok (.iconst 1, 1) := by decide +kernel
theorem dX9_readsRoad_52 : decode cX9_readsRoad 52 = .ok (.isub, 1) := by decide +kernel
theorem dX9_readsRoad_53 : decode cX9_readsRoad 53 = .ok (.invokevirtual 252, 3) := by decide +kernel
theorem dX9_readsRoad_56 : decode cX9_readsRoad 56 = .ok (.ifCond .eq 14, 3) := by decide +kernel
theorem dX9_readsRoad_59 : decode cX9_readsRoad 59 = .ok (.aload_n 0, 1) := by decide +kernel
theorem dX9_readsRoad_60 : decode cX9_readsRoad 60 = .ok (.iconst 2, 1) := by decide +kernel
theorem dX9_readsRoad_61 : decode cX9_readsRoad 61 = .ok (.iconst 1, 1) := by decide +kernel
theorem dX9_readsRoad_62 : decode cX9_readsRoad 62 = .ok (.bipush 9, 2) := by decide +kernel
theorem dX9_readsRoad_64 : decode cX9_readsRoad 64 = .ok (.invokevirtual 252, 3) := by decide +kernel
theorem dX9_readsRoad_67 : decode cX9_readsRoad 67 = .ok (.ifCond .ne 5, 3) := by decide +kernel
theorem dX9_readsRoad_70 : decode cX9_readsRoad 70 = .ok (.iconst 0, 1) := by decide +kernel
theorem dX9_readsRoad_71 : decode cX9_readsRoad 71 = .ok (.ireturn, 1) := by decide +kernel
theorem dX9_readsRoad_72 : decode cX9_readsRoad 72 = .ok (.aload_n 0, 1) := by decide +kernel
theorem dX9_readsRoad_73 : decode cX9_readsRoad 73 = .ok (.getfield 33, 3) := by decide +kernel
theorem dX9_readsRoad_76 : decode cX9_readsRoad 76 = .ok (.aload_n 0, 1) := by decide +kernel
theorem dX9_readsRoad_77 : decode cX9_readsRoad 77 = .ok (.getfield 36, 3) := by decide +kernel
theorem dX9_readsRoad_80 : decode cX9_readsRoad 80 = .ok (.iconst 0, 1) := by decide +kernel
theorem dX9_readsRoad_81 : decode cX9_readsRoad 81 = .ok (.iaload, 1) := by decide +kernel
theorem dX9_readsRoad_82 : decode cX9_readsRoad 82 = .ok (.aload_n 0, 1) := by decide +kernel
theorem dX9_readsRoad_83 : decode cX9_readsRoad 83 = .ok (.getfield 36, 3) := by decide +kernel
theorem dX9_readsRoad_86 : decode cX9_readsRoad 86 = .ok (.iconst 1, 1) := by decide +kernel
theorem dX9_readsRoad_87 : decode cX9_readsRoad 87 = .ok (.iaload, 1) := by decide +kernel
theorem dX9_readsRoad_88 : decode cX9_readsRoad 88 = .ok (.aload_n 0, 1) := by decide +kernel
theorem dX9_readsRoad_89 : decode cX9_readsRoad 89 = .ok (.getfield 36, 3) := by decide +kernel
theorem dX9_readsRoad_92 : decode cX9_readsRoad 92 = .ok (.iconst 2, 1) := by decide +kernel
theorem dX9_readsRoad_93 : decode cX9_readsRoad 93 = .ok (.iaload, 1) := by decide +kernel
theorem dX9_readsRoad_94 : decode cX9_readsRoad 94 = .ok (.invokestatic 79, 3) := by decide +kernel
theorem dX9_readsRoad_97 : decode cX9_readsRoad 97 = .ok (.iconst 1, 1) := by decide +kernel
theorem dX9_readsRoad_98 : decode cX9_readsRoad 98 = .ok (.ireturn, 1) := by decide +kernel
theorem dX9_readsClause_0 : decode cX9_readsClause 0 = .ok (.aload_n 0, 1) := by decide +kernel
theorem dX9_readsClause_1 : decode cX9_readsClause 1 = .ok (.getfield 33, 3) := by decide +kernel
theorem dX9_readsClause_4 : decode cX9_readsClause 4 = .ok (.iconst 1, 1) := by decide +kernel
theorem dX9_readsClause_5 : decode cX9_readsClause 5 = .ok (.iaload, 1) := by decide +kernel
theorem dX9_readsClause_6 : decode cX9_readsClause 6 = .ok (.bipush 8, 2) := by decide +kernel
theorem dX9_readsClause_8 : decode cX9_readsClause 8 = .ok (.if_icmp .ne 5, 3) := by decide +kernel
theorem dX9_readsClause_11 : decode cX9_readsClause 11 = .ok (.iconst 0, 1) := by decide +kernel
theorem dX9_readsClause_12 : decode cX9_readsClause 12 = .ok (.ireturn, 1) := by decide +kernel
theorem dX9_readsClause_13 : decode cX9_readsClause 13 = .ok (.aload_n 0, 1) := by decide +kernel
theorem dX9_readsClause_14 : decode cX9_readsClause 14 = .ok (.invokevirtual 249, 3) := by decide +kernel
theorem dX9_readsClause_17 : decode cX9_readsClause 17 = .ok (.aload_n 0, 1) := by decide +kernel
theorem dX9_readsClause_18 : decode cX9_readsClause 18 = .ok (.iconst 0, 1) := by decide +kernel
theorem dX9_readsClause_19 : decode cX9_readsClause 19 = .ok (.iconst 0, 1) := by decide +kernel
theorem dX9_readsClause_20 : decode cX9_readsClause 20 = .ok (.iconst 5, 1) := by decide +kernel
theorem dX9_readsClause_21 : decode cX9_readsClause 21 = .ok (.invokevirtual 252, 3) := by decide +kernel
theorem dX9_readsClause_24 : decode cX9_readsClause 24 = .ok (.ifCond .eq 50, 3) := by decide +kernel
theorem dX9_readsClause_27 : decode cX9_readsClause 27 = .ok (.aload_n 0, 1) := by decide +kernel
theorem dX9_readsClause_28 : decode cX9_readsClause 28 = .ok (.iconst 1, 1) := by decide +kernel
theorem dX9_readsClause_29 : decode cX9_readsClause 29 = .ok (.iconst 0, 1) := by decide +kernel
theorem dX9_readsClause_30 : decode cX9_readsClause 30 = .ok (.iconst 5, 1) := by decide +kernel
theorem dX9_readsClause_31 : decode cX9_readsClause 31 = .ok (.invokevirtual 252, 3) := by decide +kernel
theorem dX9_readsClause_34 : decode cX9_readsClause 34 = .ok (.ifCond .eq 40, 3) := by decide +kernel
theorem dX9_readsClause_37 : decode cX9_readsClause 37 = .ok (.aload_n 0, 1) := by decide +kernel
theorem dX9_readsClause_38 : decode cX9_readsClause 38 = .ok (.iconst 2, 1) := by decide +kernel
theorem dX9_readsClause_39 : decode cX9_readsClause 39 = .ok (.iconst 0, 1) := by decide +kernel
theorem dX9_readsClause_40 : decode cX9_readsClause 40 = .ok (.bipush 60, 2) := by decide +kernel
theorem dX9_readsClause_42 : decode cX9_readsClause 42 = .ok (.invokevirtual 252, 3) := by decide +kernel
theorem dX9_readsClause_45 : decode cX9_readsClause 45 = .ok (.ifCond .eq 29, 3) := by decide +kernel
theorem dX9_readsClause_48 : decode cX9_readsClause 48 = .ok (.aload_n 0, 1) := by decide +kernel
theorem dX9_readsClause_49 : decode cX9_readsClause 49 = .ok (.iconst 3, 1) := by decide +kernel
theorem dX9_readsClause_50 : decode cX9_readsClause 50 = .ok (.aload_n 0, 1) := by decide +kernel
theorem dX9_readsClause_51 : decode cX9_readsClause 51 = .ok (.getfield 36, 3) := by decide +kernel
theorem dX9_readsClause_54 : decode cX9_readsClause 54 = .ok (.iconst 2, 1) := by decide +kernel
theorem dX9_readsClause_55 : decode cX9_readsClause 55 = .ok (.iaload, 1) := by decide +kernel
theorem dX9_readsClause_56 : decode cX9_readsClause 56 = .ok (.bipush 60, 2) := by decide +kernel
theorem dX9_readsClause_58 : decode cX9_readsClause 58 = .ok (.invokevirtual 252, 3) := by decide +kernel
theorem dX9_readsClause_61 : decode cX9_readsClause 61 = .ok (.ifCond .eq 13, 3) := by decide +kernel
theorem dX9_readsClause_64 : decode cX9_readsClause 64 = .ok (.aload_n 0, 1) := by decide +kernel
theorem dX9_readsClause_65 : decode cX9_readsClause 65 = .ok (.iconst 4, 1) := by decide +kernel
theorem dX9_readsClause_66 : decode cX9_readsClause 66 = .ok (.iconst 0, 1) := by decide +kernel
theorem dX9_readsClause_67 : decode cX9_readsClause 67 = .ok (.iconst 5, 1) := by decide +kernel
theorem dX9_readsClause_68 : decode cX9_readsClause 68 = .ok (.invokevirtual 252, 3) := by decide +kernel
theorem dX9_readsClause_71 : decode cX9_readsClause 71 = .ok (.ifCond .ne 5, 3) := by decide +kernel
theorem dX9_readsClause_74 : decode cX9_readsClause 74 = .ok (.iconst 0, 1) := by decide +kernel
theorem dX9_readsClause_75 : decode cX9_readsClause 75 = .ok (.ireturn, 1) := by decide +kernel
theorem dX9_readsClause_76 : decode cX9_readsClause 76 = .ok (.aload_n 0, 1) := by decide +kernel
theorem dX9_readsClause_77 : decode cX9_readsClause 77 = .ok (.getfield 33, 3) := by decide +kernel
theorem dX9_readsClause_80 : decode cX9_readsClause 80 = .ok (.aload_n 0, 1) := by decide +kernel
theorem dX9_readsClause_81 : decode cX9_readsClause 81 = .ok (.getfield 36, 3) := by decide +kernel
theorem dX9_readsClause_84 : decode cX9_readsClause 84 = .ok (.iconst 0, 1) := by decide +kernel
theorem dX9_readsClause_85 : decode cX9_readsClause 85 = .ok (.iaload, 1) := by decide +kernel
theorem dX9_readsClause_86 : decode cX9_readsClause 86 = .ok (.aload_n 0, 1) := by decide +kernel
theorem dX9_readsClause_87 : decode cX9_readsClause 87 = .ok (.getfield 36, 3) := by decide +kernel
theorem dX9_readsClause_90 : decode cX9_readsClause 90 = .ok (.iconst 1, 1) := by decide +kernel
theorem dX9_readsClause_91 : decode cX9_readsClause 91 = .ok (.iaload, 1) := by decide +kernel
theorem dX9_readsClause_92 : decode cX9_readsClause 92 = .ok (.aload_n 0, 1) := by decide +kernel
theorem dX9_readsClause_93 : decode cX9_readsClause 93 = .ok (.getfield 36, 3) := by decide +kernel
theorem dX9_readsClause_96 : decode cX9_readsClause 96 = .ok (.iconst 2, 1) := by decide +kernel
theorem dX9_readsClause_97 : decode cX9_readsClause 97 = .ok (.iaload, 1) := by decide +kernel
theorem dX9_readsClause_98 : decode cX9_readsClause 98 = .ok (.aload_n 0, 1) := by decide +kernel
theorem dX9_readsClause_99 : decode cX9_readsClause 99 = .ok (.getfield 36, 3) := by decide +kernel
theorem dX9_readsClause_102 : decode cX9_readsClause 102 = .ok (.iconst 3, 1) := by decide +kernel
theorem dX9_readsClause_103 : decode cX9_readsClause 103 = .ok (.iaload, 1) := by decide +kernel
theorem dX9_readsClause_104 : decode cX9_readsClause 104 = .ok (.aload_n 0, 1) := by decide +kernel
theorem dX9_readsClause_105 : decode cX9_readsClause 105 = .ok (.getfield 36, 3) := by decide +kernel
theorem dX9_readsClause_108 : decode cX9_readsClause 108 = .ok (.iconst 4, 1) := by decide +kernel
theorem dX9_readsClause_109 : decode cX9_readsClause 109 = .ok (.iaload, 1) := by decide +kernel
theorem dX9_readsClause_110 : decode cX9_readsClause 110 = .ok (.invokestatic 91, 3) := by decide +kernel
theorem dX9_readsClause_113 : decode cX9_readsClause 113 = .ok (.iconst 1, 1) := by decide +kernel
theorem dX9_readsClause_114 : decode cX9_readsClause 114 = .ok (.ireturn, 1) := by decide +kernel
theorem kX9_readsTown : zCV yX9_readsTown RX9 cX9_readsTown 1 (some .boolean) 0 := ⟨q5_97, qp42, q1_3, q5_98, rfl, by decide +kernel, by decide +kernel, by decide +kernel⟩
theorem kX9_readsRoad : zCV yX9_readsRoad RX9 cX9_readsRoad 1 (some .boolean) 0 := ⟨q5_105, qp44, q1_3, q5_106, rfl, by decide +kernel, by decide +kernel, by decide +kernel⟩
theorem kX9_readsClause : zCV yX9_readsClause RX9 cX9_readsClause 1 (some .boolean) 0 := ⟨q5_109, qp45, q1_3, q5_110, rfl, by decide +kernel, by decide +kernel, by decide +kernel⟩
set_option maxHeartbeats 4000000 in
set_option maxRecDepth 100000 in
theorem c_X9_readsTown (l : Launch) (g : zG) (o : Nat) (a : Nat → Nat) (F : Nat → Int32) (L : Nat → Int64) (A : Nat → Nat → Int32) (X : va_W) (ln : Nat) (q : Nat) (T : Nat) (C : Nat) (htk : tkS F (A 5) ln q) (hql : q ≤ ln) (hl150 : ln ≤ 150) (hby : byOK (A 5) ln) (hpk : pK (A 6) T C) : Met l yX9_readsTown (Cond.code yX9_readsTown cX9_readsTown 1 (some .boolean) :: TBL) { frames := 5, cells := 0, slots := 0, locals := 112 } (zPc [.ref o] g (mW g o a F L A ++ X)) (zQi g (fun r ws => ∃ (F1 : Nat → Int32) (f6 : Nat → Int32) (f7 : Nat → Int32), r = bI (xr (pTw (A 5) ln (A 6) T C q)) ∧ ws = mW g o a F1 L (updA (updA A 6 f6) 7 f7) ++ X ∧ tkS F1 (A 5) ln (xq (pTw (A 5) ln (A 6) T C q)) ∧ f6 = xN (pTw (A 5) ln (A 6) T C q) (A 6))) 0 0 (zA (gz g)) := by
  refine z_start (by decide +kernel) rfl (Nat.le_of_ble_eq_true rfl) ?_
  intro p e s m args below meth c ls hE hr hnm hB hl
  have hl : lv_has ls 1 [(0, .ref o)] := hl
  revert hB
  generalize s.heap = H
  generalize ([] : List Loc) = locs
  intro hB
  have hT := hpk.1
  have hT6 := hpk.2.1
  have hC := hpk.2.2.1
  have hC8 := hpk.2.2.2
  have hkl : ∀ q, kd (A 5) ln q ≤ 4 := fun q => kd_le
  have hvl : ∀ q, vl (A 5) ln q ≤ 99 := fun q => vl_99
  refine lv_aload_n hE.x hE.b dX9_readsTown_0 rfl (lv_at hl 0 rfl) ?_
  refine z_get (v := .ref (a 6)) hE hB inX9 0 rfl rfl 21 (by decide) q4_22 (fun _ h9 => h9) rfl dX9_readsTown_1 ?_
  refine lv_iconst (v := nI 0) hE.x hE.b dX9_readsTown_4 rfl ?_
  refine z_iald (k := 0) (f := (A 6)) hE hB 7 rfl (by omega) (by decide) dX9_readsTown_5 ?_
  refine z_top (y := (nI T)) hT ?_
  refine lv_bipush (v := (nI 6)) hE.x hE.b dX9_readsTown_6 rfl ?_
  refine z_ne (tgt := 13) (X := ((T : Nat) : Int)) (Y := (6 : Int)) hE dX9_readsTown_8 (by decide) (nI_toInt (n := T) (by omega)) rfl (fun c_1 => ?_) (fun c_1 => ?_)
  · refine lv_aload_n hE.x hE.b dX9_readsTown_13 rfl (lv_at hl 0 rfl) ?_
    refine z_qv hB (z_cV hE hB (c_X9_goOn l g o a F L A X ln q htk hql (by omega) hby) q5_87 kX9_goOn ⟨rfl, rfl⟩ ⟨Nat.le_of_ble_eq_true rfl, Nat.le_of_ble_eq_true rfl⟩ 0 rfl rfl rfl hl.1 rfl (Nat.le_of_ble_eq_true rfl) dX9_readsTown_14 ⟨Nat.le_of_ble_eq_true rfl, Nat.le_of_ble_eq_true rfl⟩) (fun w_3 H locs hw hB => ?_)
    obtain ⟨F1_4, hw9, hf_5⟩ := hw
    have hw9 := hw9.symm
    subst hw9
    refine lv_aload_n hE.x hE.b dX9_readsTown_17 rfl (lv_at hl 0 rfl) ?_
    refine lv_iconst (v := nI 0) hE.x hE.b dX9_readsTown_18 rfl ?_
    refine lv_iconst (v := nI 0) hE.x hE.b dX9_readsTown_19 rfl ?_
    refine lv_iconst (v := nI 3) hE.x hE.b dX9_readsTown_20 rfl ?_
    refine z_qi hB (z_cV hE hB (c_X9_takes l g o a F1_4 L A X ln (nx (A 5) ln q) 0 (nI 0) (nI 3) 0 3 hf_5 (nx_in (b := A 5) hql) (by omega) hby (by decide) rfl rfl) q5_99 kX9_takes ⟨rfl, rfl⟩ ⟨Nat.le_of_ble_eq_true rfl, Nat.le_of_ble_eq_true rfl⟩ 0 rfl rfl rfl hl.1 rfl (Nat.le_of_ble_eq_true rfl) dX9_readsTown_21 ⟨Nat.le_of_ble_eq_true rfl, Nat.le_of_ble_eq_true rfl⟩) (fun r_6 w_7 H locs hw hB => ?_)
    obtain ⟨F1_8, f7_9, hr9, hw9, hf_10, hf_11⟩ := hw
    have hr9 := hr9.symm
    subst hr9
    have hw9 := hw9.symm
    subst hw9
    refine z_bt (b := (tkB (A 5) ln (nx (A 5) ln q) 0 3)) (tgt := 29) hE dX9_readsTown_24 (by decide) (fun c_12 => ?_) (fun c_12 => ?_)
    · rw [if_pos c_12] at hf_10 hf_11
      have htr := tkB_r c_12
      refine lv_aload_n hE.x hE.b dX9_readsTown_29 rfl (lv_at hl 0 rfl) ?_
      refine z_get (v := .ref (a 6)) hE hB inX9 0 rfl rfl 21 (by decide) q4_22 (fun _ h9 => h9) rfl dX9_readsTown_30 ?_
      refine lv_aload_n hE.x hE.b dX9_readsTown_33 rfl (lv_at hl 0 rfl) ?_
      refine z_get (v := .ref (a 7)) hE hB inX9 0 rfl rfl 22 (by decide) q4_23 (fun _ h9 => h9) rfl dX9_readsTown_34 ?_
      refine lv_iconst (v := nI 0) hE.x hE.b dX9_readsTown_37 rfl ?_
      refine z_iald (k := 0) (f := f7_9) hE hB 8 rfl (by omega) (by decide) dX9_readsTown_38 ?_
      refine z_top (y := (nI (vl (A 5) ln (nx (A 5) ln q)))) (by rw [hf_11]; rfl) ?_
      refine z_qv hB (z_cS hE hB (c_X9_layTown_6 l g o a F1_8 L (updA A 7 f7_9) X T (nI (vl (A 5) ln (nx (A 5) ln q))) hT (by omega)) q4_99 kX9_layTown ⟨rfl, rfl⟩ ⟨Nat.le_of_ble_eq_true rfl, Nat.le_of_ble_eq_true rfl⟩ rfl hl.1 rfl (Nat.le_of_ble_eq_true rfl) dX9_readsTown_39 ⟨Nat.le_of_ble_eq_true rfl, Nat.le_of_ble_eq_true rfl⟩) (fun w_14 H locs hw hB => ?_)
      have hw9 := hw
      have hw9 := hw9.symm
      subst hw9
      refine lv_iconst (v := nI 1) hE.x hE.b dX9_readsTown_42 rfl ?_
      exact z_bret (b := true) (ws := mW g o a F1_8 L (updA (updA A 6 (nTown (A 6) T (nI (vl (A 5) ln (nx (A 5) ln q))))) 7 f7_9) ++ X) hE hB hr (⟨F1_8, (nTown (A 6) T (nI (vl (A 5) ln (nx (A 5) ln q)))), f7_9, by unfold pTw; rw [if_neg (by omega), if_pos c_12]; rfl, rfl, by unfold pTw; rw [if_neg (by omega), if_pos c_12]; exact hf_10, by unfold pTw; rw [if_neg (by omega), if_pos c_12]; rfl⟩) dX9_readsTown_43
    · rw [if_neg (by rw [c_12]; decide)] at hf_10 hf_11
      refine lv_iconst (v := nI 0) hE.x hE.b dX9_readsTown_27 rfl ?_
      exact z_bret (b := false) (ws := mW g o a F1_8 L (updA A 7 f7_9) ++ X) hE hB hr (⟨F1_8, (A 6), f7_9, by unfold pTw; rw [if_neg (by omega), if_neg (by rw [c_12]; decide)]; rfl, rfl, by unfold pTw; rw [if_neg (by omega), if_neg (by rw [c_12]; decide)]; exact hf_10, by unfold pTw; rw [if_neg (by omega), if_neg (by rw [c_12]; decide)]; rfl⟩) dX9_readsTown_28
  · refine lv_iconst (v := nI 0) hE.x hE.b dX9_readsTown_11 rfl ?_
    exact z_bret (b := false) (ws := mW g o a F L A ++ X) hE hB hr (⟨F, (A 6), (A 7), by unfold pTw; rw [if_pos (by omega)]; rfl, rfl, by unfold pTw; rw [if_pos (by omega)]; exact htk, by unfold pTw; rw [if_pos (by omega)]; rfl⟩) dX9_readsTown_12

set_option maxHeartbeats 4000000 in
set_option maxRecDepth 100000 in
theorem c_X9_readsRoad (l : Launch) (g : zG) (o : Nat) (a : Nat → Nat) (F : Nat → Int32) (L : Nat → Int64) (A : Nat → Nat → Int32) (X : va_W) (ln : Nat) (q : Nat) (T : Nat) (C : Nat) (htk : tkS F (A 5) ln q) (hql : q ≤ ln) (hl150 : ln ≤ 150) (hby : byOK (A 5) ln) (hpk : pK (A 6) T C) : Met l yX9_readsRoad (Cond.code yX9_readsRoad cX9_readsRoad 1 (some .boolean) :: TBL) { frames := 5, cells := 0, slots := 0, locals := 112 } (zPc [.ref o] g (mW g o a F L A ++ X)) (zQi g (fun r ws => ∃ (F1 : Nat → Int32) (f6 : Nat → Int32) (f7 : Nat → Int32), r = bI (xr (pRd (A 5) ln (A 6) T C q)) ∧ ws = mW g o a F1 L (updA (updA A 6 f6) 7 f7) ++ X ∧ tkS F1 (A 5) ln (xq (pRd (A 5) ln (A 6) T C q)) ∧ f6 = xN (pRd (A 5) ln (A 6) T C q) (A 6))) 0 0 (zA (gz g)) := by
  refine z_start (by decide +kernel) rfl (Nat.le_of_ble_eq_true rfl) ?_
  intro p e s m args below meth c ls hE hr hnm hB hl
  have hl : lv_has ls 1 [(0, .ref o)] := hl
  revert hB
  generalize s.heap = H
  generalize ([] : List Loc) = locs
  intro hB
  have hT := hpk.1
  have hT6 := hpk.2.1
  have hC := hpk.2.2.1
  have hC8 := hpk.2.2.2
  have hkl : ∀ q, kd (A 5) ln q ≤ 4 := fun q => kd_le
  have hvl : ∀ q, vl (A 5) ln q ≤ 99 := fun q => vl_99
  refine lv_aload_n hE.x hE.b dX9_readsRoad_0 rfl (lv_at hl 0 rfl) ?_
  refine z_qv hB (z_cV hE hB (c_X9_goOn l g o a F L A X ln q htk hql (by omega) hby) q5_87 kX9_goOn ⟨rfl, rfl⟩ ⟨Nat.le_of_ble_eq_true rfl, Nat.le_of_ble_eq_true rfl⟩ 0 rfl rfl rfl hl.1 rfl (Nat.le_of_ble_eq_true rfl) dX9_readsRoad_1 ⟨Nat.le_of_ble_eq_true rfl, Nat.le_of_ble_eq_true rfl⟩) (fun w_2 H locs hw hB => ?_)
  obtain ⟨F1_3, hw9, hf_4⟩ := hw
  have hw9 := hw9.symm
  subst hw9
  refine lv_aload_n hE.x hE.b dX9_readsRoad_4 rfl (lv_at hl 0 rfl) ?_
  refine lv_iconst (v := nI 0) hE.x hE.b dX9_readsRoad_5 rfl ?_
  refine lv_iconst (v := nI 0) hE.x hE.b dX9_readsRoad_6 rfl ?_
  refine lv_aload_n hE.x hE.b dX9_readsRoad_7 rfl (lv_at hl 0 rfl) ?_
  refine z_get (v := .ref (a 6)) hE hB inX9 0 rfl rfl 21 (by decide) q4_22 (fun _ h9 => h9) rfl dX9_readsRoad_8 ?_
  refine lv_iconst (v := nI 0) hE.x hE.b dX9_readsRoad_11 rfl ?_
  refine z_iald (k := 0) (f := (A 6)) hE hB 7 rfl (by omega) (by decide) dX9_readsRoad_12 ?_
  refine z_top (y := (nI T)) hT ?_
  refine lv_iconst (v := nI 1) hE.x hE.b dX9_readsRoad_13 rfl ?_
  refine lv_isub hE.x hE.b dX9_readsRoad_14 ?_
  refine z_qi hB (z_cV hE hB (c_X9_takes l g o a F1_3 L A X ln (nx (A 5) ln q) 0 (nI 0) ((nI T) - (nI 1)) 0 ((T : Int) - 1) hf_4 (nx_in (b := A 5) hql) (by omega) hby (by decide) rfl (pk_sub_toInt (by omega) (by omega))) q5_99 kX9_takes ⟨rfl, rfl⟩ ⟨Nat.le_of_ble_eq_true rfl, Nat.le_of_ble_eq_true rfl⟩ 0 rfl rfl rfl hl.1 rfl (Nat.le_of_ble_eq_true rfl) dX9_readsRoad_15 ⟨Nat.le_of_ble_eq_true rfl, Nat.le_of_ble_eq_true rfl⟩) (fun r_5 w_6 H locs hw hB => ?_)
  obtain ⟨F1_7, f7_8, hr9, hw9, hf_9, hf_10⟩ := hw
  have hr9 := hr9.symm
  subst hr9
  have hw9 := hw9.symm
  subst hw9
  refine z_bf (b := (tkB (A 5) ln (nx (A 5) ln q) 0 ((T : Int) - 1))) (tgt := 70) hE dX9_readsRoad_18 (by decide) (fun c_11 => ?_) (fun c_11 => ?_)
  · rw [if_neg (by rw [c_11]; decide)] at hf_9 hf_10
    refine lv_iconst (v := nI 0) hE.x hE.b dX9_readsRoad_70 rfl ?_
    exact z_bret (b := false) (ws := mW g o a F1_7 L (updA A 7 f7_8) ++ X) hE hB hr (⟨F1_7, (A 6), f7_8, by unfold pRd; simp only; rw [if_neg (by rw [c_11]; decide)]; rfl, rfl, by unfold pRd; simp only; rw [if_neg (by rw [c_11]; decide)]; exact hf_9, by unfold pRd; simp only; rw [if_neg (by rw [c_11]; decide)]; rfl⟩) dX9_readsRoad_71
  · rw [if_pos c_11] at hf_9 hf_10
    have htr := tkB_r c_11
    have k42 : ∀  (H : Heap) (locs : List Loc) (ls : Array Slot), (¬ (kd (A 5) ln (nx (A 5) ln (nx (A 5) ln q)) = 2 ∧ vl (A 5) ln (nx (A 5) ln (nx (A 5) ln q)) = vl (A 5) ln (nx (A 5) ln q))) → zB g s (mW g o a F1_7 L (updA A 7 f7_8) ++ X) H locs → lv_has ls 1 [(0, .ref o)] → W p l e { frames := 5, cells := 0, slots := 0, locals := 112 } s m args below meth c H locs 0 0 (MQ below (zQi g (fun r ws => ∃ (F1 : Nat → Int32) (f6 : Nat → Int32) (f7 : Nat → Int32), r = bI (xr (pRd (A 5) ln (A 6) T C q)) ∧ ws = mW g o a F1 L (updA (updA A 6 f6) 7 f7) ++ X ∧ tkS F1 (A 5) ln (xq (pRd (A 5) ln (A 6) T C q)) ∧ f6 = xN (pRd (A 5) ln (A 6) T C q) (A 6))) args s 0 0 (zA (gz g))) (F0 m 42 ls []) := by
      intro  H locs ls hne hB hl
      refine lv_aload_n hE.x hE.b dX9_readsRoad_42 rfl (lv_at hl 0 rfl) ?_
      refine lv_iconst (v := nI 1) hE.x hE.b dX9_readsRoad_43 rfl ?_
      refine lv_iconst (v := nI 0) hE.x hE.b dX9_readsRoad_44 rfl ?_
      refine lv_aload_n hE.x hE.b dX9_readsRoad_45 rfl (lv_at hl 0 rfl) ?_
      refine z_get (v := .ref (a 6)) hE hB inX9 0 rfl rfl 21 (by decide) q4_22 (fun _ h9 => h9) rfl dX9_readsRoad_46 ?_
      refine lv_iconst (v := nI 0) hE.x hE.b dX9_readsRoad_49 rfl ?_
      refine z_iald (k := 0) (f := (A 6)) hE hB 7 rfl (by omega) (by decide) dX9_readsRoad_50 ?_
      refine z_top (y := (nI T)) hT ?_
      refine lv_iconst (v := nI 1) hE.x hE.b dX9_readsRoad_51 rfl ?_
      refine lv_isub hE.x hE.b dX9_readsRoad_52 ?_
      refine z_qi hB (z_cV hE hB (c_X9_takes l g o a F1_7 L (updA A 7 f7_8) X ln (nx (A 5) ln (nx (A 5) ln q)) 1 (nI 0) ((nI T) - (nI 1)) 0 ((T : Int) - 1) hf_9 (nx_in (b := A 5) (nx_in (b := A 5) hql)) (by omega) hby (by decide) rfl (pk_sub_toInt (by omega) (by omega))) q5_99 kX9_takes ⟨rfl, rfl⟩ ⟨Nat.le_of_ble_eq_true rfl, Nat.le_of_ble_eq_true rfl⟩ 0 rfl rfl rfl hl.1 rfl (Nat.le_of_ble_eq_true rfl) dX9_readsRoad_53 ⟨Nat.le_of_ble_eq_true rfl, Nat.le_of_ble_eq_true rfl⟩) (fun r_12 w_13 H locs hw hB => ?_)
      obtain ⟨F1_14, f7_15, hr9, hw9, hf_16, hf_17⟩ := hw
      have hr9 := hr9.symm
      subst hr9
      have hw9 := hw9.symm
      subst hw9
      have hf_16 : tkS F1_14 (A 5) ln (if tkB (A 5) ln (nx (A 5) ln (nx (A 5) ln q)) 0 ((T : Int) - 1) = true then nx (A 5) ln (nx (A 5) ln (nx (A 5) ln q)) else (nx (A 5) ln (nx (A 5) ln q))) := hf_16
      have hf_17 : f7_15 = (if tkB (A 5) ln (nx (A 5) ln (nx (A 5) ln q)) 0 ((T : Int) - 1) = true then upd (f7_8) 1 (nI (vl (A 5) ln (nx (A 5) ln (nx (A 5) ln q)))) else (updA A 7 f7_8) 7) := hf_17
      refine z_bf (b := (tkB (A 5) ln (nx (A 5) ln (nx (A 5) ln q)) 0 ((T : Int) - 1))) (tgt := 70) hE dX9_readsRoad_56 (by decide) (fun c_18 => ?_) (fun c_18 => ?_)
      · rw [if_neg (by rw [c_18]; decide)] at hf_16 hf_17
        refine lv_iconst (v := nI 0) hE.x hE.b dX9_readsRoad_70 rfl ?_
        exact z_bret (b := false) (ws := mW g o a F1_14 L (updA A 7 f7_15) ++ X) hE hB hr (⟨F1_14, (A 6), f7_15, by unfold pRd; simp only; rw [if_pos c_11, if_neg hne, if_neg (by rw [c_18]; decide)]; rfl, rfl, by unfold pRd; simp only; rw [if_pos c_11, if_neg hne, if_neg (by rw [c_18]; decide)]; exact hf_16, by unfold pRd; simp only; rw [if_pos c_11, if_neg hne, if_neg (by rw [c_18]; decide)]; rfl⟩) dX9_readsRoad_71
      · rw [if_pos c_18] at hf_16 hf_17
        have htr := tkB_r c_18
        refine lv_aload_n hE.x hE.b dX9_readsRoad_59 rfl (lv_at hl 0 rfl) ?_
        refine lv_iconst (v := nI 2) hE.x hE.b dX9_readsRoad_60 rfl ?_
        refine lv_iconst (v := nI 1) hE.x hE.b dX9_readsRoad_61 rfl ?_
        refine lv_bipush (v := (nI 9)) hE.x hE.b dX9_readsRoad_62 rfl ?_
        refine z_qi hB (z_cV hE hB (c_X9_takes l g o a F1_14 L (updA A 7 f7_15) X ln (nx (A 5) ln (nx (A 5) ln (nx (A 5) ln q))) 2 (nI 1) (nI 9) 1 9 hf_16 (nx_in (b := A 5) (nx_in (b := A 5) (nx_in (b := A 5) hql))) (by omega) hby (by decide) rfl rfl) q5_99 kX9_takes ⟨rfl, rfl⟩ ⟨Nat.le_of_ble_eq_true rfl, Nat.le_of_ble_eq_true rfl⟩ 0 rfl rfl rfl hl.1 rfl (Nat.le_of_ble_eq_true rfl) dX9_readsRoad_64 ⟨Nat.le_of_ble_eq_true rfl, Nat.le_of_ble_eq_true rfl⟩) (fun r_19 w_20 H locs hw hB => ?_)
        obtain ⟨F1_21, f7_22, hr9, hw9, hf_23, hf_24⟩ := hw
        have hr9 := hr9.symm
        subst hr9
        have hw9 := hw9.symm
        subst hw9
        have hf_23 : tkS F1_21 (A 5) ln (if tkB (A 5) ln (nx (A 5) ln (nx (A 5) ln (nx (A 5) ln q))) 1 9 = true then nx (A 5) ln (nx (A 5) ln (nx (A 5) ln (nx (A 5) ln q))) else (nx (A 5) ln (nx (A 5) ln (nx (A 5) ln q)))) := hf_23
        have hf_24 : f7_22 = (if tkB (A 5) ln (nx (A 5) ln (nx (A 5) ln (nx (A 5) ln q))) 1 9 = true then upd (f7_15) 2 (nI (vl (A 5) ln (nx (A 5) ln (nx (A 5) ln (nx (A 5) ln q))))) else (updA A 7 f7_15) 7) := hf_24
        refine z_bt (b := (tkB (A 5) ln (nx (A 5) ln (nx (A 5) ln (nx (A 5) ln q))) 1 9)) (tgt := 72) hE dX9_readsRoad_67 (by decide) (fun c_25 => ?_) (fun c_25 => ?_)
        · rw [if_pos c_25] at hf_23 hf_24
          have htr := tkB_r c_25
          have hr1 := tkB_r c_11
          have hr2 := tkB_r c_18
          refine lv_aload_n hE.x hE.b dX9_readsRoad_72 rfl (lv_at hl 0 rfl) ?_
          refine z_get (v := .ref (a 6)) hE hB inX9 0 rfl rfl 21 (by decide) q4_22 (fun _ h9 => h9) rfl dX9_readsRoad_73 ?_
          refine lv_aload_n hE.x hE.b dX9_readsRoad_76 rfl (lv_at hl 0 rfl) ?_
          refine z_get (v := .ref (a 7)) hE hB inX9 0 rfl rfl 22 (by decide) q4_23 (fun _ h9 => h9) rfl dX9_readsRoad_77 ?_
          refine lv_iconst (v := nI 0) hE.x hE.b dX9_readsRoad_80 rfl ?_
          refine z_iald (k := 0) (f := f7_22) hE hB 8 rfl (by omega) (by decide) dX9_readsRoad_81 ?_
          refine z_top (y := (nI (vl (A 5) ln (nx (A 5) ln q)))) (by rw [hf_24]; rw [hf_17]; rw [hf_10]; rfl) ?_
          refine lv_aload_n hE.x hE.b dX9_readsRoad_82 rfl (lv_at hl 0 rfl) ?_
          refine z_get (v := .ref (a 7)) hE hB inX9 0 rfl rfl 22 (by decide) q4_23 (fun _ h9 => h9) rfl dX9_readsRoad_83 ?_
          refine lv_iconst (v := nI 1) hE.x hE.b dX9_readsRoad_86 rfl ?_
          refine z_iald (k := 1) (f := f7_22) hE hB 8 rfl (by omega) (by decide) dX9_readsRoad_87 ?_
          refine z_top (y := (nI (vl (A 5) ln (nx (A 5) ln (nx (A 5) ln q))))) (by rw [hf_24]; rw [hf_17]; rw [hf_10]; rfl) ?_
          refine lv_aload_n hE.x hE.b dX9_readsRoad_88 rfl (lv_at hl 0 rfl) ?_
          refine z_get (v := .ref (a 7)) hE hB inX9 0 rfl rfl 22 (by decide) q4_23 (fun _ h9 => h9) rfl dX9_readsRoad_89 ?_
          refine lv_iconst (v := nI 2) hE.x hE.b dX9_readsRoad_92 rfl ?_
          refine z_iald (k := 2) (f := f7_22) hE hB 8 rfl (by omega) (by decide) dX9_readsRoad_93 ?_
          refine z_top (y := (nI (vl (A 5) ln (nx (A 5) ln (nx (A 5) ln (nx (A 5) ln q)))))) (by rw [hf_24]; rw [hf_17]; rw [hf_10]; rfl) ?_
          refine z_qv hB (z_cS hE hB (c_X9_layRoad_6 l g o a F1_21 L (updA A 7 f7_22) X (vl (A 5) ln (nx (A 5) ln q)) (vl (A 5) ln (nx (A 5) ln (nx (A 5) ln q))) (nI (vl (A 5) ln (nx (A 5) ln (nx (A 5) ln (nx (A 5) ln q))))) (by omega) (by omega)) q4_111 kX9_layRoad ⟨rfl, rfl⟩ ⟨Nat.le_of_ble_eq_true rfl, Nat.le_of_ble_eq_true rfl⟩ rfl hl.1 rfl (Nat.le_of_ble_eq_true rfl) dX9_readsRoad_94 ⟨Nat.le_of_ble_eq_true rfl, Nat.le_of_ble_eq_true rfl⟩) (fun w_27 H locs hw hB => ?_)
          have hw9 := hw
          have hw9 := hw9.symm
          subst hw9
          refine lv_iconst (v := nI 1) hE.x hE.b dX9_readsRoad_97 rfl ?_
          exact z_bret (b := true) (ws := mW g o a F1_21 L (updA (updA A 6 (nRoad (A 6) (vl (A 5) ln (nx (A 5) ln q)) (vl (A 5) ln (nx (A 5) ln (nx (A 5) ln q))) (nI (vl (A 5) ln (nx (A 5) ln (nx (A 5) ln (nx (A 5) ln q))))))) 7 f7_22) ++ X) hE hB hr (⟨F1_21, (nRoad (A 6) (vl (A 5) ln (nx (A 5) ln q)) (vl (A 5) ln (nx (A 5) ln (nx (A 5) ln q))) (nI (vl (A 5) ln (nx (A 5) ln (nx (A 5) ln (nx (A 5) ln q)))))), f7_22, by unfold pRd; simp only; rw [if_pos c_11, if_neg hne, if_pos c_18, if_pos c_25]; rfl, rfl, by unfold pRd; simp only; rw [if_pos c_11, if_neg hne, if_pos c_18, if_pos c_25]; exact hf_23, by unfold pRd; simp only; rw [if_pos c_11, if_neg hne, if_pos c_18, if_pos c_25]; rfl⟩) dX9_readsRoad_98
        · rw [if_neg (by rw [c_25]; decide)] at hf_23 hf_24
          refine lv_iconst (v := nI 0) hE.x hE.b dX9_readsRoad_70 rfl ?_
          exact z_bret (b := false) (ws := mW g o a F1_21 L (updA A 7 f7_22) ++ X) hE hB hr (⟨F1_21, (A 6), f7_22, by unfold pRd; simp only; rw [if_pos c_11, if_neg hne, if_pos c_18, if_neg (by rw [c_25]; decide)]; rfl, rfl, by unfold pRd; simp only; rw [if_pos c_11, if_neg hne, if_pos c_18, if_neg (by rw [c_25]; decide)]; exact hf_23, by unfold pRd; simp only; rw [if_pos c_11, if_neg hne, if_pos c_18, if_neg (by rw [c_25]; decide)]; rfl⟩) dX9_readsRoad_71
    refine lv_aload_n hE.x hE.b dX9_readsRoad_21 rfl (lv_at hl 0 rfl) ?_
    have hk2 := kd_le (b := A 5) (ln := ln) (q := nx (A 5) ln (nx (A 5) ln q))
    refine z_get (v := .int (F1_7 19)) hE hB inX9 0 rfl rfl 19 (by decide) q4_20 (fun _ h9 => h9) rfl dX9_readsRoad_22 ?_
    refine z_top (y := (nI (kd (A 5) ln (nx (A 5) ln (nx (A 5) ln q))))) hf_9.2.2.1 ?_
    refine lv_iconst (v := nI 2) hE.x hE.b dX9_readsRoad_25 rfl ?_
    refine z_ne (tgt := 42) (X := (((kd (A 5) ln (nx (A 5) ln (nx (A 5) ln q))) : Nat) : Int)) (Y := (2 : Int)) hE dX9_readsRoad_26 (by decide) (nI_toInt (n := (kd (A 5) ln (nx (A 5) ln (nx (A 5) ln q)))) (by omega)) rfl (fun c_28 => ?_) (fun c_28 => ?_)
    · exact k42 _ _ _ (fun z => by omega) hB hl
    · refine lv_aload_n hE.x hE.b dX9_readsRoad_29 rfl (lv_at hl 0 rfl) ?_
      refine z_get (v := .int (F1_7 20)) hE hB inX9 0 rfl rfl 20 (by decide) q4_21 (fun _ h9 => h9) rfl dX9_readsRoad_30 ?_
      refine z_top (y := (nI (vl (A 5) ln (nx (A 5) ln (nx (A 5) ln q))))) hf_9.2.2.2.1 ?_
      refine lv_aload_n hE.x hE.b dX9_readsRoad_33 rfl (lv_at hl 0 rfl) ?_
      refine z_get (v := .ref (a 7)) hE hB inX9 0 rfl rfl 22 (by decide) q4_23 (fun _ h9 => h9) rfl dX9_readsRoad_34 ?_
      refine lv_iconst (v := nI 0) hE.x hE.b dX9_readsRoad_37 rfl ?_
      refine z_iald (k := 0) (f := f7_8) hE hB 8 rfl (by omega) (by decide) dX9_readsRoad_38 ?_
      refine z_top (y := (nI (vl (A 5) ln (nx (A 5) ln q)))) (by rw [hf_10]; rfl) ?_
      have hv1 := hvl (nx (A 5) ln q)
      have hv2 := hvl (nx (A 5) ln (nx (A 5) ln q))
      refine z_eq (tgt := 70) (X := (((vl (A 5) ln (nx (A 5) ln (nx (A 5) ln q))) : Nat) : Int)) (Y := (((vl (A 5) ln (nx (A 5) ln q)) : Nat) : Int)) hE dX9_readsRoad_39 (by decide) (nI_toInt (n := (vl (A 5) ln (nx (A 5) ln (nx (A 5) ln q)))) (by omega)) (nI_toInt (n := (vl (A 5) ln (nx (A 5) ln q))) (by omega)) (fun c_29 => ?_) (fun c_29 => ?_)
      · refine lv_iconst (v := nI 0) hE.x hE.b dX9_readsRoad_70 rfl ?_
        exact z_bret (b := false) (ws := mW g o a F1_7 L (updA A 7 f7_8) ++ X) hE hB hr (⟨F1_7, (A 6), f7_8, by unfold pRd; simp only; rw [if_pos c_11, if_pos ⟨by omega, by omega⟩]; rfl, rfl, by unfold pRd; simp only; rw [if_pos c_11, if_pos ⟨by omega, by omega⟩]; exact hf_9, by unfold pRd; simp only; rw [if_pos c_11, if_pos ⟨by omega, by omega⟩]; rfl⟩) dX9_readsRoad_71
      · exact k42 _ _ _ (fun z => absurd z.2 (by omega)) hB hl

set_option maxHeartbeats 4000000 in
set_option maxRecDepth 100000 in
theorem c_X9_readsClause (l : Launch) (g : zG) (o : Nat) (a : Nat → Nat) (F : Nat → Int32) (L : Nat → Int64) (A : Nat → Nat → Int32) (X : va_W) (ln : Nat) (q : Nat) (T : Nat) (C : Nat) (htk : tkS F (A 5) ln q) (hql : q ≤ ln) (hl150 : ln ≤ 150) (hby : byOK (A 5) ln) (hpk : pK (A 6) T C) : Met l yX9_readsClause (Cond.code yX9_readsClause cX9_readsClause 1 (some .boolean) :: TBL) { frames := 5, cells := 0, slots := 0, locals := 112 } (zPc [.ref o] g (mW g o a F L A ++ X)) (zQi g (fun r ws => ∃ (F1 : Nat → Int32) (f6 : Nat → Int32) (f7 : Nat → Int32), r = bI (xr (pCl (A 5) ln (A 6) T C q)) ∧ ws = mW g o a F1 L (updA (updA A 6 f6) 7 f7) ++ X ∧ tkS F1 (A 5) ln (xq (pCl (A 5) ln (A 6) T C q)) ∧ f6 = xN (pCl (A 5) ln (A 6) T C q) (A 6))) 0 0 (zA (gz g)) := by
  refine z_start (by decide +kernel) rfl (Nat.le_of_ble_eq_true rfl) ?_
  intro p e s m args below meth c ls hE hr hnm hB hl
  have hl : lv_has ls 1 [(0, .ref o)] := hl
  revert hB
  generalize s.heap = H
  generalize ([] : List Loc) = locs
  intro hB
  have hT := hpk.1
  have hT6 := hpk.2.1
  have hC := hpk.2.2.1
  have hC8 := hpk.2.2.2
  have hkl : ∀ q, kd (A 5) ln q ≤ 4 := fun q => kd_le
  have hvl : ∀ q, vl (A 5) ln q ≤ 99 := fun q => vl_99
  refine lv_aload_n hE.x hE.b dX9_readsClause_0 rfl (lv_at hl 0 rfl) ?_
  refine z_get (v := .ref (a 6)) hE hB inX9 0 rfl rfl 21 (by decide) q4_22 (fun _ h9 => h9) rfl dX9_readsClause_1 ?_
  refine lv_iconst (v := nI 1) hE.x hE.b dX9_readsClause_4 rfl ?_
  refine z_iald (k := 1) (f := (A 6)) hE hB 7 rfl (by omega) (by decide) dX9_readsClause_5 ?_
  refine z_top (y := (nI C)) hC ?_
  refine lv_bipush (v := (nI 8)) hE.x hE.b dX9_readsClause_6 rfl ?_
  refine z_ne (tgt := 13) (X := ((C : Nat) : Int)) (Y := (8 : Int)) hE dX9_readsClause_8 (by decide) (nI_toInt (n := C) (by omega)) rfl (fun c_1 => ?_) (fun c_1 => ?_)
  · refine lv_aload_n hE.x hE.b dX9_readsClause_13 rfl (lv_at hl 0 rfl) ?_
    refine z_qv hB (z_cV hE hB (c_X9_goOn l g o a F L A X ln q htk hql (by omega) hby) q5_87 kX9_goOn ⟨rfl, rfl⟩ ⟨Nat.le_of_ble_eq_true rfl, Nat.le_of_ble_eq_true rfl⟩ 0 rfl rfl rfl hl.1 rfl (Nat.le_of_ble_eq_true rfl) dX9_readsClause_14 ⟨Nat.le_of_ble_eq_true rfl, Nat.le_of_ble_eq_true rfl⟩) (fun w_3 H locs hw hB => ?_)
    obtain ⟨F1_4, hw9, hf_5⟩ := hw
    have hw9 := hw9.symm
    subst hw9
    refine lv_aload_n hE.x hE.b dX9_readsClause_17 rfl (lv_at hl 0 rfl) ?_
    refine lv_iconst (v := nI 0) hE.x hE.b dX9_readsClause_18 rfl ?_
    refine lv_iconst (v := nI 0) hE.x hE.b dX9_readsClause_19 rfl ?_
    refine lv_iconst (v := nI 5) hE.x hE.b dX9_readsClause_20 rfl ?_
    refine z_qi hB (z_cV hE hB (c_X9_takes l g o a F1_4 L A X ln (nx (A 5) ln q) 0 (nI 0) (nI 5) 0 5 hf_5 (nx_in (b := A 5) hql) (by omega) hby (by decide) rfl rfl) q5_99 kX9_takes ⟨rfl, rfl⟩ ⟨Nat.le_of_ble_eq_true rfl, Nat.le_of_ble_eq_true rfl⟩ 0 rfl rfl rfl hl.1 rfl (Nat.le_of_ble_eq_true rfl) dX9_readsClause_21 ⟨Nat.le_of_ble_eq_true rfl, Nat.le_of_ble_eq_true rfl⟩) (fun r_6 w_7 H locs hw hB => ?_)
    obtain ⟨F1_8, f7_9, hr9, hw9, hf_10, hf_11⟩ := hw
    have hr9 := hr9.symm
    subst hr9
    have hw9 := hw9.symm
    subst hw9
    refine z_bf (b := (tkB (A 5) ln (nx (A 5) ln q) 0 5)) (tgt := 74) hE dX9_readsClause_24 (by decide) (fun c_12 => ?_) (fun c_12 => ?_)
    · rw [if_neg (by rw [c_12]; decide)] at hf_10 hf_11
      refine lv_iconst (v := nI 0) hE.x hE.b dX9_readsClause_74 rfl ?_
      exact z_bret (b := false) (ws := mW g o a F1_8 L (updA A 7 f7_9) ++ X) hE hB hr (⟨F1_8, (A 6), f7_9, by unfold pCl; simp only; rw [if_neg (by omega), if_neg (by rw [c_12]; decide)]; rfl, rfl, by unfold pCl; simp only; rw [if_neg (by omega), if_neg (by rw [c_12]; decide)]; exact hf_10, by unfold pCl; simp only; rw [if_neg (by omega), if_neg (by rw [c_12]; decide)]; rfl⟩) dX9_readsClause_75
    · rw [if_pos c_12] at hf_10 hf_11
      have htr := tkB_r c_12
      refine lv_aload_n hE.x hE.b dX9_readsClause_27 rfl (lv_at hl 0 rfl) ?_
      refine lv_iconst (v := nI 1) hE.x hE.b dX9_readsClause_28 rfl ?_
      refine lv_iconst (v := nI 0) hE.x hE.b dX9_readsClause_29 rfl ?_
      refine lv_iconst (v := nI 5) hE.x hE.b dX9_readsClause_30 rfl ?_
      refine z_qi hB (z_cV hE hB (c_X9_takes l g o a F1_8 L (updA A 7 f7_9) X ln (nx (A 5) ln (nx (A 5) ln q)) 1 (nI 0) (nI 5) 0 5 hf_10 (nx_in (b := A 5) (nx_in (b := A 5) hql)) (by omega) hby (by decide) rfl rfl) q5_99 kX9_takes ⟨rfl, rfl⟩ ⟨Nat.le_of_ble_eq_true rfl, Nat.le_of_ble_eq_true rfl⟩ 0 rfl rfl rfl hl.1 rfl (Nat.le_of_ble_eq_true rfl) dX9_readsClause_31 ⟨Nat.le_of_ble_eq_true rfl, Nat.le_of_ble_eq_true rfl⟩) (fun r_13 w_14 H locs hw hB => ?_)
      obtain ⟨F1_15, f7_16, hr9, hw9, hf_17, hf_18⟩ := hw
      have hr9 := hr9.symm
      subst hr9
      have hw9 := hw9.symm
      subst hw9
      have hf_17 : tkS F1_15 (A 5) ln (if tkB (A 5) ln (nx (A 5) ln (nx (A 5) ln q)) 0 5 = true then nx (A 5) ln (nx (A 5) ln (nx (A 5) ln q)) else (nx (A 5) ln (nx (A 5) ln q))) := hf_17
      have hf_18 : f7_16 = (if tkB (A 5) ln (nx (A 5) ln (nx (A 5) ln q)) 0 5 = true then upd (f7_9) 1 (nI (vl (A 5) ln (nx (A 5) ln (nx (A 5) ln q)))) else (updA A 7 f7_9) 7) := hf_18
      refine z_bf (b := (tkB (A 5) ln (nx (A 5) ln (nx (A 5) ln q)) 0 5)) (tgt := 74) hE dX9_readsClause_34 (by decide) (fun c_19 => ?_) (fun c_19 => ?_)
      · rw [if_neg (by rw [c_19]; decide)] at hf_17 hf_18
        refine lv_iconst (v := nI 0) hE.x hE.b dX9_readsClause_74 rfl ?_
        exact z_bret (b := false) (ws := mW g o a F1_15 L (updA A 7 f7_16) ++ X) hE hB hr (⟨F1_15, (A 6), f7_16, by unfold pCl; simp only; rw [if_neg (by omega), if_pos c_12, if_neg (by rw [c_19]; decide)]; rfl, rfl, by unfold pCl; simp only; rw [if_neg (by omega), if_pos c_12, if_neg (by rw [c_19]; decide)]; exact hf_17, by unfold pCl; simp only; rw [if_neg (by omega), if_pos c_12, if_neg (by rw [c_19]; decide)]; rfl⟩) dX9_readsClause_75
      · rw [if_pos c_19] at hf_17 hf_18
        have htr := tkB_r c_19
        refine lv_aload_n hE.x hE.b dX9_readsClause_37 rfl (lv_at hl 0 rfl) ?_
        refine lv_iconst (v := nI 2) hE.x hE.b dX9_readsClause_38 rfl ?_
        refine lv_iconst (v := nI 0) hE.x hE.b dX9_readsClause_39 rfl ?_
        refine lv_bipush (v := (nI 60)) hE.x hE.b dX9_readsClause_40 rfl ?_
        refine z_qi hB (z_cV hE hB (c_X9_takes l g o a F1_15 L (updA A 7 f7_16) X ln (nx (A 5) ln (nx (A 5) ln (nx (A 5) ln q))) 2 (nI 0) (nI 60) 0 60 hf_17 (nx_in (b := A 5) (nx_in (b := A 5) (nx_in (b := A 5) hql))) (by omega) hby (by decide) rfl rfl) q5_99 kX9_takes ⟨rfl, rfl⟩ ⟨Nat.le_of_ble_eq_true rfl, Nat.le_of_ble_eq_true rfl⟩ 0 rfl rfl rfl hl.1 rfl (Nat.le_of_ble_eq_true rfl) dX9_readsClause_42 ⟨Nat.le_of_ble_eq_true rfl, Nat.le_of_ble_eq_true rfl⟩) (fun r_20 w_21 H locs hw hB => ?_)
        obtain ⟨F1_22, f7_23, hr9, hw9, hf_24, hf_25⟩ := hw
        have hr9 := hr9.symm
        subst hr9
        have hw9 := hw9.symm
        subst hw9
        have hf_24 : tkS F1_22 (A 5) ln (if tkB (A 5) ln (nx (A 5) ln (nx (A 5) ln (nx (A 5) ln q))) 0 60 = true then nx (A 5) ln (nx (A 5) ln (nx (A 5) ln (nx (A 5) ln q))) else (nx (A 5) ln (nx (A 5) ln (nx (A 5) ln q)))) := hf_24
        have hf_25 : f7_23 = (if tkB (A 5) ln (nx (A 5) ln (nx (A 5) ln (nx (A 5) ln q))) 0 60 = true then upd (f7_16) 2 (nI (vl (A 5) ln (nx (A 5) ln (nx (A 5) ln (nx (A 5) ln q))))) else (updA A 7 f7_16) 7) := hf_25
        refine z_bf (b := (tkB (A 5) ln (nx (A 5) ln (nx (A 5) ln (nx (A 5) ln q))) 0 60)) (tgt := 74) hE dX9_readsClause_45 (by decide) (fun c_26 => ?_) (fun c_26 => ?_)
        · rw [if_neg (by rw [c_26]; decide)] at hf_24 hf_25
          refine lv_iconst (v := nI 0) hE.x hE.b dX9_readsClause_74 rfl ?_
          exact z_bret (b := false) (ws := mW g o a F1_22 L (updA A 7 f7_23) ++ X) hE hB hr (⟨F1_22, (A 6), f7_23, by unfold pCl; simp only; rw [if_neg (by omega), if_pos c_12, if_pos c_19, if_neg (by rw [c_26]; decide)]; rfl, rfl, by unfold pCl; simp only; rw [if_neg (by omega), if_pos c_12, if_pos c_19, if_neg (by rw [c_26]; decide)]; exact hf_24, by unfold pCl; simp only; rw [if_neg (by omega), if_pos c_12, if_pos c_19, if_neg (by rw [c_26]; decide)]; rfl⟩) dX9_readsClause_75
        · rw [if_pos c_26] at hf_24 hf_25
          have htr := tkB_r c_26
          refine lv_aload_n hE.x hE.b dX9_readsClause_48 rfl (lv_at hl 0 rfl) ?_
          refine lv_iconst (v := nI 3) hE.x hE.b dX9_readsClause_49 rfl ?_
          refine lv_aload_n hE.x hE.b dX9_readsClause_50 rfl (lv_at hl 0 rfl) ?_
          refine z_get (v := .ref (a 7)) hE hB inX9 0 rfl rfl 22 (by decide) q4_23 (fun _ h9 => h9) rfl dX9_readsClause_51 ?_
          refine lv_iconst (v := nI 2) hE.x hE.b dX9_readsClause_54 rfl ?_
          refine z_iald (k := 2) (f := f7_23) hE hB 8 rfl (by omega) (by decide) dX9_readsClause_55 ?_
          refine z_top (y := (nI (vl (A 5) ln (nx (A 5) ln (nx (A 5) ln (nx (A 5) ln q)))))) (by rw [hf_25]; rw [hf_18]; rw [hf_11]; rfl) ?_
          refine lv_bipush (v := (nI 60)) hE.x hE.b dX9_readsClause_56 rfl ?_
          refine z_qi hB (z_cV hE hB (c_X9_takes l g o a F1_22 L (updA A 7 f7_23) X ln (nx (A 5) ln (nx (A 5) ln (nx (A 5) ln (nx (A 5) ln q)))) 3 (nI (vl (A 5) ln (nx (A 5) ln (nx (A 5) ln (nx (A 5) ln q))))) (nI 60) ((vl (A 5) ln (nx (A 5) ln (nx (A 5) ln (nx (A 5) ln q))) : Nat) : Int) 60 hf_24 (nx_in (b := A 5) (nx_in (b := A 5) (nx_in (b := A 5) (nx_in (b := A 5) hql)))) (by omega) hby (by decide) (nI_toInt (by have := hvl (nx (A 5) ln (nx (A 5) ln (nx (A 5) ln q))); omega)) rfl) q5_99 kX9_takes ⟨rfl, rfl⟩ ⟨Nat.le_of_ble_eq_true rfl, Nat.le_of_ble_eq_true rfl⟩ 0 rfl rfl rfl hl.1 rfl (Nat.le_of_ble_eq_true rfl) dX9_readsClause_58 ⟨Nat.le_of_ble_eq_true rfl, Nat.le_of_ble_eq_true rfl⟩) (fun r_27 w_28 H locs hw hB => ?_)
          obtain ⟨F1_29, f7_30, hr9, hw9, hf_31, hf_32⟩ := hw
          have hr9 := hr9.symm
          subst hr9
          have hw9 := hw9.symm
          subst hw9
          have hf_31 : tkS F1_29 (A 5) ln (if tkB (A 5) ln (nx (A 5) ln (nx (A 5) ln (nx (A 5) ln (nx (A 5) ln q)))) ((vl (A 5) ln (nx (A 5) ln (nx (A 5) ln (nx (A 5) ln q))) : Nat) : Int) 60 = true then nx (A 5) ln (nx (A 5) ln (nx (A 5) ln (nx (A 5) ln (nx (A 5) ln q)))) else (nx (A 5) ln (nx (A 5) ln (nx (A 5) ln (nx (A 5) ln q))))) := hf_31
          have hf_32 : f7_30 = (if tkB (A 5) ln (nx (A 5) ln (nx (A 5) ln (nx (A 5) ln (nx (A 5) ln q)))) ((vl (A 5) ln (nx (A 5) ln (nx (A 5) ln (nx (A 5) ln q))) : Nat) : Int) 60 = true then upd (f7_23) 3 (nI (vl (A 5) ln (nx (A 5) ln (nx (A 5) ln (nx (A 5) ln (nx (A 5) ln q)))))) else (updA A 7 f7_23) 7) := hf_32
          refine z_bf (b := (tkB (A 5) ln (nx (A 5) ln (nx (A 5) ln (nx (A 5) ln (nx (A 5) ln q)))) ((vl (A 5) ln (nx (A 5) ln (nx (A 5) ln (nx (A 5) ln q))) : Nat) : Int) 60)) (tgt := 74) hE dX9_readsClause_61 (by decide) (fun c_33 => ?_) (fun c_33 => ?_)
          · rw [if_neg (by rw [c_33]; decide)] at hf_31 hf_32
            refine lv_iconst (v := nI 0) hE.x hE.b dX9_readsClause_74 rfl ?_
            exact z_bret (b := false) (ws := mW g o a F1_29 L (updA A 7 f7_30) ++ X) hE hB hr (⟨F1_29, (A 6), f7_30, by unfold pCl; simp only; rw [if_neg (by omega), if_pos c_12, if_pos c_19, if_pos c_26, if_neg (by rw [c_33]; decide)]; rfl, rfl, by unfold pCl; simp only; rw [if_neg (by omega), if_pos c_12, if_pos c_19, if_pos c_26, if_neg (by rw [c_33]; decide)]; exact hf_31, by unfold pCl; simp only; rw [if_neg (by omega), if_pos c_12, if_pos c_19, if_pos c_26, if_neg (by rw [c_33]; decide)]; rfl⟩) dX9_readsClause_75
          · rw [if_pos c_33] at hf_31 hf_32
            have htr := tkB_r c_33
            refine lv_aload_n hE.x hE.b dX9_readsClause_64 rfl (lv_at hl 0 rfl) ?_
            refine lv_iconst (v := nI 4) hE.x hE.b dX9_readsClause_65 rfl ?_
            refine lv_iconst (v := nI 0) hE.x hE.b dX9_readsClause_66 rfl ?_
            refine lv_iconst (v := nI 5) hE.x hE.b dX9_readsClause_67 rfl ?_
            refine z_qi hB (z_cV hE hB (c_X9_takes l g o a F1_29 L (updA A 7 f7_30) X ln (nx (A 5) ln (nx (A 5) ln (nx (A 5) ln (nx (A 5) ln (nx (A 5) ln q))))) 4 (nI 0) (nI 5) 0 5 hf_31 (nx_in (b := A 5) (nx_in (b := A 5) (nx_in (b := A 5) (nx_in (b := A 5) (nx_in (b := A 5) hql))))) (by omega) hby (by decide) rfl rfl) q5_99 kX9_takes ⟨rfl, rfl⟩ ⟨Nat.le_of_ble_eq_true rfl, Nat.le_of_ble_eq_true rfl⟩ 0 rfl rfl rfl hl.1 rfl (Nat.le_of_ble_eq_true rfl) dX9_readsClause_68 ⟨Nat.le_of_ble_eq_true rfl, Nat.le_of_ble_eq_true rfl⟩) (fun r_34 w_35 H locs hw hB => ?_)
            obtain ⟨F1_36, f7_37, hr9, hw9, hf_38, hf_39⟩ := hw
            have hr9 := hr9.symm
            subst hr9
            have hw9 := hw9.symm
            subst hw9
            have hf_38 : tkS F1_36 (A 5) ln (if tkB (A 5) ln (nx (A 5) ln (nx (A 5) ln (nx (A 5) ln (nx (A 5) ln (nx (A 5) ln q))))) 0 5 = true then nx (A 5) ln (nx (A 5) ln (nx (A 5) ln (nx (A 5) ln (nx (A 5) ln (nx (A 5) ln q))))) else (nx (A 5) ln (nx (A 5) ln (nx (A 5) ln (nx (A 5) ln (nx (A 5) ln q)))))) := hf_38
            have hf_39 : f7_37 = (if tkB (A 5) ln (nx (A 5) ln (nx (A 5) ln (nx (A 5) ln (nx (A 5) ln (nx (A 5) ln q))))) 0 5 = true then upd (f7_30) 4 (nI (vl (A 5) ln (nx (A 5) ln (nx (A 5) ln (nx (A 5) ln (nx (A 5) ln (nx (A 5) ln q))))))) else (updA A 7 f7_30) 7) := hf_39
            refine z_bt (b := (tkB (A 5) ln (nx (A 5) ln (nx (A 5) ln (nx (A 5) ln (nx (A 5) ln (nx (A 5) ln q))))) 0 5)) (tgt := 76) hE dX9_readsClause_71 (by decide) (fun c_40 => ?_) (fun c_40 => ?_)
            · rw [if_pos c_40] at hf_38 hf_39
              have htr := tkB_r c_40
              refine lv_aload_n hE.x hE.b dX9_readsClause_76 rfl (lv_at hl 0 rfl) ?_
              refine z_get (v := .ref (a 6)) hE hB inX9 0 rfl rfl 21 (by decide) q4_22 (fun _ h9 => h9) rfl dX9_readsClause_77 ?_
              refine lv_aload_n hE.x hE.b dX9_readsClause_80 rfl (lv_at hl 0 rfl) ?_
              refine z_get (v := .ref (a 7)) hE hB inX9 0 rfl rfl 22 (by decide) q4_23 (fun _ h9 => h9) rfl dX9_readsClause_81 ?_
              refine lv_iconst (v := nI 0) hE.x hE.b dX9_readsClause_84 rfl ?_
              refine z_iald (k := 0) (f := f7_37) hE hB 8 rfl (by omega) (by decide) dX9_readsClause_85 ?_
              refine z_top (y := (nI (vl (A 5) ln (nx (A 5) ln q)))) (by rw [hf_39]; rw [hf_32]; rw [hf_25]; rw [hf_18]; rw [hf_11]; rfl) ?_
              refine lv_aload_n hE.x hE.b dX9_readsClause_86 rfl (lv_at hl 0 rfl) ?_
              refine z_get (v := .ref (a 7)) hE hB inX9 0 rfl rfl 22 (by decide) q4_23 (fun _ h9 => h9) rfl dX9_readsClause_87 ?_
              refine lv_iconst (v := nI 1) hE.x hE.b dX9_readsClause_90 rfl ?_
              refine z_iald (k := 1) (f := f7_37) hE hB 8 rfl (by omega) (by decide) dX9_readsClause_91 ?_
              refine z_top (y := (nI (vl (A 5) ln (nx (A 5) ln (nx (A 5) ln q))))) (by rw [hf_39]; rw [hf_32]; rw [hf_25]; rw [hf_18]; rw [hf_11]; rfl) ?_
              refine lv_aload_n hE.x hE.b dX9_readsClause_92 rfl (lv_at hl 0 rfl) ?_
              refine z_get (v := .ref (a 7)) hE hB inX9 0 rfl rfl 22 (by decide) q4_23 (fun _ h9 => h9) rfl dX9_readsClause_93 ?_
              refine lv_iconst (v := nI 2) hE.x hE.b dX9_readsClause_96 rfl ?_
              refine z_iald (k := 2) (f := f7_37) hE hB 8 rfl (by omega) (by decide) dX9_readsClause_97 ?_
              refine z_top (y := (nI (vl (A 5) ln (nx (A 5) ln (nx (A 5) ln (nx (A 5) ln q)))))) (by rw [hf_39]; rw [hf_32]; rw [hf_25]; rw [hf_18]; rw [hf_11]; rfl) ?_
              refine lv_aload_n hE.x hE.b dX9_readsClause_98 rfl (lv_at hl 0 rfl) ?_
              refine z_get (v := .ref (a 7)) hE hB inX9 0 rfl rfl 22 (by decide) q4_23 (fun _ h9 => h9) rfl dX9_readsClause_99 ?_
              refine lv_iconst (v := nI 3) hE.x hE.b dX9_readsClause_102 rfl ?_
              refine z_iald (k := 3) (f := f7_37) hE hB 8 rfl (by omega) (by decide) dX9_readsClause_103 ?_
              refine z_top (y := (nI (vl (A 5) ln (nx (A 5) ln (nx (A 5) ln (nx (A 5) ln (nx (A 5) ln q))))))) (by rw [hf_39]; rw [hf_32]; rw [hf_25]; rw [hf_18]; rw [hf_11]; rfl) ?_
              refine lv_aload_n hE.x hE.b dX9_readsClause_104 rfl (lv_at hl 0 rfl) ?_
              refine z_get (v := .ref (a 7)) hE hB inX9 0 rfl rfl 22 (by decide) q4_23 (fun _ h9 => h9) rfl dX9_readsClause_105 ?_
              refine lv_iconst (v := nI 4) hE.x hE.b dX9_readsClause_108 rfl ?_
              refine z_iald (k := 4) (f := f7_37) hE hB 8 rfl (by omega) (by decide) dX9_readsClause_109 ?_
              refine z_top (y := (nI (vl (A 5) ln (nx (A 5) ln (nx (A 5) ln (nx (A 5) ln (nx (A 5) ln (nx (A 5) ln q)))))))) (by rw [hf_39]; rw [hf_32]; rw [hf_25]; rw [hf_18]; rw [hf_11]; rfl) ?_
              refine z_qv hB (z_cS hE hB (c_X9_layClause_6 l g o a F1_36 L (updA A 7 f7_37) X C (nI (vl (A 5) ln (nx (A 5) ln q))) (nI (vl (A 5) ln (nx (A 5) ln (nx (A 5) ln q)))) (nI (vl (A 5) ln (nx (A 5) ln (nx (A 5) ln (nx (A 5) ln q))))) (nI (vl (A 5) ln (nx (A 5) ln (nx (A 5) ln (nx (A 5) ln (nx (A 5) ln q)))))) (nI (vl (A 5) ln (nx (A 5) ln (nx (A 5) ln (nx (A 5) ln (nx (A 5) ln (nx (A 5) ln q))))))) hC (by omega)) q4_131 kX9_layClause ⟨rfl, rfl⟩ ⟨Nat.le_of_ble_eq_true rfl, Nat.le_of_ble_eq_true rfl⟩ rfl hl.1 rfl (Nat.le_of_ble_eq_true rfl) dX9_readsClause_110 ⟨Nat.le_of_ble_eq_true rfl, Nat.le_of_ble_eq_true rfl⟩) (fun w_42 H locs hw hB => ?_)
              have hw9 := hw
              have hw9 := hw9.symm
              subst hw9
              refine lv_iconst (v := nI 1) hE.x hE.b dX9_readsClause_113 rfl ?_
              exact z_bret (b := true) (ws := mW g o a F1_36 L (updA (updA A 6 (nCl (A 6) C (nI (vl (A 5) ln (nx (A 5) ln q))) (nI (vl (A 5) ln (nx (A 5) ln (nx (A 5) ln q)))) (nI (vl (A 5) ln (nx (A 5) ln (nx (A 5) ln (nx (A 5) ln q))))) (nI (vl (A 5) ln (nx (A 5) ln (nx (A 5) ln (nx (A 5) ln (nx (A 5) ln q)))))) (nI (vl (A 5) ln (nx (A 5) ln (nx (A 5) ln (nx (A 5) ln (nx (A 5) ln (nx (A 5) ln q))))))))) 7 f7_37) ++ X) hE hB hr (⟨F1_36, (nCl (A 6) C (nI (vl (A 5) ln (nx (A 5) ln q))) (nI (vl (A 5) ln (nx (A 5) ln (nx (A 5) ln q)))) (nI (vl (A 5) ln (nx (A 5) ln (nx (A 5) ln (nx (A 5) ln q))))) (nI (vl (A 5) ln (nx (A 5) ln (nx (A 5) ln (nx (A 5) ln (nx (A 5) ln q)))))) (nI (vl (A 5) ln (nx (A 5) ln (nx (A 5) ln (nx (A 5) ln (nx (A 5) ln (nx (A 5) ln q)))))))), f7_37, by unfold pCl; simp only; rw [if_neg (by omega), if_pos c_12, if_pos c_19, if_pos c_26, if_pos c_33, if_pos c_40]; rfl, rfl, by unfold pCl; simp only; rw [if_neg (by omega), if_pos c_12, if_pos c_19, if_pos c_26, if_pos c_33, if_pos c_40]; exact hf_38, by unfold pCl; simp only; rw [if_neg (by omega), if_pos c_12, if_pos c_19, if_pos c_26, if_pos c_33, if_pos c_40]; rfl⟩) dX9_readsClause_114
            · rw [if_neg (by rw [c_40]; decide)] at hf_38 hf_39
              refine lv_iconst (v := nI 0) hE.x hE.b dX9_readsClause_74 rfl ?_
              exact z_bret (b := false) (ws := mW g o a F1_36 L (updA A 7 f7_37) ++ X) hE hB hr (⟨F1_36, (A 6), f7_37, by unfold pCl; simp only; rw [if_neg (by omega), if_pos c_12, if_pos c_19, if_pos c_26, if_pos c_33, if_neg (by rw [c_40]; decide)]; rfl, rfl, by unfold pCl; simp only; rw [if_neg (by omega), if_pos c_12, if_pos c_19, if_pos c_26, if_pos c_33, if_neg (by rw [c_40]; decide)]; exact hf_38, by unfold pCl; simp only; rw [if_neg (by omega), if_pos c_12, if_pos c_19, if_pos c_26, if_pos c_33, if_neg (by rw [c_40]; decide)]; rfl⟩) dX9_readsClause_75
  · refine lv_iconst (v := nI 0) hE.x hE.b dX9_readsClause_11 rfl ?_
    exact z_bret (b := false) (ws := mW g o a F L A ++ X) hE hB hr (⟨F, (A 6), (A 7), by unfold pCl; simp only; rw [if_pos (by omega)]; rfl, rfl, by unfold pCl; simp only; rw [if_pos (by omega)]; exact htk, by unfold pCl; simp only; rw [if_pos (by omega)]; rfl⟩) dX9_readsClause_12
