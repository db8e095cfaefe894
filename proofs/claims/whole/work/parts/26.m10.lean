theorem dX9_readsItem_0 : decode cX9_readsItem 0 = .ok (.aload_n 0, 1) := by decide +kernel
theorem dX9_readsItem_1 : decode cX9_readsItem 1 = .ok (.iconst 4, 1) := by decide +kernel
theorem dX9_readsItem_2 : decode cX9_readsItem 2 = .ok (.bipush 116, 2) := by decide +kernel
theorem dX9_readsItem_4 : decode cX9_readsItem 4 = .ok (.bipush 111, 2) := by decide +kernel
theorem dX9_readsItem_6 : decode cX9_readsItem 6 = .ok (.bipush 119, 2) := by decide +kernel
theorem dX9_readsItem_8 : decode cX9_readsItem 8 = .ok (.bipush 110, 2) := by decide +kernel
theorem dX9_readsItem_10 : decode cX9_readsItem 10 = .ok (.iconst 0, 1) := by decide +kernel
theorem dX9_readsItem_11 : decode cX9_readsItem 11 = .ok (.iconst 0, 1) := by decide +kernel
theorem dX9_readsItem_12 : decode cX9_readsItem 12 = .ok (.invokevirtual 255, 3) := by decide +kernel
theorem dX9_readsItem_15 : decode cX9_readsItem 15 = .ok (.ifCond .eq 8, 3) := by decide +kernel
theorem dX9_readsItem_18 : decode cX9_readsItem 18 = .ok (.aload_n 0, 1) := by decide +kernel
theorem dX9_readsItem_19 : decode cX9_readsItem 19 = .ok (.invokevirtual 259, 3) := by decide +kernel
theorem dX9_readsItem_22 : decode cX9_readsItem 22 = .ok (.ireturn, 1) := by decide +kernel
theorem dX9_readsItem_23 : decode cX9_readsItem 23 = .ok (.aload_n 0, 1) := by decide +kernel
theorem dX9_readsItem_24 : decode cX9_readsItem 24 = .ok (.iconst 4, 1) := by decide +kernel
theorem dX9_readsItem_25 : decode cX9_readsItem 25 = .ok (.bipush 114, 2) := by decide +kernel
theorem dX9_readsItem_27 : decode cX9_readsItem 27 = .ok (.bipush 111, 2) := by decide +kernel
theorem dX9_readsItem_29 : decode cX9_readsItem 29 = .ok (.bipush 97, 2) := by decide +kernel
theorem dX9_readsItem_31 : decode cX9_readsItem 31 = .ok (.bipush 100, 2) := by decide +kernel
theorem dX9_readsItem_33 : decode cX9_readsItem 33 = .ok (.iconst 0, 1) := by decide +kernel
theorem dX9_readsItem_34 : decode cX9_readsItem 34 = .ok (.iconst 0, 1) := by decide +kernel
theorem dX9_readsItem_35 : decode cX9_readsItem 35 = .ok (.invokevirtual 255, 3) := by decide +kernel
theorem dX9_readsItem_38 : decode cX9_readsItem 38 = .ok (.ifCond .eq 8, 3) := by decide +kernel
theorem dX9_readsItem_41 : decode cX9_readsItem 41 = .ok (.aload_n 0, 1) := by decide +kernel
theorem dX9_readsItem_42 : decode cX9_readsItem 42 = .ok (.invokevirtual 263, 3) := by decide +kernel
theorem dX9_readsItem_45 : decode cX9_readsItem 45 = .ok (.ireturn, 1) := by decide +kernel
theorem dX9_readsItem_46 : decode cX9_readsItem 46 = .ok (.aload_n 0, 1) := by decide +kernel
theorem dX9_readsItem_47 : decode cX9_readsItem 47 = .ok (.bipush 6, 2) := by decide +kernel
theorem dX9_readsItem_49 : decode cX9_readsItem 49 = .ok (.bipush 99, 2) := by decide +kernel
theorem dX9_readsItem_51 : decode cX9_readsItem 51 = .ok (.bipush 108, 2) := by decide +kernel
theorem dX9_readsItem_53 : decode cX9_readsItem 53 = .ok (.bipush 97, 2) := by decide +kernel
theorem dX9_readsItem_55 : decode cX9_readsItem 55 = .ok (.bipush 117, 2) := by decide +kernel
theorem dX9_readsItem_57 : decode cX9_readsItem 57 = .ok (.bipush 115, 2) := by decide +kernel
theorem dX9_readsItem_59 : decode cX9_readsItem 59 = .ok (.bipush 101, 2) := by decide +kernel
theorem dX9_readsItem_61 : decode cX9_readsItem 61 = .ok (.invokevirtual 255, 3) := by decide +kernel
theorem dX9_readsItem_64 : decode cX9_readsItem 64 = .ok (.ifCond .eq 14, 3) := by decide +kernel
theorem dX9_readsItem_67 : decode cX9_readsItem 67 = .ok (.aload_n 0, 1) := by decide +kernel
theorem dX9_readsItem_68 : decode cX9_readsItem 68 = .ok (.invokevirtual 266, 3) := by decide +kernel
theorem dX9_readsItem_71 : decode cX9_readsItem 71 = .ok (.ifCond .eq 7, 3) := by decide +kernel
theorem dX9_readsItem_74 : decode cX9_readsItem 74 = .ok (.iconst 1, 1) := by decide +kernel
theorem dX9_readsItem_75 : decode cX9_readsItem 75 = .ok (.goto 4, 3) := by decide +kernel
theorem dX9_readsItem_78 : decode cX9_readsItem 78 = .ok (.iconst 0, 1) := by decide +kernel
theorem dX9_readsItem_79 : decode cX9_readsItem 79 = .ok (.ireturn, 1) := by decide +kernel
theorem dX9_read_0 : decode cX9_read 0 = .ok (.aload_n 0, 1) := by decide +kernel
theorem dX9_read_1 : decode cX9_read 1 = .ok (.iconst 0, 1) := by decide +kernel
theorem dX9_read_2 : decode cX9_read 2 = .ok (.invokevirtual 246, 3) := by decide +kernel
theorem dX9_read_5 : decode cX9_read 5 = .ok (.aload_n 0, 1) := by decide +kernel
theorem dX9_read_6 : decode cX9_read 6 = .ok (.iconst 4, 1) := by decide +kernel
theorem dX9_read_7 : decode cX9_read 7 = .ok (.bipush 108, 2) := by decide +kernel
theorem dX9_read_9 : decode cX9_read 9 = .ok (.bipush 97, 2) := by decide +kernel
theorem dX9_read_11 : decode cX9_read 11 = .ok (.bipush 110, 2) := by decide +kernel
theorem dX9_read_13 : decode cX9_read 13 = .ok (.bipush 100, 2) := by decide +kernel
theorem dX9_read_15 : decode cX9_read 15 = .ok (.iconst 0, 1) := by decide +kernel
theorem dX9_read_16 : decode cX9_read 16 = .ok (.iconst 0, 1) := by decide +kernel
theorem dX9_read_17 : decode cX9_read 17 = .ok (.invokevirtual 255, 3) := by decide +kernel
theorem dX9_read_20 : decode cX9_read 20 = .ok (.ifCond .ne 11, 3) := by decide +kernel
theorem dX9_read_23 : decode cX9_read 23 = .ok (.bipush (-10), 2) := by decide +kernel
theorem dX9_read_25 : decode cX9_read 25 = .ok (.aload_n 0, 1) := by decide +kernel
theorem dX9_read_26 : decode cX9_read 26 = .ok (.getfield 228, 3) := by decide +kernel
theorem dX9_read_29 : decode cX9_read 29 = .ok (.isub, 1) := by decide +kernel
theorem dX9_read_30 : decode cX9_read 30 = .ok (.ireturn, 1) := by decide +kernel
theorem dX9_read_31 : decode cX9_read 31 = .ok (.aload_n 0, 1) := by decide +kernel
theorem dX9_read_32 : decode cX9_read 32 = .ok (.invokevirtual 249, 3) := by decide +kernel
theorem dX9_read_35 : decode cX9_read 35 = .ok (.aload_n 0, 1) := by decide +kernel
theorem dX9_read_36 : decode cX9_read 36 = .ok (.getfield 234, 3) := by decide +kernel
theorem dX9_read_39 : decode cX9_read 39 = .ok (.iconst 3, 1) := by decide +kernel
theorem dX9_read_40 : decode cX9_read 40 = .ok (.if_icmp .eq 11, 3) := by decide +kernel
theorem dX9_read_43 : decode cX9_read 43 = .ok (.bipush (-10), 2) := by decide +kernel
theorem dX9_read_45 : decode cX9_read 45 = .ok (.aload_n 0, 1) := by decide +kernel
theorem dX9_read_46 : decode cX9_read 46 = .ok (.getfield 228, 3) := by decide +kernel
theorem dX9_read_49 : decode cX9_read 49 = .ok (.isub, 1) := by decide +kernel
theorem dX9_read_50 : decode cX9_read 50 = .ok (.ireturn, 1) := by decide +kernel
theorem dX9_read_51 : decode cX9_read 51 = .ok (.aload_n 0, 1) := by decide +kernel
theorem dX9_read_52 : decode cX9_read 52 = .ok (.invokevirtual 249, 3) := by decide +kernel
theorem dX9_read_55 : decode cX9_read 55 = .ok (.aload_n 0, 1) := by decide +kernel
theorem dX9_read_56 : decode cX9_read 56 = .ok (.getfield 33, 3) := by decide +kernel
theorem dX9_read_59 : decode cX9_read 59 = .ok (.invokestatic 56, 3) := by decide +kernel
theorem dX9_read_62 : decode cX9_read 62 = .ok (.iconst 1, 1) := by decide +kernel
theorem dX9_read_63 : decode cX9_read 63 = .ok (.istore_n 1, 1) := by decide +kernel
theorem dX9_read_64 : decode cX9_read 64 = .ok (.aload_n 0, 1) := by decide +kernel
theorem dX9_read_65 : decode cX9_read 65 = .ok (.getfield 234, 3) := by decide +kernel
theorem dX9_read_68 : decode cX9_read 68 = .ok (.ifCond .eq 36, 3) := by decide +kernel
theorem dX9_read_71 : decode cX9_read 71 = .ok (.aload_n 0, 1) := by decide +kernel
theorem dX9_read_72 : decode cX9_read 72 = .ok (.invokevirtual 269, 3) := by decide +kernel
theorem dX9_read_75 : decode cX9_read 75 = .ok (.ifCond .eq 11, 3) := by decide +kernel
theorem dX9_read_78 : decode cX9_read 78 = .ok (.aload_n 0, 1) := by decide +kernel
theorem dX9_read_79 : decode cX9_read 79 = .ok (.getfield 234, 3) := by decide +kernel
theorem dX9_read_82 : decode cX9_read 82 = .ok (.iconst 3, 1) := by decide +kernel
theorem dX9_read_83 : decode cX9_read 83 = .ok (.if_icmp .eq 11, 3) := by decide +kernel
theorem dX9_read_86 : decode cX9_read 86 = .ok (.bipush (-10), 2) := by decide +kernel
theorem dX9_read_88 : decode cX9_read 88 = .ok (.aload_n 0, 1) := by decide +kernel
theorem dX9_read_89 : decode cX9_read 89 = .ok (.getfield 228, 3) := by decide +kernel
theorem dX9_read_92 : decode cX9_read 92 = .ok (.isub, 1) := by decide +kernel
theorem dX9_read_93 : decode cX9_read 93 = .ok (.ireturn, 1) := by decide +kernel
theorem dX9_read_94 : decode cX9_read 94 = .ok (.aload_n 0, 1) := by decide +kernel
theorem dX9_read_95 : decode cX9_read 95 = .ok (.invokevirtual 249, 3) := by decide +kernel
theorem dX9_read_98 : decode cX9_read 98 = .ok (.iinc 1 1, 3) := by decide +kernel
theorem dX9_read_101 : decode cX9_read 101 = .ok (.goto (-37), 3) := by decide +kernel
theorem dX9_read_104 : decode cX9_read 104 = .ok (.iconst 0, 1) := by decide +kernel
theorem dX9_read_105 : decode cX9_read 105 = .ok (.istore_n 2, 1) := by decide +kernel
theorem dX9_read_106 : decode cX9_read 106 = .ok (.iload_n 2, 1) := by decide +kernel
theorem dX9_read_107 : decode cX9_read 107 = .ok (.bipush 126, 2) := by decide +kernel
theorem dX9_read_109 : decode cX9_read 109 = .ok (.if_icmp .ge 21, 3) := by decide +kernel
theorem dX9_read_112 : decode cX9_read 112 = .ok (.aload_n 0, 1) := by decide +kernel
theorem dX9_read_113 : decode cX9_read 113 = .ok (.getfield 7, 3) := by decide +kernel
theorem dX9_read_116 : decode cX9_read 116 = .ok (.iload_n 2, 1) := by decide +kernel
theorem dX9_read_117 : decode cX9_read 117 = .ok (.aload_n 0, 1) := by decide +kernel
theorem dX9_read_118 : decode cX9_read 118 = .ok (.getfield 33, 3) := by decide +kernel
theorem dX9_read_121 : decode cX9_read 121 = .ok (.iload_n 2, 1) := by decide +kernel
theorem dX9_read_122 : decode cX9_read 122 = .ok (.iaload, 1) := by decide +kernel
theorem dX9_read_123 : decode cX9_read 123 = .ok (.iastore, 1) := by decide +kernel
theorem dX9_read_124 : decode cX9_read 124 = .ok (.iinc 2 1, 3) := by decide +kernel
theorem dX9_read_127 : decode cX9_read 127 = .ok (.goto (-21), 3) := by decide +kernel
theorem dX9_read_130 : decode cX9_read 130 = .ok (.iload_n 1, 1) := by decide +kernel
theorem dX9_read_131 : decode cX9_read 131 = .ok (.ireturn, 1) := by decide +kernel
theorem kX9_readsItem : zCV yX9_readsItem RX9 cX9_readsItem 1 (some .boolean) 0 := ⟨q5_93, qp41, q1_3, q5_94, rfl, by decide +kernel, by decide +kernel, by decide +kernel⟩
theorem kX9_read : zCV yX9_read RX9 cX9_read 3 (some .int) 0 := ⟨q5_66, q5_67, q1_3, q5_68, rfl, by decide +kernel, by decide +kernel, by decide +kernel⟩
set_option maxHeartbeats 4000000 in
set_option maxRecDepth 100000 in
theorem c_X9_readsItem (l : Launch) (g : zG) (o : Nat) (a : Nat → Nat) (F : Nat → Int32) (L : Nat → Int64) (A : Nat → Nat → Int32) (X : va_W) (ln : Nat) (q : Nat) (T : Nat) (C : Nat) (htk : tkS F (A 5) ln q) (hql : q ≤ ln) (hl150 : ln ≤ 150) (hby : byOK (A 5) ln) (hpk : pK (A 6) T C) : Met l yX9_readsItem (Cond.code yX9_readsItem cX9_readsItem 1 (some .boolean) :: TBL) { frames := 6, cells := 0, slots := 0, locals := 132 } (zPc [.ref o] g (mW g o a F L A ++ X)) (zQi g (fun r ws => ∃ (F1 : Nat → Int32) (f6 : Nat → Int32) (f7 : Nat → Int32), r = bI (xr (pIt (A 5) ln (A 6) T C q)) ∧ ws = mW g o a F1 L (updA (updA A 6 f6) 7 f7) ++ X ∧ tkS F1 (A 5) ln (xq (pIt (A 5) ln (A 6) T C q)) ∧ f6 = xN (pIt (A 5) ln (A 6) T C q) (A 6))) 0 0 (zA (gz g)) := by
  refine z_start (by decide +kernel) rfl (Nat.le_of_ble_eq_true rfl) ?_
  intro p e s m args below meth c ls hE hr hnm hB hl
  have hl : lv_has ls 1 [(0, .ref o)] := hl
  revert hB
  generalize s.heap = H
  generalize ([] : List Loc) = locs
  intro hB
  have hT := hpk.1
  have hT6 := hpk.2.1
  have hC := hpk.2.2.1
  have hC8 := hpk.2.2.2
  refine lv_aload_n hE.x hE.b dX9_readsItem_0 rfl (lv_at hl 0 rfl) ?_
  refine lv_iconst (v := nI 4) hE.x hE.b dX9_readsItem_1 rfl ?_
  refine lv_bipush (v := (nI 116)) hE.x hE.b dX9_readsItem_2 rfl ?_
  refine lv_bipush (v := (nI 111)) hE.x hE.b dX9_readsItem_4 rfl ?_
  refine lv_bipush (v := (nI 119)) hE.x hE.b dX9_readsItem_6 rfl ?_
  refine lv_bipush (v := (nI 110)) hE.x hE.b dX9_readsItem_8 rfl ?_
  refine lv_iconst (v := nI 0) hE.x hE.b dX9_readsItem_10 rfl ?_
  refine lv_iconst (v := nI 0) hE.x hE.b dX9_readsItem_11 rfl ?_
  refine z_qi hB (z_cV hE hB (c_X9_isCalled l g o a F L A X ln q 4 116 111 119 110 0 0 htk hql (by omega) hby (by decide) (by decide) (by decide) (by decide) (by decide) (by decide) (by decide)) q5_83 kX9_isCalled ⟨rfl, rfl⟩ ⟨Nat.le_of_ble_eq_true rfl, Nat.le_of_ble_eq_true rfl⟩ 0 rfl rfl rfl hl.1 rfl (Nat.le_of_ble_eq_true rfl) dX9_readsItem_12 ⟨Nat.le_of_ble_eq_true rfl, Nat.le_of_ble_eq_true rfl⟩) (fun r_1 w_2 H locs hw hB => ?_)
  obtain ⟨hr9, hw9⟩ := hw
  have hr9 := hr9.symm
  subst hr9
  have hw9 := hw9.symm
  subst hw9
  refine z_bf (b := (wdQ (A 5) ln q 4 (w6 116 111 119 110 0 0))) (tgt := 23) hE dX9_readsItem_15 (by decide) (fun c_3 => ?_) (fun c_3 => ?_)
  · refine lv_aload_n hE.x hE.b dX9_readsItem_23 rfl (lv_at hl 0 rfl) ?_
    refine lv_iconst (v := nI 4) hE.x hE.b dX9_readsItem_24 rfl ?_
    refine lv_bipush (v := (nI 114)) hE.x hE.b dX9_readsItem_25 rfl ?_
    refine lv_bipush (v := (nI 111)) hE.x hE.b dX9_readsItem_27 rfl ?_
    refine lv_bipush (v := (nI 97)) hE.x hE.b dX9_readsItem_29 rfl ?_
    refine lv_bipush (v := (nI 100)) hE.x hE.b dX9_readsItem_31 rfl ?_
    refine lv_iconst (v := nI 0) hE.x hE.b dX9_readsItem_33 rfl ?_
    refine lv_iconst (v := nI 0) hE.x hE.b dX9_readsItem_34 rfl ?_
    refine z_qi hB (z_cV hE hB (c_X9_isCalled l g o a F L A X ln q 4 114 111 97 100 0 0 htk hql (by omega) hby (by decide) (by decide) (by decide) (by decide) (by decide) (by decide) (by decide)) q5_83 kX9_isCalled ⟨rfl, rfl⟩ ⟨Nat.le_of_ble_eq_true rfl, Nat.le_of_ble_eq_true rfl⟩ 0 rfl rfl rfl hl.1 rfl (Nat.le_of_ble_eq_true rfl) dX9_readsItem_35 ⟨Nat.le_of_ble_eq_true rfl, Nat.le_of_ble_eq_true rfl⟩) (fun r_4 w_5 H locs hw hB => ?_)
    obtain ⟨hr9, hw9⟩ := hw
    have hr9 := hr9.symm
    subst hr9
    have hw9 := hw9.symm
    subst hw9
    refine z_bf (b := (wdQ (A 5) ln q 4 (w6 114 111 97 100 0 0))) (tgt := 46) hE dX9_readsItem_38 (by decide) (fun c_6 => ?_) (fun c_6 => ?_)
    · refine lv_aload_n hE.x hE.b dX9_readsItem_46 rfl (lv_at hl 0 rfl) ?_
      refine lv_bipush (v := (nI 6)) hE.x hE.b dX9_readsItem_47 rfl ?_
      refine lv_bipush (v := (nI 99)) hE.x hE.b dX9_readsItem_49 rfl ?_
      refine lv_bipush (v := (nI 108)) hE.x hE.b dX9_readsItem_51 rfl ?_
      refine lv_bipush (v := (nI 97)) hE.x hE.b dX9_readsItem_53 rfl ?_
      refine lv_bipush (v := (nI 117)) hE.x hE.b dX9_readsItem_55 rfl ?_
      refine lv_bipush (v := (nI 115)) hE.x hE.b dX9_readsItem_57 rfl ?_
      refine lv_bipush (v := (nI 101)) hE.x hE.b dX9_readsItem_59 rfl ?_
      refine z_qi hB (z_cV hE hB (c_X9_isCalled l g o a F L A X ln q 6 99 108 97 117 115 101 htk hql (by omega) hby (by decide) (by decide) (by decide) (by decide) (by decide) (by decide) (by decide)) q5_83 kX9_isCalled ⟨rfl, rfl⟩ ⟨Nat.le_of_ble_eq_true rfl, Nat.le_of_ble_eq_true rfl⟩ 0 rfl rfl rfl hl.1 rfl (Nat.le_of_ble_eq_true rfl) dX9_readsItem_61 ⟨Nat.le_of_ble_eq_true rfl, Nat.le_of_ble_eq_true rfl⟩) (fun r_7 w_8 H locs hw hB => ?_)
      obtain ⟨hr9, hw9⟩ := hw
      have hr9 := hr9.symm
      subst hr9
      have hw9 := hw9.symm
      subst hw9
      refine z_bf (b := (wdQ (A 5) ln q 6 (w6 99 108 97 117 115 101))) (tgt := 78) hE dX9_readsItem_64 (by decide) (fun c_9 => ?_) (fun c_9 => ?_)
      · refine lv_iconst (v := nI 0) hE.x hE.b dX9_readsItem_78 rfl ?_
        exact z_bret (b := false) (ws := mW g o a F L A ++ X) hE hB hr (⟨F, (A 6), (A 7), by unfold pIt; rw [if_neg (show ¬ wdQ (A 5) ln q 4 wTown = true from by have h9 : wdQ (A 5) ln q 4 wTown = false := c_3; rw [h9]; decide), if_neg (show ¬ wdQ (A 5) ln q 4 wRoad = true from by have h9 : wdQ (A 5) ln q 4 wRoad = false := c_6; rw [h9]; decide), if_neg (show ¬ wdQ (A 5) ln q 6 wClause = true from by have h9 : wdQ (A 5) ln q 6 wClause = false := c_9; rw [h9]; decide)]; rfl, rfl, by unfold pIt; rw [if_neg (show ¬ wdQ (A 5) ln q 4 wTown = true from by have h9 : wdQ (A 5) ln q 4 wTown = false := c_3; rw [h9]; decide), if_neg (show ¬ wdQ (A 5) ln q 4 wRoad = true from by have h9 : wdQ (A 5) ln q 4 wRoad = false := c_6; rw [h9]; decide), if_neg (show ¬ wdQ (A 5) ln q 6 wClause = true from by have h9 : wdQ (A 5) ln q 6 wClause = false := c_9; rw [h9]; decide)]; exact htk, by unfold pIt; rw [if_neg (show ¬ wdQ (A 5) ln q 4 wTown = true from by have h9 : wdQ (A 5) ln q 4 wTown = false := c_3; rw [h9]; decide), if_neg (show ¬ wdQ (A 5) ln q 4 wRoad = true from by have h9 : wdQ (A 5) ln q 4 wRoad = false := c_6; rw [h9]; decide), if_neg (show ¬ wdQ (A 5) ln q 6 wClause = true from by have h9 : wdQ (A 5) ln q 6 wClause = false := c_9; rw [h9]; decide)]; rfl⟩) dX9_readsItem_79
      · refine lv_aload_n hE.x hE.b dX9_readsItem_67 rfl (lv_at hl 0 rfl) ?_
        refine z_qi hB (z_cV hE hB (c_X9_readsClause l g o a F L A X ln q T C htk hql (by omega) hby hpk) q5_107 kX9_readsClause ⟨rfl, rfl⟩ ⟨Nat.le_of_ble_eq_true rfl, Nat.le_of_ble_eq_true rfl⟩ 0 rfl rfl rfl hl.1 rfl (Nat.le_of_ble_eq_true rfl) dX9_readsItem_68 ⟨Nat.le_of_ble_eq_true rfl, Nat.le_of_ble_eq_true rfl⟩) (fun r_10 w_11 H locs hw hB => ?_)
        obtain ⟨F1_12, f6_13, f7_14, hr9, hw9, hf_15, hf_16⟩ := hw
        have hr9 := hr9.symm
        subst hr9
        have hw9 := hw9.symm
        subst hw9
        refine z_bf (b := (xr (pCl (A 5) ln (A 6) T C q))) (tgt := 78) hE dX9_readsItem_71 (by decide) (fun c_17 => ?_) (fun c_17 => ?_)
        · refine lv_iconst (v := nI 0) hE.x hE.b dX9_readsItem_78 rfl ?_
          exact z_bret (b := false) (ws := mW g o a F1_12 L (updA (updA A 6 f6_13) 7 f7_14) ++ X) hE hB hr (⟨F1_12, f6_13, f7_14, by unfold pIt; rw [if_neg (show ¬ wdQ (A 5) ln q 4 wTown = true from by have h9 : wdQ (A 5) ln q 4 wTown = false := c_3; rw [h9]; decide), if_neg (show ¬ wdQ (A 5) ln q 4 wRoad = true from by have h9 : wdQ (A 5) ln q 4 wRoad = false := c_6; rw [h9]; decide), if_pos (show wdQ (A 5) ln q 6 wClause = true from c_9)]; rw [c_17], rfl, by unfold pIt; rw [if_neg (show ¬ wdQ (A 5) ln q 4 wTown = true from by have h9 : wdQ (A 5) ln q 4 wTown = false := c_3; rw [h9]; decide), if_neg (show ¬ wdQ (A 5) ln q 4 wRoad = true from by have h9 : wdQ (A 5) ln q 4 wRoad = false := c_6; rw [h9]; decide), if_pos (show wdQ (A 5) ln q 6 wClause = true from c_9)]; exact hf_15, by unfold pIt; rw [if_neg (show ¬ wdQ (A 5) ln q 4 wTown = true from by have h9 : wdQ (A 5) ln q 4 wTown = false := c_3; rw [h9]; decide), if_neg (show ¬ wdQ (A 5) ln q 4 wRoad = true from by have h9 : wdQ (A 5) ln q 4 wRoad = false := c_6; rw [h9]; decide), if_pos (show wdQ (A 5) ln q 6 wClause = true from c_9)]; exact hf_16⟩) dX9_readsItem_79
        · refine lv_iconst (v := nI 1) hE.x hE.b dX9_readsItem_74 rfl ?_
          refine lv_goto (tgt := 79) hE.x hE.b dX9_readsItem_75 (by decide) ?_
          exact z_bret (b := true) (ws := mW g o a F1_12 L (updA (updA A 6 f6_13) 7 f7_14) ++ X) hE hB hr (⟨F1_12, f6_13, f7_14, by unfold pIt; rw [if_neg (show ¬ wdQ (A 5) ln q 4 wTown = true from by have h9 : wdQ (A 5) ln q 4 wTown = false := c_3; rw [h9]; decide), if_neg (show ¬ wdQ (A 5) ln q 4 wRoad = true from by have h9 : wdQ (A 5) ln q 4 wRoad = false := c_6; rw [h9]; decide), if_pos (show wdQ (A 5) ln q 6 wClause = true from c_9)]; rw [c_17], rfl, by unfold pIt; rw [if_neg (show ¬ wdQ (A 5) ln q 4 wTown = true from by have h9 : wdQ (A 5) ln q 4 wTown = false := c_3; rw [h9]; decide), if_neg (show ¬ wdQ (A 5) ln q 4 wRoad = true from by have h9 : wdQ (A 5) ln q 4 wRoad = false := c_6; rw [h9]; decide), if_pos (show wdQ (A 5) ln q 6 wClause = true from c_9)]; exact hf_15, by unfold pIt; rw [if_neg (show ¬ wdQ (A 5) ln q 4 wTown = true from by have h9 : wdQ (A 5) ln q 4 wTown = false := c_3; rw [h9]; decide), if_neg (show ¬ wdQ (A 5) ln q 4 wRoad = true from by have h9 : wdQ (A 5) ln q 4 wRoad = false := c_6; rw [h9]; decide), if_pos (show wdQ (A 5) ln q 6 wClause = true from c_9)]; exact hf_16⟩) dX9_readsItem_79
    · refine lv_aload_n hE.x hE.b dX9_readsItem_41 rfl (lv_at hl 0 rfl) ?_
      refine z_qi hB (z_cV hE hB (c_X9_readsRoad l g o a F L A X ln q T C htk hql (by omega) hby hpk) q5_103 kX9_readsRoad ⟨rfl, rfl⟩ ⟨Nat.le_of_ble_eq_true rfl, Nat.le_of_ble_eq_true rfl⟩ 0 rfl rfl rfl hl.1 rfl (Nat.le_of_ble_eq_true rfl) dX9_readsItem_42 ⟨Nat.le_of_ble_eq_true rfl, Nat.le_of_ble_eq_true rfl⟩) (fun r_18 w_19 H locs hw hB => ?_)
      obtain ⟨F1_20, f6_21, f7_22, hr9, hw9, hf_23, hf_24⟩ := hw
      have hr9 := hr9.symm
      subst hr9
      have hw9 := hw9.symm
      subst hw9
      exact z_bret (b := (xr (pRd (A 5) ln (A 6) T C q))) (ws := mW g o a F1_20 L (updA (updA A 6 f6_21) 7 f7_22) ++ X) hE hB hr (⟨F1_20, f6_21, f7_22, by unfold pIt; rw [if_neg (show ¬ wdQ (A 5) ln q 4 wTown = true from by have h9 : wdQ (A 5) ln q 4 wTown = false := c_3; rw [h9]; decide), if_pos (show wdQ (A 5) ln q 4 wRoad = true from c_6)], rfl, by unfold pIt; rw [if_neg (show ¬ wdQ (A 5) ln q 4 wTown = true from by have h9 : wdQ (A 5) ln q 4 wTown = false := c_3; rw [h9]; decide), if_pos (show wdQ (A 5) ln q 4 wRoad = true from c_6)]; exact hf_23, by unfold pIt; rw [if_neg (show ¬ wdQ (A 5) ln q 4 wTown = true from by have h9 : wdQ (A 5) ln q 4 wTown = false := c_3; rw [h9]; decide), if_pos (show wdQ (A 5) ln q 4 wRoad = true from c_6)]; exact hf_24⟩) dX9_readsItem_45
  · refine lv_aload_n hE.x hE.b dX9_readsItem_18 rfl (lv_at hl 0 rfl) ?_
    refine z_qi hB (z_cV hE hB (c_X9_readsTown l g o a F L A X ln q T C htk hql (by omega) hby hpk) q5_95 kX9_readsTown ⟨rfl, rfl⟩ ⟨Nat.le_of_ble_eq_true rfl, Nat.le_of_ble_eq_true rfl⟩ 0 rfl rfl rfl hl.1 rfl (Nat.le_of_ble_eq_true rfl) dX9_readsItem_19 ⟨Nat.le_of_ble_eq_true rfl, Nat.le_of_ble_eq_true rfl⟩) (fun r_25 w_26 H locs hw hB => ?_)
    obtain ⟨F1_27, f6_28, f7_29, hr9, hw9, hf_30, hf_31⟩ := hw
    have hr9 := hr9.symm
    subst hr9
    have hw9 := hw9.symm
    subst hw9
    exact z_bret (b := (xr (pTw (A 5) ln (A 6) T C q))) (ws := mW g o a F1_27 L (updA (updA A 6 f6_28) 7 f7_29) ++ X) hE hB hr (⟨F1_27, f6_28, f7_29, by unfold pIt; rw [if_pos (show wdQ (A 5) ln q 4 wTown = true from c_3)], rfl, by unfold pIt; rw [if_pos (show wdQ (A 5) ln q 4 wTown = true from c_3)]; exact hf_30, by unfold pIt; rw [if_pos (show wdQ (A 5) ln q 4 wTown = true from c_3)]; exact hf_31⟩) dX9_readsItem_22

set_option maxHeartbeats 4000000 in
set_option maxRecDepth 100000 in
theorem c_X9_read (l : Launch) (g : zG) (o : Nat) (a : Nat → Nat) (F : Nat → Int32) (L : Nat → Int64) (A : Nat → Nat → Int32) (X : va_W) (ln : Nat) (hln : F 16 = nI ln) (hl150 : ln ≤ 150) (hby : byOK (A 5) ln) : Met l yX9_read (Cond.code yX9_read cX9_read 3 (some .int) :: TBL) { frames := 7, cells := 0, slots := 0, locals := 152 } (zPc [.ref o] g (mW g o a F L A ++ X)) (zQi g (fun r ws => ∃ (F1 : Nat → Int32) (f0 : Nat → Int32) (f6 : Nat → Int32) (f7 : Nat → Int32), r = (xI (pRead (A 5) ln (clr (A 6)))) ∧ ws = mW g o a F1 L (updA (updA (updA A 0 f0) 6 f6) 7 f7) ++ X ∧ F1 16 = F 16 ∧ f0 = nRd (pRead (A 5) ln (clr (A 6))) (A 0))) 0 0 (zA (gz g)) := by
  refine z_start (by decide +kernel) rfl (Nat.le_of_ble_eq_true rfl) ?_
  intro p e s m args below meth c ls hE hr hnm hB hl
  have hl : lv_has ls 3 [(0, .ref o)] := hl
  revert hB
  generalize s.heap = H
  generalize ([] : List Loc) = locs
  intro hB
  refine lv_aload_n hE.x hE.b dX9_read_0 rfl (lv_at hl 0 rfl) ?_
  refine lv_iconst (v := nI 0) hE.x hE.b dX9_read_1 rfl ?_
  refine z_qv hB (z_cV hE hB (c_X9_lookAt l g o a F L A X ln 0 hln (by omega) hby (by omega)) q5_69 kX9_lookAt ⟨rfl, rfl⟩ ⟨Nat.le_of_ble_eq_true rfl, Nat.le_of_ble_eq_true rfl⟩ 0 rfl rfl rfl hl.1 rfl (Nat.le_of_ble_eq_true rfl) dX9_read_2 ⟨Nat.le_of_ble_eq_true rfl, Nat.le_of_ble_eq_true rfl⟩) (fun w_2 H locs hw hB => ?_)
  obtain ⟨F1_3, hw9, hf_4⟩ := hw
  have hw9 := hw9.symm
  subst hw9
  refine lv_aload_n hE.x hE.b dX9_read_5 rfl (lv_at hl 0 rfl) ?_
  refine lv_iconst (v := nI 4) hE.x hE.b dX9_read_6 rfl ?_
  refine lv_bipush (v := (nI 108)) hE.x hE.b dX9_read_7 rfl ?_
  refine lv_bipush (v := (nI 97)) hE.x hE.b dX9_read_9 rfl ?_
  refine lv_bipush (v := (nI 110)) hE.x hE.b dX9_read_11 rfl ?_
  refine lv_bipush (v := (nI 100)) hE.x hE.b dX9_read_13 rfl ?_
  refine lv_iconst (v := nI 0) hE.x hE.b dX9_read_15 rfl ?_
  refine lv_iconst (v := nI 0) hE.x hE.b dX9_read_16 rfl ?_
  refine z_qi hB (z_cV hE hB (c_X9_isCalled l g o a F1_3 L A X ln (sk (A 5) ln 0) 4 108 97 110 100 0 0 hf_4 (sk_in (Nat.zero_le ln)) (by omega) hby (by decide) (by decide) (by decide) (by decide) (by decide) (by decide) (by decide)) q5_83 kX9_isCalled ⟨rfl, rfl⟩ ⟨Nat.le_of_ble_eq_true rfl, Nat.le_of_ble_eq_true rfl⟩ 0 rfl rfl rfl hl.1 rfl (Nat.le_of_ble_eq_true rfl) dX9_read_17 ⟨Nat.le_of_ble_eq_true rfl, Nat.le_of_ble_eq_true rfl⟩) (fun r_5 w_6 H locs hw hB => ?_)
  obtain ⟨hr9, hw9⟩ := hw
  have hr9 := hr9.symm
  subst hr9
  have hw9 := hw9.symm
  subst hw9
  refine z_bt (b := (wdQ (A 5) ln (sk (A 5) ln 0) 4 (w6 108 97 110 100 0 0))) (tgt := 31) hE dX9_read_20 (by decide) (fun c_7 => ?_) (fun c_7 => ?_)
  · refine lv_aload_n hE.x hE.b dX9_read_31 rfl (lv_at hl 0 rfl) ?_
    refine z_qv hB (z_cV hE hB (c_X9_goOn l g o a F1_3 L A X ln (sk (A 5) ln 0) hf_4 (sk_in (Nat.zero_le ln)) (by omega) hby) q5_87 kX9_goOn ⟨rfl, rfl⟩ ⟨Nat.le_of_ble_eq_true rfl, Nat.le_of_ble_eq_true rfl⟩ 0 rfl rfl rfl hl.1 rfl (Nat.le_of_ble_eq_true rfl) dX9_read_32 ⟨Nat.le_of_ble_eq_true rfl, Nat.le_of_ble_eq_true rfl⟩) (fun w_9 H locs hw hB => ?_)
    obtain ⟨F1_10, hw9, hf_11⟩ := hw
    have hw9 := hw9.symm
    subst hw9
    refine lv_aload_n hE.x hE.b dX9_read_35 rfl (lv_at hl 0 rfl) ?_
    refine z_get (v := .int (F1_10 19)) hE hB inX9 0 rfl rfl 19 (by decide) q4_20 (fun _ h9 => h9) rfl dX9_read_36 ?_
    refine z_top (y := (nI (kd (A 5) ln (nx (A 5) ln (sk (A 5) ln 0))))) hf_11.2.2.1 ?_
    have hk6 := kd_le (b := A 5) (ln := ln) (q := nx (A 5) ln (sk (A 5) ln 0))
    refine lv_iconst (v := nI 3) hE.x hE.b dX9_read_39 rfl ?_
    refine z_eq (tgt := 51) (X := (((kd (A 5) ln (nx (A 5) ln (sk (A 5) ln 0))) : Nat) : Int)) (Y := (3 : Int)) hE dX9_read_40 (by decide) (nI_toInt (n := (kd (A 5) ln (nx (A 5) ln (sk (A 5) ln 0)))) (by omega)) rfl (fun c_12 => ?_) (fun c_12 => ?_)
    · refine lv_aload_n hE.x hE.b dX9_read_51 rfl (lv_at hl 0 rfl) ?_
      refine z_qv hB (z_cV hE hB (c_X9_goOn l g o a F1_10 L A X ln (nx (A 5) ln (sk (A 5) ln 0)) hf_11 (nx_in (b := A 5) (sk_in (Nat.zero_le ln))) (by omega) hby) q5_87 kX9_goOn ⟨rfl, rfl⟩ ⟨Nat.le_of_ble_eq_true rfl, Nat.le_of_ble_eq_true rfl⟩ 0 rfl rfl rfl hl.1 rfl (Nat.le_of_ble_eq_true rfl) dX9_read_52 ⟨Nat.le_of_ble_eq_true rfl, Nat.le_of_ble_eq_true rfl⟩) (fun w_14 H locs hw hB => ?_)
      obtain ⟨F1_15, hw9, hf_16⟩ := hw
      have hw9 := hw9.symm
      subst hw9
      refine lv_aload_n hE.x hE.b dX9_read_55 rfl (lv_at hl 0 rfl) ?_
      refine z_get (v := .ref (a 6)) hE hB inX9 0 rfl rfl 21 (by decide) q4_22 (fun _ h9 => h9) rfl dX9_read_56 ?_
      refine z_qv hB (z_cS hE hB (c_X9_begin_6 l g o a F1_15 L A X) q4_80 kX9_begin ⟨rfl, rfl⟩ ⟨Nat.le_of_ble_eq_true rfl, Nat.le_of_ble_eq_true rfl⟩ rfl hl.1 rfl (Nat.le_of_ble_eq_true rfl) dX9_read_59 ⟨Nat.le_of_ble_eq_true rfl, Nat.le_of_ble_eq_true rfl⟩) (fun w_18 H locs hw hB => ?_)
      have hw9 := hw
      have hw9 := hw9.symm
      subst hw9
      refine lv_iconst (v := nI 1) hE.x hE.b dX9_read_62 rfl ?_
      refine lv_istore_n (lv' := [(1, .int (nI 1)), (0, .ref o)]) hE.x hE.b dX9_read_63 rfl hl (by decide) rfl (fun ls hl => ?_)
      have k64 : ∀ (fu : Nat) (it : Nat) (q : Nat) (fz : Nat) (T : Nat) (C : Nat) (f6 : Nat → Int32) (f7 : Nat → Int32) (F1 : Nat → Int32) (H : Heap) (locs : List Loc) (ls : Array Slot), fz < fu → (q ≤ ln) → (it ≤ q + 1) → (tkS F1 (A 5) ln q) → (pK f6 T C) → (ln - q < fz) → ((pRead (A 5) ln (clr (A 6))) = pLp (A 5) ln fz f6 T C q it) → zB g s (mW g o a F1 L (updA (updA A 6 f6) 7 f7) ++ X) H locs → lv_has ls 3 [(1, .int (nI it)), (0, .ref o)] → W p l e { frames := 7, cells := 0, slots := 0, locals := 152 } s m args below meth c H locs 0 0 (MQ below (zQi g (fun r ws => ∃ (F1 : Nat → Int32) (f0 : Nat → Int32) (f6 : Nat → Int32) (f7 : Nat → Int32), r = (xI (pRead (A 5) ln (clr (A 6)))) ∧ ws = mW g o a F1 L (updA (updA (updA A 0 f0) 6 f6) 7 f7) ++ X ∧ F1 16 = F 16 ∧ f0 = nRd (pRead (A 5) ln (clr (A 6))) (A 0))) args s 0 0 (zA (gz g))) (F0 m 64 ls []) := by
        intro fu
        induction fu with
        | zero => intro it q fz T C f6 f7 F1 H locs ls hfu hql hit htk hpk hfz hrd hB hl; exact absurd hfu (Nat.not_lt_zero _)
        | succ fu ih64 =>
          intro it q fz T C f6 f7 F1 H locs ls hfu hql hit htk hpk hfz hrd hB hl
          refine lv_aload_n hE.x hE.b dX9_read_64 rfl (lv_at hl 1 rfl) ?_
          refine z_get (v := .int (F1 19)) hE hB inX9 0 rfl rfl 19 (by decide) q4_20 (fun _ h9 => h9) rfl dX9_read_65 ?_
          refine z_top (y := (nI (kd (A 5) ln q))) htk.2.2.1 ?_
          have hk4 := kd_le (b := A 5) (ln := ln) (q := q)
          refine z_eq0 (tgt := 104) (X := (((kd (A 5) ln q) : Nat) : Int)) hE dX9_read_68 (by decide) (nI_toInt (n := (kd (A 5) ln q)) (by omega)) (fun c_19 => ?_) (fun c_19 => ?_)
          · refine lv_iconst (v := nI 0) hE.x hE.b dX9_read_104 rfl ?_
            refine lv_istore_n (lv' := [(2, .int (nI 0)), (1, .int (nI it)), (0, .ref o)]) hE.x hE.b dX9_read_105 rfl hl (by decide) rfl (fun ls hl => ?_)
            have k106 : ∀ (fu : Nat) (k : Nat) (f : Nat → Int32) (H : Heap) (locs : List Loc) (ls : Array Slot), 126 - k < fu → (k ≤ 126) → (∀ x, f x = if x < k then f6 x else A 0 x) → zB g s (mW g o a F1 L (updA (updA (updA A 0 f) 6 f6) 7 f7) ++ X) H locs → lv_has ls 3 [(2, .int (nI k)), (1, .int (nI it)), (0, .ref o)] → W p l e { frames := 7, cells := 0, slots := 0, locals := 152 } s m args below meth c H locs 0 0 (MQ below (zQi g (fun r ws => ∃ (F1 : Nat → Int32) (f0 : Nat → Int32) (f6 : Nat → Int32) (f7 : Nat → Int32), r = (xI (pRead (A 5) ln (clr (A 6)))) ∧ ws = mW g o a F1 L (updA (updA (updA A 0 f0) 6 f6) 7 f7) ++ X ∧ F1 16 = F 16 ∧ f0 = nRd (pRead (A 5) ln (clr (A 6))) (A 0))) args s 0 0 (zA (gz g))) (F0 m 106 ls []) := by
              intro fu
              induction fu with
              | zero => intro k f H locs ls hfu hk hf hB hl; exact absurd hfu (Nat.not_lt_zero _)
              | succ fu ih106 =>
                intro k f H locs ls hfu hk hf hB hl
                refine lv_iload_n hE.x hE.b dX9_read_106 rfl (lv_at hl 0 rfl) ?_
                refine lv_bipush (v := (nI 126)) hE.x hE.b dX9_read_107 rfl ?_
                refine z_ge (tgt := 130) (X := ((k : Nat) : Int)) (Y := (126 : Int)) hE dX9_read_109 (by decide) (nI_toInt (n := k) (by omega)) rfl (fun c_20 => ?_) (fun c_20 => ?_)
                · refine lv_iload_n hE.x hE.b dX9_read_130 rfl (lv_at hl 1 rfl) ?_
                  exact z_iret (v := (nI it)) (ws := mW g o a F1 L (updA (updA (updA A 0 f) 6 f6) 7 f7) ++ X) hE hB hr (⟨F1, f, f6, f7, by rw [(hrd.trans (pLp_0 (by omega) (by omega)))]; rfl, rfl, (htk.2.2.2.2.trans hln.symm), by rw [(hrd.trans (pLp_0 (by omega) (by omega)))]; exact funext fun x => (by rw [hf x, show k = 126 by omega]; rfl)⟩) dX9_read_131
                · refine lv_aload_n hE.x hE.b dX9_read_112 rfl (lv_at hl 2 rfl) ?_
                  refine z_get (v := .ref (a 0)) hE hB inX9 0 rfl rfl 0 (by decide) q4_1 (fun _ h9 => h9) rfl dX9_read_113 ?_
                  refine lv_iload_n hE.x hE.b dX9_read_116 rfl (lv_at hl 0 rfl) ?_
                  refine lv_aload_n hE.x hE.b dX9_read_117 rfl (lv_at hl 2 rfl) ?_
                  refine z_get (v := .ref (a 6)) hE hB inX9 0 rfl rfl 21 (by decide) q4_22 (fun _ h9 => h9) rfl dX9_read_118 ?_
                  refine lv_iload_n hE.x hE.b dX9_read_121 rfl (lv_at hl 0 rfl) ?_
                  refine z_iald (k := k) (f := f6) hE hB 7 rfl (by omega) (by decide) dX9_read_122 ?_
                  refine z_iast (k := k) (f := f) (x := (f6 k)) (ws' := mW g o a F1 L (updA (updA (updA A 0 (upd f k (f6 k))) 6 f6) 7 f7) ++ X) hE hB 1 rfl (by omega) (by decide) rfl dX9_read_123 (fun H locs hB => ?_)
                  refine lv_iinc (v := (nI (k + 1))) (lv' := [(2, .int (nI (k + 1))), (1, .int (nI it)), (0, .ref o)]) hE.x hE.b dX9_read_124 hl (k := 0) rfl (nI_add _ _) (by decide) rfl (fun ls hl => ?_)
                  refine lv_goto (tgt := 106) hE.x hE.b dX9_read_127 (by decide) ?_
                  exact ih106 (k + 1) (upd f k (f6 k)) _ _ _ (by omega) (by omega) (fun x => by simp only [upd]; rw [hf x]; (repeat' split) <;> first | rfl | omega | (congr 1; omega)) hB hl
            exact k106 (126 - 0 + 1) 0 (A 0) _ _ _ (Nat.lt_succ_self _) (by omega) (fun x => by rw [if_neg (by omega)]) hB hl
          · have hqn : q < ln := by have h0 := kd_0 (b := A 5) (ln := ln) (q := q); omega
            refine lv_aload_n hE.x hE.b dX9_read_71 rfl (lv_at hl 1 rfl) ?_
            refine z_qi hB (z_cV hE hB (c_X9_readsItem l g o a F1 L (updA (updA A 6 f6) 7 f7) X ln q T C htk hql (by omega) hby hpk) q5_91 kX9_readsItem ⟨rfl, rfl⟩ ⟨Nat.le_of_ble_eq_true rfl, Nat.le_of_ble_eq_true rfl⟩ 0 rfl rfl rfl hl.1 rfl (Nat.le_of_ble_eq_true rfl) dX9_read_72 ⟨Nat.le_of_ble_eq_true rfl, Nat.le_of_ble_eq_true rfl⟩) (fun r_21 w_22 H locs hw hB => ?_)
            obtain ⟨F1_23, f6_24, f7_25, hr9, hw9, hf_26, hf_27⟩ := hw
            have hr9 := hr9.symm
            subst hr9
            have hw9 := hw9.symm
            subst hw9
            have hf_26 : tkS F1_23 (A 5) ln (xq (pIt (A 5) ln (f6) T C q)) := hf_26
            have hf_27 : f6_24 = xN (pIt (A 5) ln (f6) T C q) (f6) := hf_27
            have hqi := pIt_q (b := A 5) (N := f6) (T := T) (C := C) hql
            refine z_bf (b := (xr (pIt (A 5) ln (f6) T C q))) (tgt := 86) hE dX9_read_75 (by decide) (fun c_28 => ?_) (fun c_28 => ?_)
            · refine lv_bipush (v := (-10)) hE.x hE.b dX9_read_86 rfl ?_
              refine lv_aload_n hE.x hE.b dX9_read_88 rfl (lv_at hl 1 rfl) ?_
              refine z_get (v := .int (F1_23 17)) hE hB inX9 0 rfl rfl 17 (by decide) q4_18 (fun _ h9 => h9) rfl dX9_read_89 ?_
              refine z_top (y := (nI (xq (pIt (A 5) ln f6 T C q)))) hf_26.1 ?_
              refine lv_isub hE.x hE.b dX9_read_92 ?_
              exact z_iret (v := ((-10) - (nI (xq (pIt (A 5) ln f6 T C q))))) (ws := mW g o a F1_23 L (updA (updA A 6 f6_24) 7 f7_25) ++ X) hE hB hr (⟨F1_23, (A 0), f6_24, f7_25, by rw [(hrd.trans (pLp_e (by omega) (by omega) (fun z => by rw [c_28] at z; cases z.1)))]; rfl, rfl, (hf_26.2.2.2.2.trans hln.symm), by rw [(hrd.trans (pLp_e (by omega) (by omega) (fun z => by rw [c_28] at z; cases z.1)))]; rfl⟩) dX9_read_93
            · refine lv_aload_n hE.x hE.b dX9_read_78 rfl (lv_at hl 1 rfl) ?_
              refine z_get (v := .int (F1_23 19)) hE hB inX9 0 rfl rfl 19 (by decide) q4_20 (fun _ h9 => h9) rfl dX9_read_79 ?_
              refine z_top (y := (nI (kd (A 5) ln (xq (pIt (A 5) ln f6 T C q))))) hf_26.2.2.1 ?_
              have hk5 := kd_le (b := A 5) (ln := ln) (q := xq (pIt (A 5) ln f6 T C q))
              refine lv_iconst (v := nI 3) hE.x hE.b dX9_read_82 rfl ?_
              refine z_eq (tgt := 94) (X := (((kd (A 5) ln (xq (pIt (A 5) ln f6 T C q))) : Nat) : Int)) (Y := (3 : Int)) hE dX9_read_83 (by decide) (nI_toInt (n := (kd (A 5) ln (xq (pIt (A 5) ln f6 T C q)))) (by omega)) rfl (fun c_29 => ?_) (fun c_29 => ?_)
              · have hqx : xq (pIt (A 5) ln f6 T C q) < ln := by have h0 := kd_0 (b := A 5) (ln := ln) (q := xq (pIt (A 5) ln f6 T C q)); omega
                refine lv_aload_n hE.x hE.b dX9_read_94 rfl (lv_at hl 1 rfl) ?_
                refine z_qv hB (z_cV hE hB (c_X9_goOn l g o a F1_23 L (updA (updA A 6 f6_24) 7 f7_25) X ln (xq (pIt (A 5) ln f6 T C q)) hf_26 hqi.2 (by omega) hby) q5_87 kX9_goOn ⟨rfl, rfl⟩ ⟨Nat.le_of_ble_eq_true rfl, Nat.le_of_ble_eq_true rfl⟩ 0 rfl rfl rfl hl.1 rfl (Nat.le_of_ble_eq_true rfl) dX9_read_95 ⟨Nat.le_of_ble_eq_true rfl, Nat.le_of_ble_eq_true rfl⟩) (fun w_31 H locs hw hB => ?_)
                obtain ⟨F1_32, hw9, hf_33⟩ := hw
                have hw9 := hw9.symm
                subst hw9
                have hf_33 : tkS F1_32 (A 5) ln (nx (A 5) ln (xq (pIt (A 5) ln f6 T C q))) := hf_33
                refine lv_iinc (v := (nI (it + 1))) (lv' := [(1, .int (nI (it + 1))), (0, .ref o)]) hE.x hE.b dX9_read_98 hl (k := 0) rfl (nI_add _ _) (by decide) rfl (fun ls hl => ?_)
                refine lv_goto (tgt := 64) hE.x hE.b dX9_read_101 (by decide) ?_
                exact ih64 (it + 1) (nx (A 5) ln (xq (pIt (A 5) ln f6 T C q))) (fz - 1) (xT (pIt (A 5) ln f6 T C q)) (xC (pIt (A 5) ln f6 T C q)) f6_24 f7_25 F1_32 _ _ _ (by omega) (nx_in hqi.2) (by have := nx_gt (b := A 5) hqx; omega) hf_33 (by rw [hf_27]; exact pIt_k hpk c_28) (by have := nx_gt (b := A 5) hqx; omega) (by rw [hf_27]; exact hrd.trans (pLp_s (by omega) (by omega) c_28 (by omega))) hB hl
              · refine lv_bipush (v := (-10)) hE.x hE.b dX9_read_86 rfl ?_
                refine lv_aload_n hE.x hE.b dX9_read_88 rfl (lv_at hl 1 rfl) ?_
                refine z_get (v := .int (F1_23 17)) hE hB inX9 0 rfl rfl 17 (by decide) q4_18 (fun _ h9 => h9) rfl dX9_read_89 ?_
                refine z_top (y := (nI (xq (pIt (A 5) ln f6 T C q)))) hf_26.1 ?_
                refine lv_isub hE.x hE.b dX9_read_92 ?_
                exact z_iret (v := ((-10) - (nI (xq (pIt (A 5) ln f6 T C q))))) (ws := mW g o a F1_23 L (updA (updA A 6 f6_24) 7 f7_25) ++ X) hE hB hr (⟨F1_23, (A 0), f6_24, f7_25, by rw [(hrd.trans (pLp_e (by omega) (by omega) (fun z => by omega)))]; rfl, rfl, (hf_26.2.2.2.2.trans hln.symm), by rw [(hrd.trans (pLp_e (by omega) (by omega) (fun z => by omega)))]; rfl⟩) dX9_read_93
      exact k64 (151 + 1) 1 (nx (A 5) ln (nx (A 5) ln (sk (A 5) ln 0))) 151 0 0 (clr (A 6)) (A 7) F1_15 _ _ _ (Nat.lt_succ_self _) (nx_in (b := A 5) (nx_in (b := A 5) (sk_in (Nat.zero_le ln)))) (by omega) hf_16 ⟨rfl, Nat.zero_le _, rfl, Nat.zero_le _⟩ (by omega) (by unfold pRead; rw [if_pos (show wdQ (A 5) ln (sk (A 5) ln 0) 4 wLand = true from c_7), if_pos (by omega)]) hB hl
    · refine lv_bipush (v := (-10)) hE.x hE.b dX9_read_43 rfl ?_
      refine lv_aload_n hE.x hE.b dX9_read_45 rfl (lv_at hl 0 rfl) ?_
      refine z_get (v := .int (F1_10 17)) hE hB inX9 0 rfl rfl 17 (by decide) q4_18 (fun _ h9 => h9) rfl dX9_read_46 ?_
      refine z_top (y := (nI (nx (A 5) ln (sk (A 5) ln 0)))) hf_11.1 ?_
      have hq9 := nx_in (b := A 5) (sk_in (b := A 5) (Nat.zero_le ln))
      refine lv_isub hE.x hE.b dX9_read_49 ?_
      exact z_iret (v := ((-10) - (nI (nx (A 5) ln (sk (A 5) ln 0))))) (ws := mW g o a F1_10 L A ++ X) hE hB hr (⟨F1_10, (A 0), (A 6), (A 7), by rw [(show (pRead (A 5) ln (clr (A 6))) = .inl (nx (A 5) ln (sk (A 5) ln 0)) from by unfold pRead; rw [if_pos (show wdQ (A 5) ln (sk (A 5) ln 0) 4 wLand = true from c_7), if_neg (by omega)])]; rfl, rfl, (hf_11.2.2.2.2.trans hln.symm), by rw [(show (pRead (A 5) ln (clr (A 6))) = .inl (nx (A 5) ln (sk (A 5) ln 0)) from by unfold pRead; rw [if_pos (show wdQ (A 5) ln (sk (A 5) ln 0) 4 wLand = true from c_7), if_neg (by omega)])]; rfl⟩) dX9_read_50
  · refine lv_bipush (v := (-10)) hE.x hE.b dX9_read_23 rfl ?_
    refine lv_aload_n hE.x hE.b dX9_read_25 rfl (lv_at hl 0 rfl) ?_
    refine z_get (v := .int (F1_3 17)) hE hB inX9 0 rfl rfl 17 (by decide) q4_18 (fun _ h9 => h9) rfl dX9_read_26 ?_
    refine z_top (y := (nI (sk (A 5) ln 0))) hf_4.1 ?_
    have hq9 := sk_in (b := A 5) (Nat.zero_le ln)
    refine lv_isub hE.x hE.b dX9_read_29 ?_
    exact z_iret (v := ((-10) - (nI (sk (A 5) ln 0)))) (ws := mW g o a F1_3 L A ++ X) hE hB hr (⟨F1_3, (A 0), (A 6), (A 7), by rw [(show (pRead (A 5) ln (clr (A 6))) = .inl (sk (A 5) ln 0) from by unfold pRead; rw [if_neg (by have h9 : wdQ (A 5) ln (sk (A 5) ln 0) 4 wLand = false := c_7; rw [h9]; decide)])]; rfl, rfl, (hf_4.2.2.2.2.trans hln.symm), by rw [(show (pRead (A 5) ln (clr (A 6))) = .inl (sk (A 5) ln 0) from by unfold pRead; rw [if_neg (by have h9 : wdQ (A 5) ln (sk (A 5) ln 0) 4 wLand = false := c_7; rw [h9]; decide)])]; rfl⟩) dX9_read_30
