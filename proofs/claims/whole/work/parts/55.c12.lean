theorem dX8_bad_0 : decode cX8_bad 0 = .ok (.aload_n 0, 1) := by decide +kernel
theorem dX8_bad_1 : decode cX8_bad 1 = .ok (.dup, 1) := by decide +kernel
theorem dX8_bad_2 : decode cX8_bad 2 = .ok (.getfield 37, 3) := by decide +kernel
theorem dX8_bad_5 : decode cX8_bad 5 = .ok (.iconst 1, 1) := by decide +kernel
theorem dX8_bad_6 : decode cX8_bad 6 = .ok (.iadd, 1) := by decide +kernel
theorem dX8_bad_7 : decode cX8_bad 7 = .ok (.putfield 37, 3) := by decide +kernel
theorem dX8_bad_10 : decode cX8_bad 10 = .ok (.iload_n 1, 1) := by decide +kernel
theorem dX8_bad_11 : decode cX8_bad 11 = .ok (.ireturn, 1) := by decide +kernel
theorem dX8_no_0 : decode cX8_no 0 = .ok (.aload_n 0, 1) := by decide +kernel
theorem dX8_no_1 : decode cX8_no 1 = .ok (.dup, 1) := by decide +kernel
theorem dX8_no_2 : decode cX8_no 2 = .ok (.getfield 40, 3) := by decide +kernel
theorem dX8_no_5 : decode cX8_no 5 = .ok (.iconst 1, 1) := by decide +kernel
theorem dX8_no_6 : decode cX8_no 6 = .ok (.iadd, 1) := by decide +kernel
theorem dX8_no_7 : decode cX8_no 7 = .ok (.putfield 40, 3) := by decide +kernel
theorem dX8_no_10 : decode cX8_no 10 = .ok (.bipush (-3), 2) := by decide +kernel
theorem dX8_no_12 : decode cX8_no 12 = .ok (.ireturn, 1) := by decide +kernel
theorem dX8_full_0 : decode cX8_full 0 = .ok (.aload_n 0, 1) := by decide +kernel
theorem dX8_full_1 : decode cX8_full 1 = .ok (.dup, 1) := by decide +kernel
theorem dX8_full_2 : decode cX8_full 2 = .ok (.getfield 43, 3) := by decide +kernel
theorem dX8_full_5 : decode cX8_full 5 = .ok (.iconst 1, 1) := by decide +kernel
theorem dX8_full_6 : decode cX8_full 6 = .ok (.iadd, 1) := by decide +kernel
theorem dX8_full_7 : decode cX8_full 7 = .ok (.putfield 43, 3) := by decide +kernel
theorem dX8_full_10 : decode cX8_full 10 = .ok (.bipush (-4), 2) := by decide +kernel
theorem dX8_full_12 : decode cX8_full 12 = .ok (.ireturn, 1) := by decide +kernel
theorem dX8_isAsked_0 : decode cX8_isAsked 0 = .ok (.aload_n 0, 1) := by decide +kernel
theorem dX8_isAsked_1 : decode cX8_isAsked 1 = .ok (.getfield 10, 3) := by decide +kernel
theorem dX8_isAsked_4 : decode cX8_isAsked 4 = .ok (.iload_n 1, 1) := by decide +kernel
theorem dX8_isAsked_5 : decode cX8_isAsked 5 = .ok (.invokevirtual 68, 3) := by decide +kernel
theorem dX8_isAsked_8 : decode cX8_isAsked 8 = .ok (.ifCond .eq 46, 3) := by decide +kernel
theorem dX8_isAsked_11 : decode cX8_isAsked 11 = .ok (.iload_n 2, 1) := by decide +kernel
theorem dX8_isAsked_12 : decode cX8_isAsked 12 = .ok (.iconst 0, 1) := by decide +kernel
theorem dX8_isAsked_13 : decode cX8_isAsked 13 = .ok (.iconst 5, 1) := by decide +kernel
theorem dX8_isAsked_14 : decode cX8_isAsked 14 = .ok (.invokestatic 52, 3) := by decide +kernel
theorem dX8_isAsked_17 : decode cX8_isAsked 17 = .ok (.ifCond .eq 37, 3) := by decide +kernel
theorem dX8_isAsked_20 : decode cX8_isAsked 20 = .ok (.iload_n 3, 1) := by decide +kernel
theorem dX8_isAsked_21 : decode cX8_isAsked 21 = .ok (.iconst 0, 1) := by decide +kernel
theorem dX8_isAsked_22 : decode cX8_isAsked 22 = .ok (.bipush 59, 2) := by decide +kernel
theorem dX8_isAsked_24 : decode cX8_isAsked 24 = .ok (.invokestatic 52, 3) := by decide +kernel
theorem dX8_isAsked_27 : decode cX8_isAsked 27 = .ok (.ifCond .eq 27, 3) := by decide +kernel
theorem dX8_isAsked_30 : decode cX8_isAsked 30 = .ok (.iload 4, 2) := by decide +kernel
theorem dX8_isAsked_32 : decode cX8_isAsked 32 = .ok (.iconst 0, 1) := by decide +kernel
theorem dX8_isAsked_33 : decode cX8_isAsked 33 = .ok (.iconst 1, 1) := by decide +kernel
theorem dX8_isAsked_34 : decode cX8_isAsked 34 = .ok (.invokestatic 52, 3) := by decide +kernel
theorem dX8_isAsked_37 : decode cX8_isAsked 37 = .ok (.ifCond .eq 17, 3) := by decide +kernel
theorem dX8_isAsked_40 : decode cX8_isAsked 40 = .ok (.iload 5, 2) := by decide +kernel
theorem dX8_isAsked_42 : decode cX8_isAsked 42 = .ok (.iconst 0, 1) := by decide +kernel
theorem dX8_isAsked_43 : decode cX8_isAsked 43 = .ok (.iconst 1, 1) := by decide +kernel
theorem dX8_isAsked_44 : decode cX8_isAsked 44 = .ok (.invokestatic 52, 3) := by decide +kernel
theorem dX8_isAsked_47 : decode cX8_isAsked 47 = .ok (.ifCond .eq 7, 3) := by decide +kernel
theorem dX8_isAsked_50 : decode cX8_isAsked 50 = .ok (.iconst 1, 1) := by decide +kernel
theorem dX8_isAsked_51 : decode cX8_isAsked 51 = .ok (.goto 4, 3) := by decide +kernel
theorem dX8_isAsked_54 : decode cX8_isAsked 54 = .ok (.iconst 0, 1) := by decide +kernel
theorem dX8_isAsked_55 : decode cX8_isAsked 55 = .ok (.ireturn, 1) := by decide +kernel
theorem dX8_land_0 : decode cX8_land 0 = .ok (.aload_n 0, 1) := by decide +kernel
theorem dX8_land_1 : decode cX8_land 1 = .ok (.getfield 10, 3) := by decide +kernel
theorem dX8_land_4 : decode cX8_land 4 = .ok (.getfield 46, 3) := by decide +kernel
theorem dX8_land_7 : decode cX8_land 7 = .ok (.istore_n 1, 1) := by decide +kernel
theorem dX8_land_8 : decode cX8_land 8 = .ok (.aload_n 0, 1) := by decide +kernel
theorem dX8_land_9 : decode cX8_land 9 = .ok (.getfield 10, 3) := by decide +kernel
theorem dX8_land_12 : decode cX8_land 12 = .ok (.invokevirtual 49, 3) := by decide +kernel
theorem dX8_land_15 : decode cX8_land 15 = .ok (.iload_n 1, 1) := by decide +kernel
theorem dX8_land_16 : decode cX8_land 16 = .ok (.ireturn, 1) := by decide +kernel
theorem dX8_town_0 : decode cX8_town 0 = .ok (.iload_n 1, 1) := by decide +kernel
theorem dX8_town_1 : decode cX8_town 1 = .ok (.iconst 0, 1) := by decide +kernel
theorem dX8_town_2 : decode cX8_town 2 = .ok (.iconst 3, 1) := by decide +kernel
theorem dX8_town_3 : decode cX8_town 3 = .ok (.invokestatic 52, 3) := by decide +kernel
theorem dX8_town_6 : decode cX8_town 6 = .ok (.ifCond .ne 10, 3) := by decide +kernel
theorem dX8_town_9 : decode cX8_town 9 = .ok (.aload_n 0, 1) := by decide +kernel
theorem dX8_town_10 : decode cX8_town 10 = .ok (.bipush (-2), 2) := by decide +kernel
theorem dX8_town_12 : decode cX8_town 12 = .ok (.invokevirtual 56, 3) := by decide +kernel
theorem dX8_town_15 : decode cX8_town 15 = .ok (.ireturn, 1) := by decide +kernel
theorem dX8_town_16 : decode cX8_town 16 = .ok (.aload_n 0, 1) := by decide +kernel
theorem dX8_town_17 : decode cX8_town 17 = .ok (.getfield 10, 3) := by decide +kernel
theorem dX8_town_20 : decode cX8_town 20 = .ok (.getfield 46, 3) := by decide +kernel
theorem dX8_town_23 : decode cX8_town 23 = .ok (.bipush 6, 2) := by decide +kernel
theorem dX8_town_25 : decode cX8_town 25 = .ok (.if_icmp .lt 8, 3) := by decide +kernel
theorem dX8_town_28 : decode cX8_town 28 = .ok (.aload_n 0, 1) := by decide +kernel
theorem dX8_town_29 : decode cX8_town 29 = .ok (.invokevirtual 60, 3) := by decide +kernel
theorem dX8_town_32 : decode cX8_town 32 = .ok (.ireturn, 1) := by decide +kernel
theorem dX8_town_33 : decode cX8_town 33 = .ok (.aload_n 0, 1) := by decide +kernel
theorem dX8_town_34 : decode cX8_town 34 = .ok (.getfield 10, 3) := by decide +kernel
theorem dX8_town_37 : decode cX8_town 37 = .ok (.iload_n 1, 1) := by decide +kernel
theorem dX8_town_38 : decode cX8_town 38 = .ok (.invokevirtual 64, 3) := by decide +kernel
theorem dX8_town_41 : decode cX8_town 41 = .ok (.aload_n 0, 1) := by decide +kernel
theorem dX8_town_42 : decode cX8_town 42 = .ok (.getfield 10, 3) := by decide +kernel
theorem dX8_town_45 : decode cX8_town 45 = .ok (.getfield 46, 3) := by decide +kernel
theorem dX8_town_48 : decode cX8_town 48 = .ok (.iconst 1, 1) := by decide +kernel
theorem dX8_town_49 : decode cX8_town 49 = .ok (.isub, 1) := by decide +kernel
theorem dX8_town_50 : decode cX8_town 50 = .ok (.ireturn, 1) := by decide +kernel
theorem dX8_road_0 : decode cX8_road 0 = .ok (.aload_n 0, 1) := by decide +kernel
theorem dX8_road_1 : decode cX8_road 1 = .ok (.getfield 10, 3) := by decide +kernel
theorem dX8_road_4 : decode cX8_road 4 = .ok (.iload_n 1, 1) := by decide +kernel
theorem dX8_road_5 : decode cX8_road 5 = .ok (.invokevirtual 68, 3) := by decide +kernel
theorem dX8_road_8 : decode cX8_road 8 = .ok (.ifCond .eq 29, 3) := by decide +kernel
theorem dX8_road_11 : decode cX8_road 11 = .ok (.aload_n 0, 1) := by decide +kernel
theorem dX8_road_12 : decode cX8_road 12 = .ok (.getfield 10, 3) := by decide +kernel
theorem dX8_road_15 : decode cX8_road 15 = .ok (.iload_n 2, 1) := by decide +kernel
theorem dX8_road_16 : decode cX8_road 16 = .ok (.invokevirtual 68, 3) := by decide +kernel
theorem dX8_road_19 : decode cX8_road 19 = .ok (.ifCond .eq 18, 3) := by decide +kernel
theorem dX8_road_22 : decode cX8_road 22 = .ok (.iload_n 1, 1) := by decide +kernel
theorem dX8_road_23 : decode cX8_road 23 = .ok (.iload_n 2, 1) := by decide +kernel
theorem dX8_road_24 : decode cX8_road 24 = .ok (.if_icmp .eq 13, 3) := by decide +kernel
theorem dX8_road_27 : decode cX8_road 27 = .ok (.iload_n 3, 1) := by decide +kernel
theorem dX8_road_28 : decode cX8_road 28 = .ok (.iconst 1, 1) := by decide +kernel
theorem dX8_road_29 : decode cX8_road 29 = .ok (.bipush 9, 2) := by decide +kernel
theorem dX8_road_31 : decode cX8_road 31 = .ok (.invokestatic 52, 3) := by decide +kernel
theorem dX8_road_34 : decode cX8_road 34 = .ok (.ifCond .ne 10, 3) := by decide +kernel
theorem dX8_road_37 : decode cX8_road 37 = .ok (.aload_n 0, 1) := by decide +kernel
theorem dX8_road_38 : decode cX8_road 38 = .ok (.bipush (-2), 2) := by decide +kernel
theorem dX8_road_40 : decode cX8_road 40 = .ok (.invokevirtual 56, 3) := by decide +kernel
theorem dX8_road_43 : decode cX8_road 43 = .ok (.ireturn, 1) := by decide +kernel
theorem dX8_road_44 : decode cX8_road 44 = .ok (.aload_n 0, 1) := by decide +kernel
theorem dX8_road_45 : decode cX8_road 45 = .ok (.getfield 10, 3) := by decide +kernel
theorem dX8_road_48 : decode cX8_road 48 = .ok (.iload_n 1, 1) := by decide +kernel
theorem dX8_road_49 : decode cX8_road 49 = .ok (.iload_n 2, 1) := by decide +kernel
theorem dX8_road_50 : decode cX8_road 50 = .ok (.invokevirtual 72, 3) := by decide +kernel
theorem dX8_road_53 : decode cX8_road 53 = .ok (.istore 4, 2) := by decide +kernel
theorem dX8_road_55 : decode cX8_road 55 = .ok (.aload_n 0, 1) := by decide +kernel
theorem dX8_road_56 : decode cX8_road 56 = .ok (.getfield 10, 3) := by decide +kernel
theorem dX8_road_59 : decode cX8_road 59 = .ok (.iload_n 1, 1) := by decide +kernel
theorem dX8_road_60 : decode cX8_road 60 = .ok (.iload_n 2, 1) := by decide +kernel
theorem dX8_road_61 : decode cX8_road 61 = .ok (.iload_n 3, 1) := by decide +kernel
theorem dX8_road_62 : decode cX8_road 62 = .ok (.invokevirtual 76, 3) := by decide +kernel
theorem dX8_road_65 : decode cX8_road 65 = .ok (.iload 4, 2) := by decide +kernel
theorem dX8_road_67 : decode cX8_road 67 = .ok (.ireturn, 1) := by decide +kernel
theorem kX8_bad : zCV yX8_bad RX8 cX8_bad 2 (some .int) 1 := ⟨q1_128, qp0, q1_1, q1_129, rfl, by decide +kernel, by decide +kernel, by decide +kernel⟩
theorem kX8_no : zCV yX8_no RX8 cX8_no 1 (some .int) 0 := ⟨q2_47, qp2, q1_1, q2_48, rfl, by decide +kernel, by decide +kernel, by decide +kernel⟩
theorem kX8_full : zCV yX8_full RX8 cX8_full 1 (some .int) 0 := ⟨q1_132, qp1, q1_1, q1_133, rfl, by decide +kernel, by decide +kernel, by decide +kernel⟩
theorem kX8_isAsked : zCV yX8_isAsked RX8 cX8_isAsked 6 (some .boolean) 5 := ⟨q3_4, qp12, q1_1, q3_5, rfl, by decide +kernel, by decide +kernel, by decide +kernel⟩
theorem kX8_land : zCV yX8_land RX8 cX8_land 2 (some .int) 0 := ⟨q1_112, q1_113, q1_1, q1_114, rfl, by decide +kernel, by decide +kernel, by decide +kernel⟩
theorem kX8_town : zCV yX8_town RX8 cX8_town 2 (some .int) 1 := ⟨q1_120, q1_121, q1_1, q1_122, rfl, by decide +kernel, by decide +kernel, by decide +kernel⟩
theorem kX8_road : zCV yX8_road RX8 cX8_road 5 (some .int) 3 := ⟨q1_139, q1_140, q1_1, q1_141, rfl, by decide +kernel, by decide +kernel, by decide +kernel⟩
set_option maxHeartbeats 4000000 in
set_option maxRecDepth 100000 in
theorem c_X8_bad (l : Launch) (g : zG) (x9 : Nat) (d : Nat) (rr : Nat) (im : Nat) (tx : Nat) (lx : Int32) (ab : Int32) (be : Int32) (bd : Int32) (no : Int32) (fl : Int32) (tb : Nat → Int32) (ib : Nat → Option Nat) (t : Int32) (X : va_W)  : Met l yX8_bad (Cond.code yX8_bad cX8_bad 2 (some .int) :: TBL) { frames := 0, cells := 0, slots := 0, locals := 0 } (zPc [.ref x9, .int t] g (xW g x9 d rr im tx lx ab be bd no fl tb ib ++ X)) (zQi g (fun r ws => r = t ∧ ws = xW g x9 d rr im tx lx ab be (bd + nI 1) no fl tb ib ++ X)) 0 0 (zA (gz g)) := by
  refine z_start (by decide +kernel) rfl (Nat.le_of_ble_eq_true rfl) ?_
  intro p e s m args below meth c ls hE hr hnm hB hl
  have hl : lv_has ls 2 [(0, .ref x9), (1, .int t)] := hl
  revert hB
  generalize s.heap = H
  generalize ([] : List Loc) = locs
  intro hB
  refine lv_aload_n hE.x hE.b dX8_bad_0 rfl (lv_at hl 0 rfl) ?_
  refine lv_dup hE.x hE.b dX8_bad_1 rfl ?_
  refine z_get (v := .int bd) hE hB inX8 0 rfl rfl 7 (by decide) q1_86 (fun _ h9 => h9) rfl dX8_bad_2 ?_
  refine lv_iconst (v := nI 1) hE.x hE.b dX8_bad_5 rfl ?_
  refine lv_iadd hE.x hE.b dX8_bad_6 ?_
  refine z_put (v := .int (bd + (nI 1))) (ty := .int) (ws' := xW g x9 d rr im tx lx ab be (bd + (nI 1)) no fl tb ib ++ X) hE hB inX8 tyX8 tyX8_ok nmX8 0 rfl rfl 7 (by decide) q1_86 (fun _ h9 => h9) rfl (by decide +kernel) rfl rfl (Nat.le_of_ble_eq_true rfl) rfl dX8_bad_7 (fun H locs hB => ?_)
  refine lv_iload_n hE.x hE.b dX8_bad_10 rfl (lv_at hl 1 rfl) ?_
  exact z_iret (v := t) (ws := xW g x9 d rr im tx lx ab be (bd + (nI 1)) no fl tb ib ++ X) hE hB hr (⟨rfl, rfl⟩) dX8_bad_11

set_option maxHeartbeats 4000000 in
set_option maxRecDepth 100000 in
theorem c_X8_no (l : Launch) (g : zG) (x9 : Nat) (d : Nat) (rr : Nat) (im : Nat) (tx : Nat) (lx : Int32) (ab : Int32) (be : Int32) (bd : Int32) (no : Int32) (fl : Int32) (tb : Nat → Int32) (ib : Nat → Option Nat) (X : va_W)  : Met l yX8_no (Cond.code yX8_no cX8_no 1 (some .int) :: TBL) { frames := 0, cells := 0, slots := 0, locals := 0 } (zPc [.ref x9] g (xW g x9 d rr im tx lx ab be bd no fl tb ib ++ X)) (zQi g (fun r ws => r = (-3) ∧ ws = xW g x9 d rr im tx lx ab be bd (no + nI 1) fl tb ib ++ X)) 0 0 (zA (gz g)) := by
  refine z_start (by decide +kernel) rfl (Nat.le_of_ble_eq_true rfl) ?_
  intro p e s m args below meth c ls hE hr hnm hB hl
  have hl : lv_has ls 1 [(0, .ref x9)] := hl
  revert hB
  generalize s.heap = H
  generalize ([] : List Loc) = locs
  intro hB
  refine lv_aload_n hE.x hE.b dX8_no_0 rfl (lv_at hl 0 rfl) ?_
  refine lv_dup hE.x hE.b dX8_no_1 rfl ?_
  refine z_get (v := .int no) hE hB inX8 0 rfl rfl 8 (by decide) q1_87 (fun _ h9 => h9) rfl dX8_no_2 ?_
  refine lv_iconst (v := nI 1) hE.x hE.b dX8_no_5 rfl ?_
  refine lv_iadd hE.x hE.b dX8_no_6 ?_
  refine z_put (v := .int (no + (nI 1))) (ty := .int) (ws' := xW g x9 d rr im tx lx ab be bd (no + (nI 1)) fl tb ib ++ X) hE hB inX8 tyX8 tyX8_ok nmX8 0 rfl rfl 8 (by decide) q1_87 (fun _ h9 => h9) rfl (by decide +kernel) rfl rfl (Nat.le_of_ble_eq_true rfl) rfl dX8_no_7 (fun H locs hB => ?_)
  refine lv_bipush (v := (-3)) hE.x hE.b dX8_no_10 rfl ?_
  exact z_iret (v := (-3)) (ws := xW g x9 d rr im tx lx ab be bd (no + (nI 1)) fl tb ib ++ X) hE hB hr (⟨rfl, rfl⟩) dX8_no_12

set_option maxHeartbeats 4000000 in
set_option maxRecDepth 100000 in
theorem c_X8_full (l : Launch) (g : zG) (x9 : Nat) (d : Nat) (rr : Nat) (im : Nat) (tx : Nat) (lx : Int32) (ab : Int32) (be : Int32) (bd : Int32) (no : Int32) (fl : Int32) (tb : Nat → Int32) (ib : Nat → Option Nat) (X : va_W)  : Met l yX8_full (Cond.code yX8_full cX8_full 1 (some .int) :: TBL) { frames := 0, cells := 0, slots := 0, locals := 0 } (zPc [.ref x9] g (xW g x9 d rr im tx lx ab be bd no fl tb ib ++ X)) (zQi g (fun r ws => r = (-4) ∧ ws = xW g x9 d rr im tx lx ab be bd no (fl + nI 1) tb ib ++ X)) 0 0 (zA (gz g)) := by
  refine z_start (by decide +kernel) rfl (Nat.le_of_ble_eq_true rfl) ?_
  intro p e s m args below meth c ls hE hr hnm hB hl
  have hl : lv_has ls 1 [(0, .ref x9)] := hl
  revert hB
  generalize s.heap = H
  generalize ([] : List Loc) = locs
  intro hB
  refine lv_aload_n hE.x hE.b dX8_full_0 rfl (lv_at hl 0 rfl) ?_
  refine lv_dup hE.x hE.b dX8_full_1 rfl ?_
  refine z_get (v := .int fl) hE hB inX8 0 rfl rfl 9 (by decide) q1_88 (fun _ h9 => h9) rfl dX8_full_2 ?_
  refine lv_iconst (v := nI 1) hE.x hE.b dX8_full_5 rfl ?_
  refine lv_iadd hE.x hE.b dX8_full_6 ?_
  refine z_put (v := .int (fl + (nI 1))) (ty := .int) (ws' := xW g x9 d rr im tx lx ab be bd no (fl + (nI 1)) tb ib ++ X) hE hB inX8 tyX8 tyX8_ok nmX8 0 rfl rfl 9 (by decide) q1_88 (fun _ h9 => h9) rfl (by decide +kernel) rfl rfl (Nat.le_of_ble_eq_true rfl) rfl dX8_full_7 (fun H locs hB => ?_)
  refine lv_bipush (v := (-4)) hE.x hE.b dX8_full_10 rfl ?_
  exact z_iret (v := (-4)) (ws := xW g x9 d rr im tx lx ab be bd no (fl + (nI 1)) tb ib ++ X) hE hB hr (⟨rfl, rfl⟩) dX8_full_12

set_option maxHeartbeats 4000000 in
set_option maxRecDepth 100000 in
theorem c_X8_isAsked (l : Launch) (g : zG) (x9 : Nat) (d : Nat) (rr : Nat) (im : Nat) (tx : Nat) (lx : Int32) (ab : Int32) (be : Int32) (bd : Int32) (no : Int32) (fl : Int32) (tb : Nat → Int32) (ib : Nat → Option Nat) (da : Nat → Nat) (T : Nat) (C : Nat) (U : Nat) (V : Nat) (rd : Nat → Int32) (ro : Nat → Int32) (lw : Nat → Option Nat) (pl : Nat → Option Nat) (pc : Nat → Int32) (gv : Nat → Int32) (aw : Nat → Int32) (nt : Nat → Int32) (tw : Int32) (ac : Int32) (dd : Int32) (dy : Int32) (sh : Int32) (X : va_W) (hTb : T < 2147483648) : Met l yX8_isAsked (Cond.code yX8_isAsked cX8_isAsked 6 (some .boolean) :: TBL) { frames := 1, cells := 0, slots := 0, locals := 22 } (zPc [.ref x9, .int tw, .int ac, .int dd, .int dy, .int sh] g (xW g x9 d rr im tx lx ab be bd no fl tb ib ++ (lW g d da (nI T) (nI C) (nI U) (nI V) rd ro lw pl pc gv aw nt ++ X))) (zQi g (fun r ws => r = bI (askOK T tw ac dd dy sh) ∧ ws = xW g x9 d rr im tx lx ab be bd no fl tb ib ++ (lW g d da (nI T) (nI C) (nI U) (nI V) rd ro lw pl pc gv aw nt ++ X))) 0 0 (zA (gz g)) := by
  refine z_start (by decide +kernel) rfl (Nat.le_of_ble_eq_true rfl) ?_
  intro p e s m args below meth c ls hE hr hnm hB hl
  have hl : lv_has ls 6 [(0, .ref x9), (1, .int tw), (2, .int ac), (3, .int dd), (4, .int dy), (5, .int sh)] := hl
  revert hB
  generalize s.heap = H
  generalize ([] : List Loc) = locs
  intro hB
  refine lv_aload_n hE.x hE.b dX8_isAsked_0 rfl (lv_at hl 0 rfl) ?_
  refine z_get (v := .ref d) hE hB inX8 0 rfl rfl 0 (by decide) q1_79 (fun _ h9 => h9) rfl dX8_isAsked_1 ?_
  refine lv_iload_n hE.x hE.b dX8_isAsked_4 rfl (lv_at hl 1 rfl) ?_
  have hB := zB_perm hB (List.perm_append_comm_assoc _ _ _)
  refine z_qi hB (z_cV hE hB (c_X4_hasTown l g d da T C U V rd ro lw pl pc gv aw nt tw (xW g x9 d rr im tx lx ab be bd no fl tb ib ++ X) (by omega)) q1_142 kX4_hasTown ⟨rfl, rfl⟩ ⟨Nat.le_of_ble_eq_true rfl, Nat.le_of_ble_eq_true rfl⟩ 0 rfl rfl rfl hl.1 rfl (Nat.le_of_ble_eq_true rfl) dX8_isAsked_5 ⟨Nat.le_of_ble_eq_true rfl, Nat.le_of_ble_eq_true rfl⟩) (fun r_1 w_2 H locs hw hB => ?_)
  obtain ⟨hr9, hw9⟩ := hw
  have hr9 := hr9.symm
  subst hr9
  have hw9 := hw9.symm
  subst hw9
  refine z_bf (b := (pTown T tw)) (tgt := 54) hE dX8_isAsked_8 (by decide) (fun c_3 => ?_) (fun c_3 => ?_)
  · refine lv_iconst (v := nI 0) hE.x hE.b dX8_isAsked_54 rfl ?_
    have hB := zB_perm hB (List.perm_append_comm_assoc _ _ _)
    exact z_bret (b := false) (ws := xW g x9 d rr im tx lx ab be bd no fl tb ib ++ (lW g d da (nI T) (nI C) (nI U) (nI V) rd ro lw pl pc gv aw nt ++ X)) hE hB hr (⟨congrArg bI (by unfold askOK pIn; simp [c_3]), rfl⟩) dX8_isAsked_55
  · refine lv_iload_n hE.x hE.b dX8_isAsked_11 rfl (lv_at hl 2 rfl) ?_
    refine lv_iconst (v := nI 0) hE.x hE.b dX8_isAsked_12 rfl ?_
    refine lv_iconst (v := nI 5) hE.x hE.b dX8_isAsked_13 rfl ?_
    refine z_qi hB (z_cS hE hB (c_X8_within l g ac (nI 0) (nI 5) ac.toInt (0 : Int) (5 : Int) (lW g d da (nI T) (nI C) (nI U) (nI V) rd ro lw pl pc gv aw nt ++ (xW g x9 d rr im tx lx ab be bd no fl tb ib ++ X)) rfl rfl rfl) q1_123 kX8_within ⟨rfl, rfl⟩ ⟨Nat.le_of_ble_eq_true rfl, Nat.le_of_ble_eq_true rfl⟩ rfl hl.1 rfl (Nat.le_of_ble_eq_true rfl) dX8_isAsked_14 ⟨Nat.le_of_ble_eq_true rfl, Nat.le_of_ble_eq_true rfl⟩) (fun r_4 w_5 H locs hw hB => ?_)
    obtain ⟨hr9, hw9⟩ := hw
    have hr9 := hr9.symm
    subst hr9
    have hw9 := hw9.symm
    subst hw9
    refine z_bf (b := (inZ (0 : Int) (5 : Int) ac.toInt)) (tgt := 54) hE dX8_isAsked_17 (by decide) (fun c_6 => ?_) (fun c_6 => ?_)
    · refine lv_iconst (v := nI 0) hE.x hE.b dX8_isAsked_54 rfl ?_
      have hB := zB_perm hB (List.perm_append_comm_assoc _ _ _)
      exact z_bret (b := false) (ws := xW g x9 d rr im tx lx ab be bd no fl tb ib ++ (lW g d da (nI T) (nI C) (nI U) (nI V) rd ro lw pl pc gv aw nt ++ X)) hE hB hr (⟨congrArg bI (by unfold askOK pIn; simp [c_3, c_6]), rfl⟩) dX8_isAsked_55
    · refine lv_iload_n hE.x hE.b dX8_isAsked_20 rfl (lv_at hl 3 rfl) ?_
      refine lv_iconst (v := nI 0) hE.x hE.b dX8_isAsked_21 rfl ?_
      refine lv_bipush (v := (nI 59)) hE.x hE.b dX8_isAsked_22 rfl ?_
      refine z_qi hB (z_cS hE hB (c_X8_within l g dd (nI 0) (nI 59) dd.toInt (0 : Int) (59 : Int) (lW g d da (nI T) (nI C) (nI U) (nI V) rd ro lw pl pc gv aw nt ++ (xW g x9 d rr im tx lx ab be bd no fl tb ib ++ X)) rfl rfl rfl) q1_123 kX8_within ⟨rfl, rfl⟩ ⟨Nat.le_of_ble_eq_true rfl, Nat.le_of_ble_eq_true rfl⟩ rfl hl.1 rfl (Nat.le_of_ble_eq_true rfl) dX8_isAsked_24 ⟨Nat.le_of_ble_eq_true rfl, Nat.le_of_ble_eq_true rfl⟩) (fun r_7 w_8 H locs hw hB => ?_)
      obtain ⟨hr9, hw9⟩ := hw
      have hr9 := hr9.symm
      subst hr9
      have hw9 := hw9.symm
      subst hw9
      refine z_bf (b := (inZ (0 : Int) (59 : Int) dd.toInt)) (tgt := 54) hE dX8_isAsked_27 (by decide) (fun c_9 => ?_) (fun c_9 => ?_)
      · refine lv_iconst (v := nI 0) hE.x hE.b dX8_isAsked_54 rfl ?_
        have hB := zB_perm hB (List.perm_append_comm_assoc _ _ _)
        exact z_bret (b := false) (ws := xW g x9 d rr im tx lx ab be bd no fl tb ib ++ (lW g d da (nI T) (nI C) (nI U) (nI V) rd ro lw pl pc gv aw nt ++ X)) hE hB hr (⟨congrArg bI (by unfold askOK pIn; simp [c_3, c_6, c_9]), rfl⟩) dX8_isAsked_55
      · refine lv_iload hE.x hE.b dX8_isAsked_30 (lv_at hl 4 rfl) ?_
        refine lv_iconst (v := nI 0) hE.x hE.b dX8_isAsked_32 rfl ?_
        refine lv_iconst (v := nI 1) hE.x hE.b dX8_isAsked_33 rfl ?_
        refine z_qi hB (z_cS hE hB (c_X8_within l g dy (nI 0) (nI 1) dy.toInt (0 : Int) (1 : Int) (lW g d da (nI T) (nI C) (nI U) (nI V) rd ro lw pl pc gv aw nt ++ (xW g x9 d rr im tx lx ab be bd no fl tb ib ++ X)) rfl rfl rfl) q1_123 kX8_within ⟨rfl, rfl⟩ ⟨Nat.le_of_ble_eq_true rfl, Nat.le_of_ble_eq_true rfl⟩ rfl hl.1 rfl (Nat.le_of_ble_eq_true rfl) dX8_isAsked_34 ⟨Nat.le_of_ble_eq_true rfl, Nat.le_of_ble_eq_true rfl⟩) (fun r_10 w_11 H locs hw hB => ?_)
        obtain ⟨hr9, hw9⟩ := hw
        have hr9 := hr9.symm
        subst hr9
        have hw9 := hw9.symm
        subst hw9
        refine z_bf (b := (inZ (0 : Int) (1 : Int) dy.toInt)) (tgt := 54) hE dX8_isAsked_37 (by decide) (fun c_12 => ?_) (fun c_12 => ?_)
        · refine lv_iconst (v := nI 0) hE.x hE.b dX8_isAsked_54 rfl ?_
          have hB := zB_perm hB (List.perm_append_comm_assoc _ _ _)
          exact z_bret (b := false) (ws := xW g x9 d rr im tx lx ab be bd no fl tb ib ++ (lW g d da (nI T) (nI C) (nI U) (nI V) rd ro lw pl pc gv aw nt ++ X)) hE hB hr (⟨congrArg bI (by unfold askOK pIn; simp [c_3, c_6, c_9, c_12]), rfl⟩) dX8_isAsked_55
        · refine lv_iload hE.x hE.b dX8_isAsked_40 (lv_at hl 5 rfl) ?_
          refine lv_iconst (v := nI 0) hE.x hE.b dX8_isAsked_42 rfl ?_
          refine lv_iconst (v := nI 1) hE.x hE.b dX8_isAsked_43 rfl ?_
          refine z_qi hB (z_cS hE hB (c_X8_within l g sh (nI 0) (nI 1) sh.toInt (0 : Int) (1 : Int) (lW g d da (nI T) (nI C) (nI U) (nI V) rd ro lw pl pc gv aw nt ++ (xW g x9 d rr im tx lx ab be bd no fl tb ib ++ X)) rfl rfl rfl) q1_123 kX8_within ⟨rfl, rfl⟩ ⟨Nat.le_of_ble_eq_true rfl, Nat.le_of_ble_eq_true rfl⟩ rfl hl.1 rfl (Nat.le_of_ble_eq_true rfl) dX8_isAsked_44 ⟨Nat.le_of_ble_eq_true rfl, Nat.le_of_ble_eq_true rfl⟩) (fun r_13 w_14 H locs hw hB => ?_)
          obtain ⟨hr9, hw9⟩ := hw
          have hr9 := hr9.symm
          subst hr9
          have hw9 := hw9.symm
          subst hw9
          refine z_bf (b := (inZ (0 : Int) (1 : Int) sh.toInt)) (tgt := 54) hE dX8_isAsked_47 (by decide) (fun c_15 => ?_) (fun c_15 => ?_)
          · refine lv_iconst (v := nI 0) hE.x hE.b dX8_isAsked_54 rfl ?_
            have hB := zB_perm hB (List.perm_append_comm_assoc _ _ _)
            exact z_bret (b := false) (ws := xW g x9 d rr im tx lx ab be bd no fl tb ib ++ (lW g d da (nI T) (nI C) (nI U) (nI V) rd ro lw pl pc gv aw nt ++ X)) hE hB hr (⟨congrArg bI (by unfold askOK pIn; simp [c_3, c_6, c_9, c_12, c_15]), rfl⟩) dX8_isAsked_55
          · refine lv_iconst (v := nI 1) hE.x hE.b dX8_isAsked_50 rfl ?_
            refine lv_goto (tgt := 55) hE.x hE.b dX8_isAsked_51 (by decide) ?_
            have hB := zB_perm hB (List.perm_append_comm_assoc _ _ _)
            exact z_bret (b := true) (ws := xW g x9 d rr im tx lx ab be bd no fl tb ib ++ (lW g d da (nI T) (nI C) (nI U) (nI V) rd ro lw pl pc gv aw nt ++ X)) hE hB hr (⟨congrArg bI (by unfold askOK pIn; simp [c_3, c_6, c_9, c_12, c_15]), rfl⟩) dX8_isAsked_55

set_option maxHeartbeats 4000000 in
set_option maxRecDepth 100000 in
theorem c_X8_land (l : Launch) (g : zG) (x9 : Nat) (d : Nat) (rr : Nat) (im : Nat) (tx : Nat) (ab : Int32) (be : Int32) (tb : Nat → Int32) (ib : Nat → Option Nat) (da : Nat → Nat) (T : Nat) (C : Nat) (U : Nat) (V : Nat) (rd : Nat → Int32) (ro : Nat → Int32) (lw : Nat → Option Nat) (pl : Nat → Option Nat) (pc : Nat → Int32) (gv : Nat → Int32) (aw : Nat → Int32) (nt : Nat → Int32) (A : Nat → Nat → Int32) (ln : Nat) (Y : va_W) (X : va_W) (hn : nOK (A 0) T C V U) (hrel : relL (A 0) T C U V rd ro lw pl pc gv Y) : Met l yX8_land (Cond.code yX8_land cX8_land 2 (some .int) :: TBL) { frames := 1, cells := 0, slots := 0, locals := 21 } (zPc [.ref x9] g (xW g x9 d rr im tx (nI ln) ab be (A 3 0) (A 3 1) (A 3 2) tb ib ++ (lW g d da (nI T) (nI C) (nI U) (nI V) rd ro lw pl pc gv aw nt ++ (Y ++ X)))) (zQi g (fun r ws => r = (nI T) ∧ lS g x9 d da rr im tx (updA A 0 (clr (A 0))) ln ab be tb ib Y X ws)) 0 0 (zA (gz g)) := by
  refine z_start (by decide +kernel) rfl (Nat.le_of_ble_eq_true rfl) ?_
  intro p e s m args below meth c ls hE hr hnm hB hl
  have hl : lv_has ls 2 [(0, .ref x9)] := hl
  revert hB
  generalize s.heap = H
  generalize ([] : List Loc) = locs
  intro hB
  have hT6 := hn.T6
  have hC8 := hn.C8
  have hV8 := hn.V8
  have hU8 := hn.U8
  refine lv_aload_n hE.x hE.b dX8_land_0 rfl (lv_at hl 0 rfl) ?_
  refine z_get (v := .ref d) hE hB inX8 0 rfl rfl 0 (by decide) q1_79 (fun _ h9 => h9) rfl dX8_land_1 ?_
  refine z_get (v := .int (nI T)) hE hB inX4 3 rfl rfl 0 (by decide) q1_34 (fun _ h9 => h9) rfl dX8_land_4 ?_
  refine lv_istore_n (lv' := [(1, .int (nI T)), (0, .ref x9)]) hE.x hE.b dX8_land_7 rfl hl (by decide) rfl (fun ls hl => ?_)
  refine lv_aload_n hE.x hE.b dX8_land_8 rfl (lv_at hl 1 rfl) ?_
  refine z_get (v := .ref d) hE hB inX8 0 rfl rfl 0 (by decide) q1_79 (fun _ h9 => h9) rfl dX8_land_9 ?_
  have hB := zB_perm hB (List.perm_append_comm_assoc _ _ _)
  refine z_qv hB (z_cV hE hB (c_X4_empty l g d da T C U V rd ro lw pl pc gv aw nt (xW g x9 d rr im tx (nI ln) ab be (A 3 0) (A 3 1) (A 3 2) tb ib ++ (Y ++ X))) q1_115 kX4_empty ⟨rfl, rfl⟩ ⟨Nat.le_of_ble_eq_true rfl, Nat.le_of_ble_eq_true rfl⟩ 0 rfl rfl rfl hl.1 rfl (Nat.le_of_ble_eq_true rfl) dX8_land_12 ⟨Nat.le_of_ble_eq_true rfl, Nat.le_of_ble_eq_true rfl⟩) (fun w_2 H locs hw hB => ?_)
  obtain ⟨f9_3, hw9, hf_4⟩ := hw
  have hw9 := hw9.symm
  subst hw9
  refine lv_iload_n hE.x hE.b dX8_land_15 rfl (lv_at hl 0 rfl) ?_
  have hB := zB_perm hB (List.perm_append_comm_assoc _ _ _)
  exact z_iret (v := (nI T)) (ws := xW g x9 d rr im tx (nI ln) ab be (A 3 0) (A 3 1) (A 3 2) tb ib ++ (lW g d da (nI 0) (nI 0) (nI 0) (nI 0) rd f9_3 lw pl pc gv aw nt ++ (Y ++ X))) hE hB hr (⟨rfl, lS_i (A1 := updA A 0 (clr (A 0))) 0 0 0 0 rd f9_3 lw pl pc gv aw nt Y rfl rfl nOK_clr (relL_empty hrel hf_4) (fun _ h => h)⟩) dX8_land_16

set_option maxHeartbeats 4000000 in
set_option maxRecDepth 100000 in
theorem c_X8_town (l : Launch) (g : zG) (x9 : Nat) (d : Nat) (rr : Nat) (im : Nat) (tx : Nat) (ab : Int32) (be : Int32) (tb : Nat → Int32) (ib : Nat → Option Nat) (da : Nat → Nat) (T : Nat) (C : Nat) (U : Nat) (V : Nat) (rd : Nat → Int32) (ro : Nat → Int32) (lw : Nat → Option Nat) (pl : Nat → Option Nat) (pc : Nat → Int32) (gv : Nat → Int32) (aw : Nat → Int32) (nt : Nat → Int32) (A : Nat → Nat → Int32) (ln : Nat) (rg : Int32) (Y : va_W) (X : va_W) (hn : nOK (A 0) T C V U) (hrel : relL (A 0) T C U V rd ro lw pl pc gv Y) : Met l yX8_town (Cond.code yX8_town cX8_town 2 (some .int) :: TBL) { frames := 1, cells := 0, slots := 0, locals := 22 } (zPc [.ref x9, .int rg] g (xW g x9 d rr im tx (nI ln) ab be (A 3 0) (A 3 1) (A 3 2) tb ib ++ (lW g d da (nI T) (nI C) (nI U) (nI V) rd ro lw pl pc gv aw nt ++ (Y ++ X)))) (zQi g (fun r ws => r = (townR T rg) ∧ lS g x9 d da rr im tx (townA A T rg) ln ab be tb ib Y X ws)) 0 0 (zA (gz g)) := by
  refine z_start (by decide +kernel) rfl (Nat.le_of_ble_eq_true rfl) ?_
  intro p e s m args below meth c ls hE hr hnm hB hl
  have hl : lv_has ls 2 [(0, .ref x9), (1, .int rg)] := hl
  revert hB
  generalize s.heap = H
  generalize ([] : List Loc) = locs
  intro hB
  have hT6 := hn.T6
  have hC8 := hn.C8
  have hV8 := hn.V8
  have hU8 := hn.U8
  refine lv_iload_n hE.x hE.b dX8_town_0 rfl (lv_at hl 1 rfl) ?_
  refine lv_iconst (v := nI 0) hE.x hE.b dX8_town_1 rfl ?_
  refine lv_iconst (v := nI 3) hE.x hE.b dX8_town_2 rfl ?_
  refine z_qi hB (z_cS hE hB (c_X8_within l g rg (nI 0) (nI 3) rg.toInt (0 : Int) (3 : Int) (xW g x9 d rr im tx (nI ln) ab be (A 3 0) (A 3 1) (A 3 2) tb ib ++ (lW g d da (nI T) (nI C) (nI U) (nI V) rd ro lw pl pc gv aw nt ++ (Y ++ X))) rfl rfl rfl) q1_123 kX8_within ⟨rfl, rfl⟩ ⟨Nat.le_of_ble_eq_true rfl, Nat.le_of_ble_eq_true rfl⟩ rfl hl.1 rfl (Nat.le_of_ble_eq_true rfl) dX8_town_3 ⟨Nat.le_of_ble_eq_true rfl, Nat.le_of_ble_eq_true rfl⟩) (fun r_1 w_2 H locs hw hB => ?_)
  obtain ⟨hr9, hw9⟩ := hw
  have hr9 := hr9.symm
  subst hr9
  have hw9 := hw9.symm
  subst hw9
  refine z_bt (b := (inZ (0 : Int) (3 : Int) rg.toInt)) (tgt := 16) hE dX8_town_6 (by decide) (fun c_3 => ?_) (fun c_3 => ?_)
  · refine lv_aload_n hE.x hE.b dX8_town_16 rfl (lv_at hl 0 rfl) ?_
    refine z_get (v := .ref d) hE hB inX8 0 rfl rfl 0 (by decide) q1_79 (fun _ h9 => h9) rfl dX8_town_17 ?_
    refine z_get (v := .int (nI T)) hE hB inX4 3 rfl rfl 0 (by decide) q1_34 (fun _ h9 => h9) rfl dX8_town_20 ?_
    refine lv_bipush (v := (nI 6)) hE.x hE.b dX8_town_23 rfl ?_
    refine z_lt (tgt := 33) (X := ((T : Nat) : Int)) (Y := (6 : Int)) hE dX8_town_25 (by decide) (nI_toInt (n := T) (by omega)) rfl (fun c_4 => ?_) (fun c_4 => ?_)
    · refine lv_aload_n hE.x hE.b dX8_town_33 rfl (lv_at hl 0 rfl) ?_
      refine z_get (v := .ref d) hE hB inX8 0 rfl rfl 0 (by decide) q1_79 (fun _ h9 => h9) rfl dX8_town_34 ?_
      refine lv_iload_n hE.x hE.b dX8_town_37 rfl (lv_at hl 1 rfl) ?_
      have hB := zB_perm hB (List.perm_append_comm_assoc _ _ _)
      refine z_qv hB (z_cV hE hB (c_X4_addTown l g d da T C U V rd ro lw pl pc gv aw nt rg (xW g x9 d rr im tx (nI ln) ab be (A 3 0) (A 3 1) (A 3 2) tb ib ++ (Y ++ X)) (by omega)) q1_134 kX4_addTown ⟨rfl, rfl⟩ ⟨Nat.le_of_ble_eq_true rfl, Nat.le_of_ble_eq_true rfl⟩ 0 rfl rfl rfl hl.1 rfl (Nat.le_of_ble_eq_true rfl) dX8_town_38 ⟨Nat.le_of_ble_eq_true rfl, Nat.le_of_ble_eq_true rfl⟩) (fun w_6 H locs hw hB => ?_)
      have hw9 := hw
      have hw9 := hw9.symm
      subst hw9
      refine lv_aload_n hE.x hE.b dX8_town_41 rfl (lv_at hl 0 rfl) ?_
      refine z_get (v := .ref d) hE hB inX8 9 rfl rfl 0 (by decide) q1_79 (fun _ h9 => h9) rfl dX8_town_42 ?_
      refine z_get (v := .int (nI (T + 1))) hE hB inX4 0 rfl rfl 0 (by decide) q1_34 (fun _ h9 => h9) rfl dX8_town_45 ?_
      refine lv_iconst (v := nI 1) hE.x hE.b dX8_town_48 rfl ?_
      refine z_isubN hE (by omega) dX8_town_49 ?_
      have hB := zB_perm hB (List.perm_append_comm_assoc _ _ _)
      exact z_iret (v := (nI ((T + 1) - 1))) (ws := xW g x9 d rr im tx (nI ln) ab be (A 3 0) (A 3 1) (A 3 2) tb ib ++ (lW g d da (nI (T + 1)) (nI C) (nI U) (nI V) (upd rd T rg) ro lw pl pc gv aw nt ++ (Y ++ X))) hE hB hr (⟨(by unfold townR; rw [if_pos (show pIn 0 3 rg = true from c_3), if_neg (by omega)]; rw [Nat.add_sub_cancel]), lS_i (A1 := updA A 0 (nTown (A 0) T rg)) (T + 1) C U V (upd rd T rg) ro lw pl pc gv aw nt Y (by unfold townA; rw [if_pos (show pIn 0 3 rg = true from c_3), if_neg (by omega)]) rfl (nOK_town hn (by omega)) (relL_town hrel (by omega)) (fun _ h => h)⟩) dX8_town_50
    · refine lv_aload_n hE.x hE.b dX8_town_28 rfl (lv_at hl 0 rfl) ?_
      refine z_qi hB (z_cV hE hB (c_X8_full l g x9 d rr im tx (nI ln) ab be (A 3 0) (A 3 1) (A 3 2) tb ib (lW g d da (nI T) (nI C) (nI U) (nI V) rd ro lw pl pc gv aw nt ++ (Y ++ X))) q1_130 kX8_full ⟨rfl, rfl⟩ ⟨Nat.le_of_ble_eq_true rfl, Nat.le_of_ble_eq_true rfl⟩ 0 rfl rfl rfl hl.1 rfl (Nat.le_of_ble_eq_true rfl) dX8_town_29 ⟨Nat.le_of_ble_eq_true rfl, Nat.le_of_ble_eq_true rfl⟩) (fun r_7 w_8 H locs hw hB => ?_)
      obtain ⟨hr9, hw9⟩ := hw
      have hr9 := hr9.symm
      subst hr9
      have hw9 := hw9.symm
      subst hw9
      exact z_iret (v := (-4)) (ws := xW g x9 d rr im tx (nI ln) ab be (A 3 0) (A 3 1) ((A 3 2) + nI 1) tb ib ++ (lW g d da (nI T) (nI C) (nI U) (nI V) rd ro lw pl pc gv aw nt ++ (Y ++ X))) hE hB hr (⟨(by unfold townR; rw [if_pos (show pIn 0 3 rg = true from c_3), if_pos (by omega)]), lS_i (A1 := bump 2 A) T C U V rd ro lw pl pc gv aw nt Y (by unfold townA; rw [if_pos (show pIn 0 3 rg = true from c_3), if_pos (by omega)]) rfl hn hrel (fun _ h => h)⟩) dX8_town_32
  · refine lv_aload_n hE.x hE.b dX8_town_9 rfl (lv_at hl 0 rfl) ?_
    refine lv_bipush (v := (-2)) hE.x hE.b dX8_town_10 rfl ?_
    refine z_qi hB (z_cV hE hB (c_X8_bad l g x9 d rr im tx (nI ln) ab be (A 3 0) (A 3 1) (A 3 2) tb ib (-2) (lW g d da (nI T) (nI C) (nI U) (nI V) rd ro lw pl pc gv aw nt ++ (Y ++ X))) q1_126 kX8_bad ⟨rfl, rfl⟩ ⟨Nat.le_of_ble_eq_true rfl, Nat.le_of_ble_eq_true rfl⟩ 0 rfl rfl rfl hl.1 rfl (Nat.le_of_ble_eq_true rfl) dX8_town_12 ⟨Nat.le_of_ble_eq_true rfl, Nat.le_of_ble_eq_true rfl⟩) (fun r_9 w_10 H locs hw hB => ?_)
    obtain ⟨hr9, hw9⟩ := hw
    have hr9 := hr9.symm
    subst hr9
    have hw9 := hw9.symm
    subst hw9
    exact z_iret (v := (-2)) (ws := xW g x9 d rr im tx (nI ln) ab be ((A 3 0) + nI 1) (A 3 1) (A 3 2) tb ib ++ (lW g d da (nI T) (nI C) (nI U) (nI V) rd ro lw pl pc gv aw nt ++ (Y ++ X))) hE hB hr (⟨(by unfold townR; rw [if_neg (show ¬ pIn 0 3 rg = true by rw [show pIn 0 3 rg = false from c_3]; decide)]), lS_i (A1 := bump 0 A) T C U V rd ro lw pl pc gv aw nt Y (by unfold townA; rw [if_neg (show ¬ pIn 0 3 rg = true by rw [show pIn 0 3 rg = false from c_3]; decide)]) rfl hn hrel (fun _ h => h)⟩) dX8_town_15

set_option maxHeartbeats 4000000 in
set_option maxRecDepth 100000 in
theorem c_X8_road (l : Launch) (g : zG) (x9 : Nat) (d : Nat) (rr : Nat) (im : Nat) (tx : Nat) (ab : Int32) (be : Int32) (tb : Nat → Int32) (ib : Nat → Option Nat) (da : Nat → Nat) (T : Nat) (C : Nat) (U : Nat) (V : Nat) (rd : Nat → Int32) (ro : Nat → Int32) (lw : Nat → Option Nat) (pl : Nat → Option Nat) (pc : Nat → Int32) (gv : Nat → Int32) (aw : Nat → Int32) (nt : Nat → Int32) (A : Nat → Nat → Int32) (ln : Nat) (x : Int32) (y : Int32) (dv : Int32) (Y : va_W) (X : va_W) (hn : nOK (A 0) T C V U) (hrel : relL (A 0) T C U V rd ro lw pl pc gv Y) : Met l yX8_road (Cond.code yX8_road cX8_road 5 (some .int) :: TBL) { frames := 1, cells := 0, slots := 0, locals := 23 } (zPc [.ref x9, .int x, .int y, .int dv] g (xW g x9 d rr im tx (nI ln) ab be (A 3 0) (A 3 1) (A 3 2) tb ib ++ (lW g d da (nI T) (nI C) (nI U) (nI V) rd ro lw pl pc gv aw nt ++ (Y ++ X)))) (zQi g (fun r ws => r = (roadR (A 0) T x y dv) ∧ lS g x9 d da rr im tx (roadA A T x y dv) ln ab be tb ib Y X ws)) 0 0 (zA (gz g)) := by
  refine z_start (by decide +kernel) rfl (Nat.le_of_ble_eq_true rfl) ?_
  intro p e s m args below meth c ls hE hr hnm hB hl
  have hl : lv_has ls 5 [(0, .ref x9), (1, .int x), (2, .int y), (3, .int dv)] := hl
  revert hB
  generalize s.heap = H
  generalize ([] : List Loc) = locs
  intro hB
  have hT6 := hn.T6
  have hC8 := hn.C8
  have hV8 := hn.V8
  have hU8 := hn.U8
  refine lv_aload_n hE.x hE.b dX8_road_0 rfl (lv_at hl 0 rfl) ?_
  refine z_get (v := .ref d) hE hB inX8 0 rfl rfl 0 (by decide) q1_79 (fun _ h9 => h9) rfl dX8_road_1 ?_
  refine lv_iload_n hE.x hE.b dX8_road_4 rfl (lv_at hl 1 rfl) ?_
  have hB := zB_perm hB (List.perm_append_comm_assoc _ _ _)
  refine z_qi hB (z_cV hE hB (c_X4_hasTown l g d da T C U V rd ro lw pl pc gv aw nt x (xW g x9 d rr im tx (nI ln) ab be (A 3 0) (A 3 1) (A 3 2) tb ib ++ (Y ++ X)) (by omega)) q1_142 kX4_hasTown ⟨rfl, rfl⟩ ⟨Nat.le_of_ble_eq_true rfl, Nat.le_of_ble_eq_true rfl⟩ 0 rfl rfl rfl hl.1 rfl (Nat.le_of_ble_eq_true rfl) dX8_road_5 ⟨Nat.le_of_ble_eq_true rfl, Nat.le_of_ble_eq_true rfl⟩) (fun r_1 w_2 H locs hw hB => ?_)
  obtain ⟨hr9, hw9⟩ := hw
  have hr9 := hr9.symm
  subst hr9
  have hw9 := hw9.symm
  subst hw9
  refine z_bf (b := (pTown T x)) (tgt := 37) hE dX8_road_8 (by decide) (fun c_3 => ?_) (fun c_3 => ?_)
  · refine lv_aload_n hE.x hE.b dX8_road_37 rfl (lv_at hl 0 rfl) ?_
    refine lv_bipush (v := (-2)) hE.x hE.b dX8_road_38 rfl ?_
    have hB := zB_perm hB (List.perm_append_comm_assoc _ _ _)
    refine z_qi hB (z_cV hE hB (c_X8_bad l g x9 d rr im tx (nI ln) ab be (A 3 0) (A 3 1) (A 3 2) tb ib (-2) (lW g d da (nI T) (nI C) (nI U) (nI V) rd ro lw pl pc gv aw nt ++ (Y ++ X))) q1_126 kX8_bad ⟨rfl, rfl⟩ ⟨Nat.le_of_ble_eq_true rfl, Nat.le_of_ble_eq_true rfl⟩ 0 rfl rfl rfl hl.1 rfl (Nat.le_of_ble_eq_true rfl) dX8_road_40 ⟨Nat.le_of_ble_eq_true rfl, Nat.le_of_ble_eq_true rfl⟩) (fun r_4 w_5 H locs hw hB => ?_)
    obtain ⟨hr9, hw9⟩ := hw
    have hr9 := hr9.symm
    subst hr9
    have hw9 := hw9.symm
    subst hw9
    exact z_iret (v := (-2)) (ws := xW g x9 d rr im tx (nI ln) ab be ((A 3 0) + nI 1) (A 3 1) (A 3 2) tb ib ++ (lW g d da (nI T) (nI C) (nI U) (nI V) rd ro lw pl pc gv aw nt ++ (Y ++ X))) hE hB hr (⟨(by unfold roadR; rw [if_neg (show ¬ roadOK T x y dv = true by unfold roadOK pIn; simp [c_3])]), lS_i (A1 := bump 0 A) T C U V rd ro lw pl pc gv aw nt Y (by unfold roadA; rw [if_neg (show ¬ roadOK T x y dv = true by unfold roadOK pIn; simp [c_3])]) rfl hn hrel (fun _ h => h)⟩) dX8_road_43
  · refine lv_aload_n hE.x hE.b dX8_road_11 rfl (lv_at hl 0 rfl) ?_
    refine z_get (v := .ref d) hE hB inX8 9 rfl rfl 0 (by decide) q1_79 (fun _ h9 => h9) rfl dX8_road_12 ?_
    refine lv_iload_n hE.x hE.b dX8_road_15 rfl (lv_at hl 2 rfl) ?_
    refine z_qi hB (z_cV hE hB (c_X4_hasTown l g d da T C U V rd ro lw pl pc gv aw nt y (xW g x9 d rr im tx (nI ln) ab be (A 3 0) (A 3 1) (A 3 2) tb ib ++ (Y ++ X)) (by omega)) q1_142 kX4_hasTown ⟨rfl, rfl⟩ ⟨Nat.le_of_ble_eq_true rfl, Nat.le_of_ble_eq_true rfl⟩ 0 rfl rfl rfl hl.1 rfl (Nat.le_of_ble_eq_true rfl) dX8_road_16 ⟨Nat.le_of_ble_eq_true rfl, Nat.le_of_ble_eq_true rfl⟩) (fun r_6 w_7 H locs hw hB => ?_)
    obtain ⟨hr9, hw9⟩ := hw
    have hr9 := hr9.symm
    subst hr9
    have hw9 := hw9.symm
    subst hw9
    refine z_bf (b := (pTown T y)) (tgt := 37) hE dX8_road_19 (by decide) (fun c_8 => ?_) (fun c_8 => ?_)
    · refine lv_aload_n hE.x hE.b dX8_road_37 rfl (lv_at hl 0 rfl) ?_
      refine lv_bipush (v := (-2)) hE.x hE.b dX8_road_38 rfl ?_
      have hB := zB_perm hB (List.perm_append_comm_assoc _ _ _)
      refine z_qi hB (z_cV hE hB (c_X8_bad l g x9 d rr im tx (nI ln) ab be (A 3 0) (A 3 1) (A 3 2) tb ib (-2) (lW g d da (nI T) (nI C) (nI U) (nI V) rd ro lw pl pc gv aw nt ++ (Y ++ X))) q1_126 kX8_bad ⟨rfl, rfl⟩ ⟨Nat.le_of_ble_eq_true rfl, Nat.le_of_ble_eq_true rfl⟩ 0 rfl rfl rfl hl.1 rfl (Nat.le_of_ble_eq_true rfl) dX8_road_40 ⟨Nat.le_of_ble_eq_true rfl, Nat.le_of_ble_eq_true rfl⟩) (fun r_9 w_10 H locs hw hB => ?_)
      obtain ⟨hr9, hw9⟩ := hw
      have hr9 := hr9.symm
      subst hr9
      have hw9 := hw9.symm
      subst hw9
      exact z_iret (v := (-2)) (ws := xW g x9 d rr im tx (nI ln) ab be ((A 3 0) + nI 1) (A 3 1) (A 3 2) tb ib ++ (lW g d da (nI T) (nI C) (nI U) (nI V) rd ro lw pl pc gv aw nt ++ (Y ++ X))) hE hB hr (⟨(by unfold roadR; rw [if_neg (show ¬ roadOK T x y dv = true by unfold roadOK pIn; simp [c_3, c_8])]), lS_i (A1 := bump 0 A) T C U V rd ro lw pl pc gv aw nt Y (by unfold roadA; rw [if_neg (show ¬ roadOK T x y dv = true by unfold roadOK pIn; simp [c_3, c_8])]) rfl hn hrel (fun _ h => h)⟩) dX8_road_43
    · refine lv_iload_n hE.x hE.b dX8_road_22 rfl (lv_at hl 1 rfl) ?_
      refine lv_iload_n hE.x hE.b dX8_road_23 rfl (lv_at hl 2 rfl) ?_
      refine lv_icmp_eq (tgt := 37) hE.x hE.b dX8_road_24 (by decide) (fun c_11 => ?_) (fun c_11 => ?_)
      · refine lv_aload_n hE.x hE.b dX8_road_37 rfl (lv_at hl 0 rfl) ?_
        refine lv_bipush (v := (-2)) hE.x hE.b dX8_road_38 rfl ?_
        have hB := zB_perm hB (List.perm_append_comm_assoc _ _ _)
        refine z_qi hB (z_cV hE hB (c_X8_bad l g x9 d rr im tx (nI ln) ab be (A 3 0) (A 3 1) (A 3 2) tb ib (-2) (lW g d da (nI T) (nI C) (nI U) (nI V) rd ro lw pl pc gv aw nt ++ (Y ++ X))) q1_126 kX8_bad ⟨rfl, rfl⟩ ⟨Nat.le_of_ble_eq_true rfl, Nat.le_of_ble_eq_true rfl⟩ 0 rfl rfl rfl hl.1 rfl (Nat.le_of_ble_eq_true rfl) dX8_road_40 ⟨Nat.le_of_ble_eq_true rfl, Nat.le_of_ble_eq_true rfl⟩) (fun r_12 w_13 H locs hw hB => ?_)
        obtain ⟨hr9, hw9⟩ := hw
        have hr9 := hr9.symm
        subst hr9
        have hw9 := hw9.symm
        subst hw9
        exact z_iret (v := (-2)) (ws := xW g x9 d rr im tx (nI ln) ab be ((A 3 0) + nI 1) (A 3 1) (A 3 2) tb ib ++ (lW g d da (nI T) (nI C) (nI U) (nI V) rd ro lw pl pc gv aw nt ++ (Y ++ X))) hE hB hr (⟨(by unfold roadR; rw [if_neg (show ¬ roadOK T x y dv = true by unfold roadOK pIn; simp [c_3, c_8, c_11])]), lS_i (A1 := bump 0 A) T C U V rd ro lw pl pc gv aw nt Y (by unfold roadA; rw [if_neg (show ¬ roadOK T x y dv = true by unfold roadOK pIn; simp [c_3, c_8, c_11])]) rfl hn hrel (fun _ h => h)⟩) dX8_road_43
      · refine lv_iload_n hE.x hE.b dX8_road_27 rfl (lv_at hl 3 rfl) ?_
        refine lv_iconst (v := nI 1) hE.x hE.b dX8_road_28 rfl ?_
        refine lv_bipush (v := (nI 9)) hE.x hE.b dX8_road_29 rfl ?_
        refine z_qi hB (z_cS hE hB (c_X8_within l g dv (nI 1) (nI 9) dv.toInt (1 : Int) (9 : Int) (lW g d da (nI T) (nI C) (nI U) (nI V) rd ro lw pl pc gv aw nt ++ (xW g x9 d rr im tx (nI ln) ab be (A 3 0) (A 3 1) (A 3 2) tb ib ++ (Y ++ X))) rfl rfl rfl) q1_123 kX8_within ⟨rfl, rfl⟩ ⟨Nat.le_of_ble_eq_true rfl, Nat.le_of_ble_eq_true rfl⟩ rfl hl.1 rfl (Nat.le_of_ble_eq_true rfl) dX8_road_31 ⟨Nat.le_of_ble_eq_true rfl, Nat.le_of_ble_eq_true rfl⟩) (fun r_14 w_15 H locs hw hB => ?_)
        obtain ⟨hr9, hw9⟩ := hw
        have hr9 := hr9.symm
        subst hr9
        have hw9 := hw9.symm
        subst hw9
        refine z_bt (b := (inZ (1 : Int) (9 : Int) dv.toInt)) (tgt := 44) hE dX8_road_34 (by decide) (fun c_16 => ?_) (fun c_16 => ?_)
        · obtain ⟨i, hi, rfl⟩ := pTown_nI c_3 (by omega)
          obtain ⟨j, hj, rfl⟩ := pTown_nI c_8 (by omega)
          obtain ⟨k, hk, rfl⟩ := pIn_nI (hi := 9) (x := dv) (by have h9 := of_decide_eq_true c_16; exact decide_eq_true (by omega)) (by omega)
          refine lv_aload_n hE.x hE.b dX8_road_44 rfl (lv_at hl 0 rfl) ?_
          refine z_get (v := .ref d) hE hB inX8 9 rfl rfl 0 (by decide) q1_79 (fun _ h9 => h9) rfl dX8_road_45 ?_
          refine lv_iload_n hE.x hE.b dX8_road_48 rfl (lv_at hl 1 rfl) ?_
          refine lv_iload_n hE.x hE.b dX8_road_49 rfl (lv_at hl 2 rfl) ?_
          refine z_qi hB (z_cV hE hB (c_X4_roadDays l g d da T C U V rd ro lw pl pc gv aw nt i j (A 0) Y (xW g x9 d rr im tx (nI ln) ab be (A 3 0) (A 3 1) (A 3 2) tb ib ++ (Y ++ X)) hn hrel (fun _ h => List.mem_append_right _ (List.mem_append_left _ h)) (by omega) (by omega)) q1_146 kX4_roadDays ⟨rfl, rfl⟩ ⟨Nat.le_of_ble_eq_true rfl, Nat.le_of_ble_eq_true rfl⟩ 0 rfl rfl rfl hl.1 rfl (Nat.le_of_ble_eq_true rfl) dX8_road_50 ⟨Nat.le_of_ble_eq_true rfl, Nat.le_of_ble_eq_true rfl⟩) (fun r_17 w_18 H locs hw hB => ?_)
          obtain ⟨hr9, hw9⟩ := hw
          have hr9 := hr9.symm
          subst hr9
          have hw9 := hw9.symm
          subst hw9
          refine lv_istore (lv' := [(4, .int (nI (rwE (A 0) (6 * i + j)))), (0, .ref x9), (1, .int (nI i)), (2, .int (nI j)), (3, .int (nI k))]) hE.x hE.b dX8_road_53 hl (by decide) rfl (fun ls hl => ?_)
          refine lv_aload_n hE.x hE.b dX8_road_55 rfl (lv_at hl 1 rfl) ?_
          refine z_get (v := .ref d) hE hB inX8 9 rfl rfl 0 (by decide) q1_79 (fun _ h9 => h9) rfl dX8_road_56 ?_
          refine lv_iload_n hE.x hE.b dX8_road_59 rfl (lv_at hl 2 rfl) ?_
          refine lv_iload_n hE.x hE.b dX8_road_60 rfl (lv_at hl 3 rfl) ?_
          refine lv_iload_n hE.x hE.b dX8_road_61 rfl (lv_at hl 4 rfl) ?_
          refine z_qv hB (z_cV hE hB (c_X4_setRoad l g d da T C U V rd ro lw pl pc gv aw nt i j (nI k) (xW g x9 d rr im tx (nI ln) ab be (A 3 0) (A 3 1) (A 3 2) tb ib ++ (Y ++ X)) (by omega) (by omega)) q1_150 kX4_setRoad ⟨rfl, rfl⟩ ⟨Nat.le_of_ble_eq_true rfl, Nat.le_of_ble_eq_true rfl⟩ 0 rfl rfl rfl hl.1 rfl (Nat.le_of_ble_eq_true rfl) dX8_road_62 ⟨Nat.le_of_ble_eq_true rfl, Nat.le_of_ble_eq_true rfl⟩) (fun w_20 H locs hw hB => ?_)
          have hw9 := hw
          have hw9 := hw9.symm
          subst hw9
          refine lv_iload hE.x hE.b dX8_road_65 (lv_at hl 0 rfl) ?_
          have hB := zB_perm hB (List.perm_append_comm_assoc _ _ _)
          exact z_iret (v := (nI (rwE (A 0) (6 * i + j)))) (ws := xW g x9 d rr im tx (nI ln) ab be (A 3 0) (A 3 1) (A 3 2) tb ib ++ (lW g d da (nI T) (nI C) (nI U) (nI V) rd (upd (upd ro (6 * i + j) (nI k)) (6 * j + i) (nI k)) lw pl pc gv aw nt ++ (Y ++ X))) hE hB hr (⟨(by unfold roadR; rw [if_pos (show roadOK T (nI i) (nI j) (nI k) = true by unfold roadOK pIn; simp [c_3, c_8, c_11, c_16])]; rw [rc_i (by omega), rc_i (by omega)]; exact (rwE_v hn (by omega) (by omega)).symm), lS_i (A1 := updA A 0 (nRoad (A 0) (rc (nI i)) (rc (nI j)) (nI k))) T C U V rd (upd (upd ro (6 * i + j) (nI k)) (6 * j + i) (nI k)) lw pl pc gv aw nt Y (by unfold roadA; rw [if_pos (show roadOK T (nI i) (nI j) (nI k) = true by unfold roadOK pIn; simp [c_3, c_8, c_11, c_16])]) rfl (by rw [rc_i (by omega), rc_i (by omega)]; exact nOK_road hn (by omega) (by omega) (by omega)) (by rw [rc_i (by omega), rc_i (by omega)]; exact relL_road hrel (by omega) (by omega) (by omega)) (fun _ h => h)⟩) dX8_road_67
        · refine lv_aload_n hE.x hE.b dX8_road_37 rfl (lv_at hl 0 rfl) ?_
          refine lv_bipush (v := (-2)) hE.x hE.b dX8_road_38 rfl ?_
          have hB := zB_perm hB (List.perm_append_comm_assoc _ _ _)
          refine z_qi hB (z_cV hE hB (c_X8_bad l g x9 d rr im tx (nI ln) ab be (A 3 0) (A 3 1) (A 3 2) tb ib (-2) (lW g d da (nI T) (nI C) (nI U) (nI V) rd ro lw pl pc gv aw nt ++ (Y ++ X))) q1_126 kX8_bad ⟨rfl, rfl⟩ ⟨Nat.le_of_ble_eq_true rfl, Nat.le_of_ble_eq_true rfl⟩ 0 rfl rfl rfl hl.1 rfl (Nat.le_of_ble_eq_true rfl) dX8_road_40 ⟨Nat.le_of_ble_eq_true rfl, Nat.le_of_ble_eq_true rfl⟩) (fun r_21 w_22 H locs hw hB => ?_)
          obtain ⟨hr9, hw9⟩ := hw
          have hr9 := hr9.symm
          subst hr9
          have hw9 := hw9.symm
          subst hw9
          exact z_iret (v := (-2)) (ws := xW g x9 d rr im tx (nI ln) ab be ((A 3 0) + nI 1) (A 3 1) (A 3 2) tb ib ++ (lW g d da (nI T) (nI C) (nI U) (nI V) rd ro lw pl pc gv aw nt ++ (Y ++ X))) hE hB hr (⟨(by unfold roadR; rw [if_neg (show ¬ roadOK T x y dv = true by unfold roadOK pIn; simp [c_3, c_8, c_11, c_16])]), lS_i (A1 := bump 0 A) T C U V rd ro lw pl pc gv aw nt Y (by unfold roadA; rw [if_neg (show ¬ roadOK T x y dv = true by unfold roadOK pIn; simp [c_3, c_8, c_11, c_16])]) rfl hn hrel (fun _ h => h)⟩) dX8_road_43
