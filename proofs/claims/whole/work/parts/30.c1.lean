theorem dX0_speaksIn_0 : decode cX0_speaksIn 0 = .ok (.iconst 1, 1) := by decide +kernel
theorem dX0_speaksIn_1 : decode cX0_speaksIn 1 = .ok (.ireturn, 1) := by decide +kernel
theorem dX0_end_0 : decode cX0_end 0 = .ok (.aload_n 0, 1) := by decide +kernel
theorem dX0_end_1 : decode cX0_end 1 = .ok (.getfield 19, 3) := by decide +kernel
theorem dX0_end_4 : decode cX0_end 4 = .ok (.ireturn, 1) := by decide +kernel
theorem dX0_speaksTo_0 : decode cX0_speaksTo 0 = .ok (.iconst 1, 1) := by decide +kernel
theorem dX0_speaksTo_1 : decode cX0_speaksTo 1 = .ok (.ireturn, 1) := by decide +kernel
theorem dX0_allows_0 : decode cX0_allows 0 = .ok (.iconst 0, 1) := by decide +kernel
theorem dX0_allows_1 : decode cX0_allows 1 = .ok (.ireturn, 1) := by decide +kernel
theorem dX2_allows_0 : decode cX2_allows 0 = .ok (.iconst 1, 1) := by decide +kernel
theorem dX2_allows_1 : decode cX2_allows 1 = .ok (.ireturn, 1) := by decide +kernel
theorem dX3_speaksIn_0 : decode cX3_speaksIn 0 = .ok (.iload_n 1, 1) := by decide +kernel
theorem dX3_speaksIn_1 : decode cX3_speaksIn 1 = .ok (.aload_n 0, 1) := by decide +kernel
theorem dX3_speaksIn_2 : decode cX3_speaksIn 2 = .ok (.getfield 7, 3) := by decide +kernel
theorem dX3_speaksIn_5 : decode cX3_speaksIn 5 = .ok (.if_icmp .ne 7, 3) := by decide +kernel
theorem dX3_speaksIn_8 : decode cX3_speaksIn 8 = .ok (.iconst 1, 1) := by decide +kernel
theorem dX3_speaksIn_9 : decode cX3_speaksIn 9 = .ok (.goto 4, 3) := by decide +kernel
theorem dX3_speaksIn_12 : decode cX3_speaksIn 12 = .ok (.iconst 0, 1) := by decide +kernel
theorem dX3_speaksIn_13 : decode cX3_speaksIn 13 = .ok (.ireturn, 1) := by decide +kernel
theorem dX5_end_0 : decode cX5_end 0 = .ok (.aload_n 0, 1) := by decide +kernel
theorem dX5_end_1 : decode cX5_end 1 = .ok (.getfield 7, 3) := by decide +kernel
theorem dX5_end_4 : decode cX5_end 4 = .ok (.aload_n 0, 1) := by decide +kernel
theorem dX5_end_5 : decode cX5_end 5 = .ok (.getfield 13, 3) := by decide +kernel
theorem dX5_end_8 : decode cX5_end 8 = .ok (.aload_n 0, 1) := by decide +kernel
theorem dX5_end_9 : decode cX5_end 9 = .ok (.getfield 7, 3) := by decide +kernel
theorem dX5_end_12 : decode cX5_end 12 = .ok (.isub, 1) := by decide +kernel
theorem dX5_end_13 : decode cX5_end 13 = .ok (.iconst 1, 1) := by decide +kernel
theorem dX5_end_14 : decode cX5_end 14 = .ok (.iadd, 1) := by decide +kernel
theorem dX5_end_15 : decode cX5_end 15 = .ok (.iconst 2, 1) := by decide +kernel
theorem dX5_end_16 : decode cX5_end 16 = .ok (.idiv, 1) := by decide +kernel
theorem dX5_end_17 : decode cX5_end 17 = .ok (.iadd, 1) := by decide +kernel
theorem dX5_end_18 : decode cX5_end 18 = .ok (.ireturn, 1) := by decide +kernel
theorem dX1_speaksTo_0 : decode cX1_speaksTo 0 = .ok (.iload_n 1, 1) := by decide +kernel
theorem dX1_speaksTo_1 : decode cX1_speaksTo 1 = .ok (.iconst 2, 1) := by decide +kernel
theorem dX1_speaksTo_2 : decode cX1_speaksTo 2 = .ok (.iand, 1) := by decide +kernel
theorem dX1_speaksTo_3 : decode cX1_speaksTo 3 = .ok (.ifCond .eq 7, 3) := by decide +kernel
theorem dX1_speaksTo_6 : decode cX1_speaksTo 6 = .ok (.iconst 1, 1) := by decide +kernel
theorem dX1_speaksTo_7 : decode cX1_speaksTo 7 = .ok (.goto 4, 3) := by decide +kernel
theorem dX1_speaksTo_10 : decode cX1_speaksTo 10 = .ok (.iconst 0, 1) := by decide +kernel
theorem dX1_speaksTo_11 : decode cX1_speaksTo 11 = .ok (.ireturn, 1) := by decide +kernel
theorem dX7_speaksTo_0 : decode cX7_speaksTo 0 = .ok (.iload_n 1, 1) := by decide +kernel
theorem dX7_speaksTo_1 : decode cX7_speaksTo 1 = .ok (.iconst 1, 1) := by decide +kernel
theorem dX7_speaksTo_2 : decode cX7_speaksTo 2 = .ok (.iand, 1) := by decide +kernel
theorem dX7_speaksTo_3 : decode cX7_speaksTo 3 = .ok (.ifCond .eq 7, 3) := by decide +kernel
theorem dX7_speaksTo_6 : decode cX7_speaksTo 6 = .ok (.iconst 1, 1) := by decide +kernel
theorem dX7_speaksTo_7 : decode cX7_speaksTo 7 = .ok (.goto 4, 3) := by decide +kernel
theorem dX7_speaksTo_10 : decode cX7_speaksTo 10 = .ok (.iconst 0, 1) := by decide +kernel
theorem dX7_speaksTo_11 : decode cX7_speaksTo 11 = .ok (.ireturn, 1) := by decide +kernel
theorem dX0_init_0 : decode cX0_init 0 = .ok (.aload_n 0, 1) := by decide +kernel
theorem dX0_init_1 : decode cX0_init 1 = .ok (.invokespecial 1, 3) := by decide +kernel
theorem dX0_init_4 : decode cX0_init 4 = .ok (.aload_n 0, 1) := by decide +kernel
theorem dX0_init_5 : decode cX0_init 5 = .ok (.iload_n 1, 1) := by decide +kernel
theorem dX0_init_6 : decode cX0_init 6 = .ok (.putfield 7, 3) := by decide +kernel
theorem dX0_init_9 : decode cX0_init 9 = .ok (.aload_n 0, 1) := by decide +kernel
theorem dX0_init_10 : decode cX0_init 10 = .ok (.iload_n 2, 1) := by decide +kernel
theorem dX0_init_11 : decode cX0_init 11 = .ok (.putfield 13, 3) := by decide +kernel
theorem dX0_init_14 : decode cX0_init 14 = .ok (.aload_n 0, 1) := by decide +kernel
theorem dX0_init_15 : decode cX0_init 15 = .ok (.iload_n 3, 1) := by decide +kernel
theorem dX0_init_16 : decode cX0_init 16 = .ok (.putfield 16, 3) := by decide +kernel
theorem dX0_init_19 : decode cX0_init 19 = .ok (.aload_n 0, 1) := by decide +kernel
theorem dX0_init_20 : decode cX0_init 20 = .ok (.iload 4, 2) := by decide +kernel
theorem dX0_init_22 : decode cX0_init 22 = .ok (.putfield 19, 3) := by decide +kernel
theorem dX0_init_25 : decode cX0_init 25 = .ok (.aload_n 0, 1) := by decide +kernel
theorem dX0_init_26 : decode cX0_init 26 = .ok (.iload 5, 2) := by decide +kernel
theorem dX0_init_28 : decode cX0_init 28 = .ok (.putfield 22, 3) := by decide +kernel
theorem dX0_init_31 : decode cX0_init 31 = .ok (.return_, 1) := by decide +kernel
theorem dX2_init_0 : decode cX2_init 0 = .ok (.aload_n 0, 1) := by decide +kernel
theorem dX2_init_1 : decode cX2_init 1 = .ok (.iload_n 1, 1) := by decide +kernel
theorem dX2_init_2 : decode cX2_init 2 = .ok (.iload_n 2, 1) := by decide +kernel
theorem dX2_init_3 : decode cX2_init 3 = .ok (.iload_n 3, 1) := by decide +kernel
theorem dX2_init_4 : decode cX2_init 4 = .ok (.iload 4, 2) := by decide +kernel
theorem dX2_init_6 : decode cX2_init 6 = .ok (.iload 5, 2) := by decide +kernel
theorem dX2_init_8 : decode cX2_init 8 = .ok (.invokespecial 1, 3) := by decide +kernel
theorem dX2_init_11 : decode cX2_init 11 = .ok (.return_, 1) := by decide +kernel
theorem dX5_init_0 : decode cX5_init 0 = .ok (.aload_n 0, 1) := by decide +kernel
theorem dX5_init_1 : decode cX5_init 1 = .ok (.iload_n 1, 1) := by decide +kernel
theorem dX5_init_2 : decode cX5_init 2 = .ok (.iload_n 2, 1) := by decide +kernel
theorem dX5_init_3 : decode cX5_init 3 = .ok (.iload_n 3, 1) := by decide +kernel
theorem dX5_init_4 : decode cX5_init 4 = .ok (.iload 4, 2) := by decide +kernel
theorem dX5_init_6 : decode cX5_init 6 = .ok (.iload 5, 2) := by decide +kernel
theorem dX5_init_8 : decode cX5_init 8 = .ok (.invokespecial 1, 3) := by decide +kernel
theorem dX5_init_11 : decode cX5_init 11 = .ok (.return_, 1) := by decide +kernel
theorem dX3_init_0 : decode cX3_init 0 = .ok (.aload_n 0, 1) := by decide +kernel
theorem dX3_init_1 : decode cX3_init 1 = .ok (.iload_n 1, 1) := by decide +kernel
theorem dX3_init_2 : decode cX3_init 2 = .ok (.iload_n 2, 1) := by decide +kernel
theorem dX3_init_3 : decode cX3_init 3 = .ok (.iload_n 3, 1) := by decide +kernel
theorem dX3_init_4 : decode cX3_init 4 = .ok (.iload 4, 2) := by decide +kernel
theorem dX3_init_6 : decode cX3_init 6 = .ok (.iload 5, 2) := by decide +kernel
theorem dX3_init_8 : decode cX3_init 8 = .ok (.invokespecial 1, 3) := by decide +kernel
theorem dX3_init_11 : decode cX3_init 11 = .ok (.return_, 1) := by decide +kernel
theorem dX1_init_0 : decode cX1_init 0 = .ok (.aload_n 0, 1) := by decide +kernel
theorem dX1_init_1 : decode cX1_init 1 = .ok (.iload_n 1, 1) := by decide +kernel
theorem dX1_init_2 : decode cX1_init 2 = .ok (.iload_n 2, 1) := by decide +kernel
theorem dX1_init_3 : decode cX1_init 3 = .ok (.iload_n 3, 1) := by decide +kernel
theorem dX1_init_4 : decode cX1_init 4 = .ok (.iload 4, 2) := by decide +kernel
theorem dX1_init_6 : decode cX1_init 6 = .ok (.iload 5, 2) := by decide +kernel
theorem dX1_init_8 : decode cX1_init 8 = .ok (.invokespecial 1, 3) := by decide +kernel
theorem dX1_init_11 : decode cX1_init 11 = .ok (.return_, 1) := by decide +kernel
theorem dX7_init_0 : decode cX7_init 0 = .ok (.aload_n 0, 1) := by decide +kernel
theorem dX7_init_1 : decode cX7_init 1 = .ok (.iload_n 1, 1) := by decide +kernel
theorem dX7_init_2 : decode cX7_init 2 = .ok (.iload_n 2, 1) := by decide +kernel
theorem dX7_init_3 : decode cX7_init 3 = .ok (.iload_n 3, 1) := by decide +kernel
theorem dX7_init_4 : decode cX7_init 4 = .ok (.iload 4, 2) := by decide +kernel
theorem dX7_init_6 : decode cX7_init 6 = .ok (.iload 5, 2) := by decide +kernel
theorem dX7_init_8 : decode cX7_init 8 = .ok (.invokespecial 1, 3) := by decide +kernel
theorem dX7_init_11 : decode cX7_init 11 = .ok (.return_, 1) := by decide +kernel
theorem dX8_told_0 : decode cX8_told 0 = .ok (.iload_n 0, 1) := by decide +kernel
theorem dX8_told_1 : decode cX8_told 1 = .ok (.tableswitch 105 1 5 #[35, 49, 63, 77, 91], 35) := by decide +kernel
theorem dX8_told_36 : decode cX8_told 36 = .ok (.new 264, 3) := by decide +kernel
theorem dX8_told_39 : decode cX8_told 39 = .ok (.dup, 1) := by decide +kernel
theorem dX8_told_40 : decode cX8_told 40 = .ok (.iload_n 0, 1) := by decide +kernel
theorem dX8_told_41 : decode cX8_told 41 = .ok (.iload_n 1, 1) := by decide +kernel
theorem dX8_told_42 : decode cX8_told 42 = .ok (.iload_n 2, 1) := by decide +kernel
theorem dX8_told_43 : decode cX8_told 43 = .ok (.iload_n 3, 1) := by decide +kernel
theorem dX8_told_44 : decode cX8_told 44 = .ok (.iload 4, 2) := by decide +kernel
theorem dX8_told_46 : decode cX8_told 46 = .ok (.invokespecial 266, 3) := by decide +kernel
theorem dX8_told_49 : decode cX8_told 49 = .ok (.areturn, 1) := by decide +kernel
theorem dX8_told_50 : decode cX8_told 50 = .ok (.new 268, 3) := by decide +kernel
theorem dX8_told_53 : decode cX8_told 53 = .ok (.dup, 1) := by decide +kernel
theorem dX8_told_54 : decode cX8_told 54 = .ok (.iload_n 0, 1) := by decide +kernel
theorem dX8_told_55 : decode cX8_told 55 = .ok (.iload_n 1, 1) := by decide +kernel
theorem dX8_told_56 : decode cX8_told 56 = .ok (.iload_n 2, 1) := by decide +kernel
theorem dX8_told_57 : decode cX8_told 57 = .ok (.iload_n 3, 1) := by decide +kernel
theorem dX8_told_58 : decode cX8_told 58 = .ok (.iload 4, 2) := by decide +kernel
theorem dX8_told_60 : decode cX8_told 60 = .ok (.invokespecial 270, 3) := by decide +kernel
theorem dX8_told_63 : decode cX8_told 63 = .ok (.areturn, 1) := by decide +kernel
theorem dX8_told_64 : decode cX8_told 64 = .ok (.new 271, 3) := by decide +kernel
theorem dX8_told_67 : decode cX8_told 67 = .ok (.dup, 1) := by decide +kernel
theorem dX8_told_68 : decode cX8_told 68 = .ok (.iload_n 0, 1) := by decide +kernel
theorem dX8_told_69 : decode cX8_told 69 = .ok (.iload_n 1, 1) := by decide +kernel
theorem dX8_told_70 : decode cX8_told 70 = .ok (.iload_n 2, 1) := by decide +kernel
theorem dX8_told_71 : decode cX8_told 71 = .ok (.iload_n 3, 1) := by decide +kernel
theorem dX8_told_72 : decode cX8_told 72 = .ok (.iload 4, 2) := by decide +kernel
theorem dX8_told_74 : decode cX8_told 74 = .ok (.invokespecial 273, 3) := by decide +kernel
theorem dX8_told_77 : decode cX8_told 77 = .ok (.areturn, 1) := by decide +kernel
theorem dX8_told_78 : decode cX8_told 78 = .ok (.new 274, 3) := by decide +kernel
theorem dX8_told_81 : decode cX8_told 81 = .ok (.dup, 1) := by decide +kernel
theorem dX8_told_82 : decode cX8_told 82 = .ok (.iload_n 0, 1) := by decide +kernel
theorem dX8_told_83 : decode cX8_told 83 = .ok (.iload_n 1, 1) := by decide +kernel
theorem dX8_told_84 : decode cX8_told 84 = .ok (.iload_n 2, 1) := by decide +kernel
theorem dX8_told_85 : decode cX8_told 85 = .ok (.iload_n 3, 1) := by decide +kernel
theorem dX8_told_86 : decode cX8_told 86 = .ok (.iload 4, 2) := by decide +kernel
theorem dX8_told_88 : decode cX8_told 88 = .ok (.invokespecial 276, 3) := by decide +kernel
theorem dX8_told_91 : decode cX8_told 91 = .ok (.areturn, 1) := by decide +kernel
theorem dX8_told_92 : decode cX8_told 92 = .ok (.new 277, 3) := by decide +kernel
theorem dX8_told_95 : decode cX8_told 95 = .ok (.dup, 1) := by decide +kernel
theorem dX8_told_96 : decode cX8_told 96 = .ok (.iload_n 0, 1) := by decide +kernel
theorem dX8_told_97 : decode cX8_told 97 = .ok (.iload_n 1, 1) := by decide +kernel
theorem dX8_told_98 : decode cX8_told 98 = .ok (.iload_n 2, 1) := by decide +kernel
theorem dX8_told_99 : decode cX8_told 99 = .ok (.iload_n 3, 1) := by decide +kernel
theorem dX8_told_100 : decode cX8_told 100 = .ok (.iload 4, 2) := by decide +kernel
theorem dX8_told_102 : decode cX8_told 102 = .ok (.invokespecial 279, 3) := by decide +kernel
theorem dX8_told_105 : decode cX8_told 105 = .ok (.areturn, 1) := by decide +kernel
theorem dX8_told_106 : decode cX8_told 106 = .ok (.new 122, 3) := by decide +kernel
theorem dX8_told_109 : decode cX8_told 109 = .ok (.dup, 1) := by decide +kernel
theorem dX8_told_110 : decode cX8_told 110 = .ok (.iload_n 0, 1) := by decide +kernel
theorem dX8_told_111 : decode cX8_told 111 = .ok (.iload_n 1, 1) := by decide +kernel
theorem dX8_told_112 : decode cX8_told 112 = .ok (.iload_n 2, 1) := by decide +kernel
theorem dX8_told_113 : decode cX8_told 113 = .ok (.iload_n 3, 1) := by decide +kernel
theorem dX8_told_114 : decode cX8_told 114 = .ok (.iload 4, 2) := by decide +kernel
theorem dX8_told_116 : decode cX8_told 116 = .ok (.invokespecial 280, 3) := by decide +kernel
theorem dX8_told_119 : decode cX8_told 119 = .ok (.areturn, 1) := by decide +kernel
theorem kX0_speaksIn : zCV yX0_speaksIn RX0 cX0_speaksIn 2 (some .boolean) 1 := ⟨q3_19, q3_20, q1_5, q3_29, rfl, by decide +kernel, by decide +kernel, by decide +kernel⟩
theorem kX0_end : zCV yX0_end RX0 cX0_end 1 (some .int) 0 := ⟨q2_214, q2_215, q1_5, q2_224, rfl, by decide +kernel, by decide +kernel, by decide +kernel⟩
theorem kX0_speaksTo : zCV yX0_speaksTo RX0 cX0_speaksTo 2 (some .boolean) 1 := ⟨q3_31, q3_32, q1_5, q3_43, rfl, by decide +kernel, by decide +kernel, by decide +kernel⟩
theorem kX0_allows : zCV yX0_allows RX0 cX0_allows 1 (some .boolean) 0 := ⟨q2_202, q2_203, q1_5, q2_212, rfl, by decide +kernel, by decide +kernel, by decide +kernel⟩
theorem kX0_init : zCI yX0_init cX0_init 6 5 := ⟨q1_177, q1_5, q1_178, rfl, by decide +kernel, by decide +kernel, by decide +kernel⟩
theorem kX2_init : zCI yX2_init cX2_init 6 5 := ⟨q1_174, q1_6, q1_175, rfl, by decide +kernel, by decide +kernel, by decide +kernel⟩
theorem kX5_init : zCI yX5_init cX5_init 6 5 := ⟨q1_215, q1_7, q1_216, rfl, by decide +kernel, by decide +kernel, by decide +kernel⟩
theorem kX3_init : zCI yX3_init cX3_init 6 5 := ⟨q1_227, q1_8, q1_228, rfl, by decide +kernel, by decide +kernel, by decide +kernel⟩
theorem kX1_init : zCI yX1_init cX1_init 6 5 := ⟨q1_239, q1_9, q2_0, rfl, by decide +kernel, by decide +kernel, by decide +kernel⟩
theorem kX7_init : zCI yX7_init cX7_init 6 5 := ⟨q2_11, q1_10, q2_12, rfl, by decide +kernel, by decide +kernel, by decide +kernel⟩
theorem kX8_told : zCS yX8_told cX8_told 5 (some (.object "BanLand$Ban")) 5 := ⟨q1_169, q1_1, q1_170, by decide +kernel, by decide +kernel, by decide +kernel⟩
set_option maxHeartbeats 4000000 in
set_option maxRecDepth 100000 in
theorem c_X0_speaksIn (l : Launch) (g : zG) (q : Nat) (k : Nat) (A : Int32) (F : Int32) (E : Int32) (W9 : Int32) (pl : Int32) (X : va_W) (hk : k ≤ 5) (hm : (q, bE k A F E W9) ∈ X) : Met l yX0_speaksIn (Cond.code yX0_speaksIn cX0_speaksIn 2 (some .boolean) :: TBL) { frames := 0, cells := 0, slots := 0, locals := 0 } (zPc [.ref q, .int pl] g (X)) (zQi g (fun r ws => r = bI true ∧ ws = X)) 0 0 (zA (gz g)) := by
  refine z_start (by decide +kernel) rfl (Nat.le_of_ble_eq_true rfl) ?_
  intro p e s m args below meth c ls hE hr hnm hB hl
  have hl : lv_has ls 2 [(0, .ref q), (1, .int pl)] := hl
  revert hB
  generalize s.heap = H
  generalize ([] : List Loc) = locs
  intro hB
  refine lv_iconst (v := nI 1) hE.x hE.b dX0_speaksIn_0 rfl ?_
  exact z_bret (b := true) (ws := X) hE hB hr (⟨rfl, rfl⟩) dX0_speaksIn_1

set_option maxHeartbeats 4000000 in
set_option maxRecDepth 100000 in
theorem c_X0_end (l : Launch) (g : zG) (q : Nat) (k : Nat) (A : Int32) (F : Int32) (E : Int32) (W9 : Int32) (X : va_W) (hk : k ≤ 5) (hm : (q, bE k A F E W9) ∈ X) : Met l yX0_end (Cond.code yX0_end cX0_end 1 (some .int) :: TBL) { frames := 0, cells := 0, slots := 0, locals := 0 } (zPc [.ref q] g (X)) (zQi g (fun r ws => r = E ∧ ws = X)) 0 0 (zA (gz g)) := by
  refine z_start (by decide +kernel) rfl (Nat.le_of_ble_eq_true rfl) ?_
  intro p e s m args below meth c ls hE hr hnm hB hl
  have hl : lv_has ls 1 [(0, .ref q)] := hl
  revert hB
  generalize s.heap = H
  generalize ([] : List Loc) = locs
  intro hB
  refine lv_aload_n hE.x hE.b dX0_end_0 rfl (lv_at hl 0 rfl) ?_
  refine z_getb (v := .int E) hE hB hk hm 3 (by decide) q1_191 (fun _ h9 => h9) rfl dX0_end_1 ?_
  exact z_iret (v := E) (ws := X) hE hB hr (⟨rfl, rfl⟩) dX0_end_4

set_option maxHeartbeats 4000000 in
set_option maxRecDepth 100000 in
theorem c_X0_speaksTo (l : Launch) (g : zG) (q : Nat) (k : Nat) (A : Int32) (F : Int32) (E : Int32) (W9 : Int32) (w : Nat) (X : va_W) (hk : k ≤ 5) (hm : (q, bE k A F E W9) ∈ X) : Met l yX0_speaksTo (Cond.code yX0_speaksTo cX0_speaksTo 2 (some .boolean) :: TBL) { frames := 0, cells := 0, slots := 0, locals := 0 } (zPc [.ref q, .int (nI w)] g (X)) (zQi g (fun r ws => r = bI true ∧ ws = X)) 0 0 (zA (gz g)) := by
  refine z_start (by decide +kernel) rfl (Nat.le_of_ble_eq_true rfl) ?_
  intro p e s m args below meth c ls hE hr hnm hB hl
  have hl : lv_has ls 2 [(0, .ref q), (1, .int (nI w))] := hl
  revert hB
  generalize s.heap = H
  generalize ([] : List Loc) = locs
  intro hB
  refine lv_iconst (v := nI 1) hE.x hE.b dX0_speaksTo_0 rfl ?_
  exact z_bret (b := true) (ws := X) hE hB hr (⟨rfl, rfl⟩) dX0_speaksTo_1

set_option maxHeartbeats 4000000 in
set_option maxRecDepth 100000 in
theorem c_X0_allows (l : Launch) (g : zG) (q : Nat) (k : Nat) (A : Int32) (F : Int32) (E : Int32) (W9 : Int32) (X : va_W) (hk : k ≤ 5) (hm : (q, bE k A F E W9) ∈ X) : Met l yX0_allows (Cond.code yX0_allows cX0_allows 1 (some .boolean) :: TBL) { frames := 0, cells := 0, slots := 0, locals := 0 } (zPc [.ref q] g (X)) (zQi g (fun r ws => r = bI false ∧ ws = X)) 0 0 (zA (gz g)) := by
  refine z_start (by decide +kernel) rfl (Nat.le_of_ble_eq_true rfl) ?_
  intro p e s m args below meth c ls hE hr hnm hB hl
  have hl : lv_has ls 1 [(0, .ref q)] := hl
  revert hB
  generalize s.heap = H
  generalize ([] : List Loc) = locs
  intro hB
  refine lv_iconst (v := nI 0) hE.x hE.b dX0_allows_0 rfl ?_
  exact z_bret (b := false) (ws := X) hE hB hr (⟨rfl, rfl⟩) dX0_allows_1

set_option maxHeartbeats 4000000 in
set_option maxRecDepth 100000 in
theorem c_X2_allows (l : Launch) (g : zG) (q : Nat) (k : Nat) (A : Int32) (F : Int32) (E : Int32) (W9 : Int32) (X : va_W) (hk : k ≤ 5) (hm : (q, bE k A F E W9) ∈ X) : Met l yX2_allows (Cond.code yX2_allows cX2_allows 1 (some .boolean) :: TBL) { frames := 0, cells := 0, slots := 0, locals := 0 } (zPc [.ref q] g (X)) (zQi g (fun r ws => r = bI true ∧ ws = X)) 0 0 (zA (gz g)) := by
  refine z_start (by decide +kernel) rfl (Nat.le_of_ble_eq_true rfl) ?_
  intro p e s m args below meth c ls hE hr hnm hB hl
  have hl : lv_has ls 1 [(0, .ref q)] := hl
  revert hB
  generalize s.heap = H
  generalize ([] : List Loc) = locs
  intro hB
  refine lv_iconst (v := nI 1) hE.x hE.b dX2_allows_0 rfl ?_
  exact z_bret (b := true) (ws := X) hE hB hr (⟨rfl, rfl⟩) dX2_allows_1

set_option maxHeartbeats 4000000 in
set_option maxRecDepth 100000 in
theorem c_X3_speaksIn (l : Launch) (g : zG) (q : Nat) (k : Nat) (A : Int32) (F : Int32) (E : Int32) (W9 : Int32) (pl : Int32) (X : va_W) (hk : k ≤ 5) (hm : (q, bE k A F E W9) ∈ X) : Met l yX3_speaksIn (Cond.code yX3_speaksIn cX3_speaksIn 2 (some .boolean) :: TBL) { frames := 0, cells := 0, slots := 0, locals := 0 } (zPc [.ref q, .int pl] g (X)) (zQi g (fun r ws => r = bI (decide (W9 = pl)) ∧ ws = X)) 0 0 (zA (gz g)) := by
  refine z_start (by decide +kernel) rfl (Nat.le_of_ble_eq_true rfl) ?_
  intro p e s m args below meth c ls hE hr hnm hB hl
  have hl : lv_has ls 2 [(0, .ref q), (1, .int pl)] := hl
  revert hB
  generalize s.heap = H
  generalize ([] : List Loc) = locs
  intro hB
  refine lv_iload_n hE.x hE.b dX3_speaksIn_0 rfl (lv_at hl 1 rfl) ?_
  refine lv_aload_n hE.x hE.b dX3_speaksIn_1 rfl (lv_at hl 0 rfl) ?_
  refine z_getb (v := .int W9) hE hB hk hm 4 (by decide) q1_197 (u_same (hE.t _ q1_198)) rfl dX3_speaksIn_2 ?_
  refine lv_icmp_ne (tgt := 12) hE.x hE.b dX3_speaksIn_5 (by decide) (fun c_1 => ?_) (fun c_1 => ?_)
  · refine lv_iconst (v := nI 0) hE.x hE.b dX3_speaksIn_12 rfl ?_
    exact z_bret (b := false) (ws := X) hE hB hr (⟨bI_decF (fun z => c_1 z.symm), rfl⟩) dX3_speaksIn_13
  · refine lv_iconst (v := nI 1) hE.x hE.b dX3_speaksIn_8 rfl ?_
    refine lv_goto (tgt := 13) hE.x hE.b dX3_speaksIn_9 (by decide) ?_
    exact z_bret (b := true) (ws := X) hE hB hr (⟨bI_decT c_1.symm, rfl⟩) dX3_speaksIn_13

set_option maxHeartbeats 4000000 in
set_option maxRecDepth 100000 in
theorem c_X5_end (l : Launch) (g : zG) (q : Nat) (k : Nat) (A : Int32) (F : Int32) (E : Int32) (W9 : Int32) (X : va_W) (hk : k ≤ 5) (hm : (q, bE k A F E W9) ∈ X) : Met l yX5_end (Cond.code yX5_end cX5_end 1 (some .int) :: TBL) { frames := 0, cells := 0, slots := 0, locals := 0 } (zPc [.ref q] g (X)) (zQi g (fun r ws => r = (F + (E - F + nI 1) / nI 2) ∧ ws = X)) 0 0 (zA (gz g)) := by
  refine z_start (by decide +kernel) rfl (Nat.le_of_ble_eq_true rfl) ?_
  intro p e s m args below meth c ls hE hr hnm hB hl
  have hl : lv_has ls 1 [(0, .ref q)] := hl
  revert hB
  generalize s.heap = H
  generalize ([] : List Loc) = locs
  intro hB
  refine lv_aload_n hE.x hE.b dX5_end_0 rfl (lv_at hl 0 rfl) ?_
  refine z_getb (v := .int F) hE hB hk hm 2 (by decide) q1_187 (u_same (hE.t _ q1_188)) rfl dX5_end_1 ?_
  refine lv_aload_n hE.x hE.b dX5_end_4 rfl (lv_at hl 0 rfl) ?_
  refine z_getb (v := .int E) hE hB hk hm 3 (by decide) q1_192 (u_same (hE.t _ q1_193)) rfl dX5_end_5 ?_
  refine lv_aload_n hE.x hE.b dX5_end_8 rfl (lv_at hl 0 rfl) ?_
  refine z_getb (v := .int F) hE hB hk hm 2 (by decide) q1_187 (u_same (hE.t _ q1_188)) rfl dX5_end_9 ?_
  refine lv_isub hE.x hE.b dX5_end_12 ?_
  refine lv_iconst (v := nI 1) hE.x hE.b dX5_end_13 rfl ?_
  refine lv_iadd hE.x hE.b dX5_end_14 ?_
  refine lv_iconst (v := nI 2) hE.x hE.b dX5_end_15 rfl ?_
  refine lv_idiv hE.x hE.b dX5_end_16 (by decide) ?_
  refine lv_iadd hE.x hE.b dX5_end_17 ?_
  exact z_iret (v := (F + (((E - F) + (nI 1)) / (nI 2)))) (ws := X) hE hB hr (⟨rfl, rfl⟩) dX5_end_18

set_option maxHeartbeats 4000000 in
set_option maxRecDepth 100000 in
theorem c_X1_speaksTo (l : Launch) (g : zG) (q : Nat) (k : Nat) (A : Int32) (F : Int32) (E : Int32) (W9 : Int32) (w : Nat) (X : va_W) (hk : k ≤ 5) (hm : (q, bE k A F E W9) ∈ X) (hw : w < 4) : Met l yX1_speaksTo (Cond.code yX1_speaksTo cX1_speaksTo 2 (some .boolean) :: TBL) { frames := 0, cells := 0, slots := 0, locals := 0 } (zPc [.ref q, .int (nI w)] g (X)) (zQi g (fun r ws => r = bI (spTo 4 w) ∧ ws = X)) 0 0 (zA (gz g)) := by
  refine z_start (by decide +kernel) rfl (Nat.le_of_ble_eq_true rfl) ?_
  intro p e s m args below meth c ls hE hr hnm hB hl
  have hl : lv_has ls 2 [(0, .ref q), (1, .int (nI w))] := hl
  revert hB
  generalize s.heap = H
  generalize ([] : List Loc) = locs
  intro hB
  refine lv_iload_n hE.x hE.b dX1_speaksTo_0 rfl (lv_at hl 1 rfl) ?_
  refine lv_iconst (v := nI 2) hE.x hE.b dX1_speaksTo_1 rfl ?_
  refine lv_iand hE.x hE.b dX1_speaksTo_2 ?_
  refine z_top (y := (nI (2 * (w / 2)))) (and2_nI w hw) ?_
  refine z_eq0 (tgt := 10) (X := (((2 * (w / 2)) : Nat) : Int)) hE dX1_speaksTo_3 (by decide) (nI_toInt (n := (2 * (w / 2))) (by omega)) (fun c_1 => ?_) (fun c_1 => ?_)
  · refine lv_iconst (v := nI 0) hE.x hE.b dX1_speaksTo_10 rfl ?_
    exact z_bret (b := false) (ws := X) hE hB hr (⟨by rw [spTo_4 w hw]; exact bI_decF (by omega), rfl⟩) dX1_speaksTo_11
  · refine lv_iconst (v := nI 1) hE.x hE.b dX1_speaksTo_6 rfl ?_
    refine lv_goto (tgt := 11) hE.x hE.b dX1_speaksTo_7 (by decide) ?_
    exact z_bret (b := true) (ws := X) hE hB hr (⟨by rw [spTo_4 w hw]; exact bI_decT (by omega), rfl⟩) dX1_speaksTo_11

set_option maxHeartbeats 4000000 in
set_option maxRecDepth 100000 in
theorem c_X7_speaksTo (l : Launch) (g : zG) (q : Nat) (k : Nat) (A : Int32) (F : Int32) (E : Int32) (W9 : Int32) (w : Nat) (X : va_W) (hk : k ≤ 5) (hm : (q, bE k A F E W9) ∈ X) (hw : w < 4) : Met l yX7_speaksTo (Cond.code yX7_speaksTo cX7_speaksTo 2 (some .boolean) :: TBL) { frames := 0, cells := 0, slots := 0, locals := 0 } (zPc [.ref q, .int (nI w)] g (X)) (zQi g (fun r ws => r = bI (spTo 5 w) ∧ ws = X)) 0 0 (zA (gz g)) := by
  refine z_start (by decide +kernel) rfl (Nat.le_of_ble_eq_true rfl) ?_
  intro p e s m args below meth c ls hE hr hnm hB hl
  have hl : lv_has ls 2 [(0, .ref q), (1, .int (nI w))] := hl
  revert hB
  generalize s.heap = H
  generalize ([] : List Loc) = locs
  intro hB
  refine lv_iload_n hE.x hE.b dX7_speaksTo_0 rfl (lv_at hl 1 rfl) ?_
  refine lv_iconst (v := nI 1) hE.x hE.b dX7_speaksTo_1 rfl ?_
  refine lv_iand hE.x hE.b dX7_speaksTo_2 ?_
  refine z_top (y := (nI (w % 2))) (and1_4 w hw) ?_
  refine z_eq0 (tgt := 10) (X := (((w % 2) : Nat) : Int)) hE dX7_speaksTo_3 (by decide) (nI_toInt (n := (w % 2)) (by omega)) (fun c_1 => ?_) (fun c_1 => ?_)
  · refine lv_iconst (v := nI 0) hE.x hE.b dX7_speaksTo_10 rfl ?_
    exact z_bret (b := false) (ws := X) hE hB hr (⟨by rw [spTo_5 w hw]; exact bI_decF (by omega), rfl⟩) dX7_speaksTo_11
  · refine lv_iconst (v := nI 1) hE.x hE.b dX7_speaksTo_6 rfl ?_
    refine lv_goto (tgt := 11) hE.x hE.b dX7_speaksTo_7 (by decide) ?_
    exact z_bret (b := true) (ws := X) hE hB hr (⟨by rw [spTo_5 w hw]; exact bI_decT (by omega), rfl⟩) dX7_speaksTo_11

set_option maxHeartbeats 4000000 in
set_option maxRecDepth 100000 in
theorem c_X0_init (l : Launch) (g : zG) (q : Nat) (k : Nat) (A : Int32) (F : Int32) (E : Int32) (W9 : Int32) (X : va_W) (hk : k ≤ 5) : Met l yX0_init (Cond.code yX0_init cX0_init 6 none :: TBL) { frames := 1, cells := 0, slots := 0, locals := 12 } (zPc [.ref q, .int (nI k), .int A, .int F, .int E, .int W9] g ([(q, .inr ((cix k), [.int 0, .int 0, .int 0, .int 0, .int 0]))] ++ X)) (zQv g (fun ws => ws = [(q, bE k A F E W9)] ++ X)) 0 0 (zA (gz g)) := by
  refine z_start (by decide +kernel) rfl (Nat.le_of_ble_eq_true rfl) ?_
  intro p e s m args below meth c ls hE hr hnm hB hl
  have hl : lv_has ls 6 [(0, .ref q), (1, .int (nI k)), (2, .int A), (3, .int F), (4, .int E), (5, .int W9)] := hl
  revert hB
  generalize s.heap = H
  generalize ([] : List Loc) = locs
  intro hB
  refine lv_aload_n hE.x hE.b dX0_init_0 rfl (lv_at hl 0 rfl) ?_
  refine W.objInit hE.x hE.b hE.o (hE.t _ q1_179) (hE.t _ q1_23) (hE.t _ q1_24) rfl (by rw [hE.ml]; exact hl.1) rfl dX0_init_1 (Nat.le_of_ble_eq_true rfl) (Nat.le_of_ble_eq_true rfl) ?_
  refine W.eq (g2 := F0 m 4 ls []) rfl ?_
  refine lv_aload_n hE.x hE.b dX0_init_4 rfl (lv_at hl 0 rfl) ?_
  refine lv_iload_n hE.x hE.b dX0_init_5 rfl (lv_at hl 1 rfl) ?_
  refine z_putb (v := (nI k)) (ws' := [(q, .inr ((cix k), [.int (nI k), .int 0, .int 0, .int 0, .int 0]))] ++ X) hE hB hk 0 rfl 0 (by decide) q1_180 hnm rfl (Nat.le_of_ble_eq_true rfl) rfl dX0_init_6 (fun H locs hB => ?_)
  refine lv_aload_n hE.x hE.b dX0_init_9 rfl (lv_at hl 0 rfl) ?_
  refine lv_iload_n hE.x hE.b dX0_init_10 rfl (lv_at hl 2 rfl) ?_
  refine z_putb (v := A) (ws' := [(q, .inr ((cix k), [.int (nI k), .int A, .int 0, .int 0, .int 0]))] ++ X) hE hB hk 0 rfl 1 (by decide) q1_183 hnm rfl (Nat.le_of_ble_eq_true rfl) rfl dX0_init_11 (fun H locs hB => ?_)
  refine lv_aload_n hE.x hE.b dX0_init_14 rfl (lv_at hl 0 rfl) ?_
  refine lv_iload_n hE.x hE.b dX0_init_15 rfl (lv_at hl 3 rfl) ?_
  refine z_putb (v := F) (ws' := [(q, .inr ((cix k), [.int (nI k), .int A, .int F, .int 0, .int 0]))] ++ X) hE hB hk 0 rfl 2 (by decide) q1_186 hnm rfl (Nat.le_of_ble_eq_true rfl) rfl dX0_init_16 (fun H locs hB => ?_)
  refine lv_aload_n hE.x hE.b dX0_init_19 rfl (lv_at hl 0 rfl) ?_
  refine lv_iload hE.x hE.b dX0_init_20 (lv_at hl 4 rfl) ?_
  refine z_putb (v := E) (ws' := [(q, .inr ((cix k), [.int (nI k), .int A, .int F, .int E, .int 0]))] ++ X) hE hB hk 0 rfl 3 (by decide) q1_191 hnm rfl (Nat.le_of_ble_eq_true rfl) rfl dX0_init_22 (fun H locs hB => ?_)
  refine lv_aload_n hE.x hE.b dX0_init_25 rfl (lv_at hl 0 rfl) ?_
  refine lv_iload hE.x hE.b dX0_init_26 (lv_at hl 5 rfl) ?_
  refine z_putb (v := W9) (ws' := [(q, .inr ((cix k), [.int (nI k), .int A, .int F, .int E, .int W9]))] ++ X) hE hB hk 0 rfl 4 (by decide) q1_196 hnm rfl (Nat.le_of_ble_eq_true rfl) rfl dX0_init_28 (fun H locs hB => ?_)
  exact z_vret (ws := [(q, .inr ((cix k), [.int (nI k), .int A, .int F, .int E, .int W9]))] ++ X) hE hB hr (rfl) dX0_init_31

set_option maxHeartbeats 4000000 in
set_option maxRecDepth 100000 in
theorem c_X2_init (l : Launch) (g : zG) (q : Nat) (k : Nat) (A : Int32) (F : Int32) (E : Int32) (W9 : Int32) (X : va_W) (hk : k ≤ 5) : Met l yX2_init (Cond.code yX2_init cX2_init 6 none :: TBL) { frames := 2, cells := 0, slots := 0, locals := 37 } (zPc [.ref q, .int (nI k), .int A, .int F, .int E, .int W9] g ([(q, .inr ((cix k), [.int 0, .int 0, .int 0, .int 0, .int 0]))] ++ X)) (zQv g (fun ws => ws = [(q, bE k A F E W9)] ++ X)) 0 0 (zA (gz g)) := by
  refine z_start (by decide +kernel) rfl (Nat.le_of_ble_eq_true rfl) ?_
  intro p e s m args below meth c ls hE hr hnm hB hl
  have hl : lv_has ls 6 [(0, .ref q), (1, .int (nI k)), (2, .int A), (3, .int F), (4, .int E), (5, .int W9)] := hl
  revert hB
  generalize s.heap = H
  generalize ([] : List Loc) = locs
  intro hB
  refine lv_aload_n hE.x hE.b dX2_init_0 rfl (lv_at hl 0 rfl) ?_
  refine lv_iload_n hE.x hE.b dX2_init_1 rfl (lv_at hl 1 rfl) ?_
  refine lv_iload_n hE.x hE.b dX2_init_2 rfl (lv_at hl 2 rfl) ?_
  refine lv_iload_n hE.x hE.b dX2_init_3 rfl (lv_at hl 3 rfl) ?_
  refine lv_iload hE.x hE.b dX2_init_4 (lv_at hl 4 rfl) ?_
  refine lv_iload hE.x hE.b dX2_init_6 (lv_at hl 5 rfl) ?_
  refine z_qv hB (z_cI hE hB (c_X0_init l g q k A F E W9 X hk) q1_176 kX0_init ⟨rfl, rfl⟩ ⟨Nat.le_of_ble_eq_true rfl, Nat.le_of_ble_eq_true rfl⟩ rfl hl.1 rfl (Nat.le_of_ble_eq_true rfl) dX2_init_8 ⟨Nat.le_of_ble_eq_true rfl, Nat.le_of_ble_eq_true rfl⟩) (fun w_2 H locs hw hB => ?_)
  have hw9 := hw
  have hw9 := hw9.symm
  subst hw9
  exact z_vret (ws := [(q, bE k A F E W9)] ++ X) hE hB hr (rfl) dX2_init_11

set_option maxHeartbeats 4000000 in
set_option maxRecDepth 100000 in
theorem c_X5_init (l : Launch) (g : zG) (q : Nat) (k : Nat) (A : Int32) (F : Int32) (E : Int32) (W9 : Int32) (X : va_W) (hk : k ≤ 5) : Met l yX5_init (Cond.code yX5_init cX5_init 6 none :: TBL) { frames := 2, cells := 0, slots := 0, locals := 37 } (zPc [.ref q, .int (nI k), .int A, .int F, .int E, .int W9] g ([(q, .inr ((cix k), [.int 0, .int 0, .int 0, .int 0, .int 0]))] ++ X)) (zQv g (fun ws => ws = [(q, bE k A F E W9)] ++ X)) 0 0 (zA (gz g)) := by
  refine z_start (by decide +kernel) rfl (Nat.le_of_ble_eq_true rfl) ?_
  intro p e s m args below meth c ls hE hr hnm hB hl
  have hl : lv_has ls 6 [(0, .ref q), (1, .int (nI k)), (2, .int A), (3, .int F), (4, .int E), (5, .int W9)] := hl
  revert hB
  generalize s.heap = H
  generalize ([] : List Loc) = locs
  intro hB
  refine lv_aload_n hE.x hE.b dX5_init_0 rfl (lv_at hl 0 rfl) ?_
  refine lv_iload_n hE.x hE.b dX5_init_1 rfl (lv_at hl 1 rfl) ?_
  refine lv_iload_n hE.x hE.b dX5_init_2 rfl (lv_at hl 2 rfl) ?_
  refine lv_iload_n hE.x hE.b dX5_init_3 rfl (lv_at hl 3 rfl) ?_
  refine lv_iload hE.x hE.b dX5_init_4 (lv_at hl 4 rfl) ?_
  refine lv_iload hE.x hE.b dX5_init_6 (lv_at hl 5 rfl) ?_
  refine z_qv hB (z_cI hE hB (c_X0_init l g q k A F E W9 X hk) q1_217 kX0_init ⟨rfl, rfl⟩ ⟨Nat.le_of_ble_eq_true rfl, Nat.le_of_ble_eq_true rfl⟩ rfl hl.1 rfl (Nat.le_of_ble_eq_true rfl) dX5_init_8 ⟨Nat.le_of_ble_eq_true rfl, Nat.le_of_ble_eq_true rfl⟩) (fun w_2 H locs hw hB => ?_)
  have hw9 := hw
  have hw9 := hw9.symm
  subst hw9
  exact z_vret (ws := [(q, bE k A F E W9)] ++ X) hE hB hr (rfl) dX5_init_11

set_option maxHeartbeats 4000000 in
set_option maxRecDepth 100000 in
theorem c_X3_init (l : Launch) (g : zG) (q : Nat) (k : Nat) (A : Int32) (F : Int32) (E : Int32) (W9 : Int32) (X : va_W) (hk : k ≤ 5) : Met l yX3_init (Cond.code yX3_init cX3_init 6 none :: TBL) { frames := 3, cells := 0, slots := 0, locals := 62 } (zPc [.ref q, .int (nI k), .int A, .int F, .int E, .int W9] g ([(q, .inr ((cix k), [.int 0, .int 0, .int 0, .int 0, .int 0]))] ++ X)) (zQv g (fun ws => ws = [(q, bE k A F E W9)] ++ X)) 0 0 (zA (gz g)) := by
  refine z_start (by decide +kernel) rfl (Nat.le_of_ble_eq_true rfl) ?_
  intro p e s m args below meth c ls hE hr hnm hB hl
  have hl : lv_has ls 6 [(0, .ref q), (1, .int (nI k)), (2, .int A), (3, .int F), (4, .int E), (5, .int W9)] := hl
  revert hB
  generalize s.heap = H
  generalize ([] : List Loc) = locs
  intro hB
  refine lv_aload_n hE.x hE.b dX3_init_0 rfl (lv_at hl 0 rfl) ?_
  refine lv_iload_n hE.x hE.b dX3_init_1 rfl (lv_at hl 1 rfl) ?_
  refine lv_iload_n hE.x hE.b dX3_init_2 rfl (lv_at hl 2 rfl) ?_
  refine lv_iload_n hE.x hE.b dX3_init_3 rfl (lv_at hl 3 rfl) ?_
  refine lv_iload hE.x hE.b dX3_init_4 (lv_at hl 4 rfl) ?_
  refine lv_iload hE.x hE.b dX3_init_6 (lv_at hl 5 rfl) ?_
  refine z_qv hB (z_cI hE hB (c_X2_init l g q k A F E W9 X hk) q1_229 kX2_init ⟨rfl, rfl⟩ ⟨Nat.le_of_ble_eq_true rfl, Nat.le_of_ble_eq_true rfl⟩ rfl hl.1 rfl (Nat.le_of_ble_eq_true rfl) dX3_init_8 ⟨Nat.le_of_ble_eq_true rfl, Nat.le_of_ble_eq_true rfl⟩) (fun w_2 H locs hw hB => ?_)
  have hw9 := hw
  have hw9 := hw9.symm
  subst hw9
  exact z_vret (ws := [(q, bE k A F E W9)] ++ X) hE hB hr (rfl) dX3_init_11

set_option maxHeartbeats 4000000 in
set_option maxRecDepth 100000 in
theorem c_X1_init (l : Launch) (g : zG) (q : Nat) (k : Nat) (A : Int32) (F : Int32) (E : Int32) (W9 : Int32) (X : va_W) (hk : k ≤ 5) : Met l yX1_init (Cond.code yX1_init cX1_init 6 none :: TBL) { frames := 3, cells := 0, slots := 0, locals := 62 } (zPc [.ref q, .int (nI k), .int A, .int F, .int E, .int W9] g ([(q, .inr ((cix k), [.int 0, .int 0, .int 0, .int 0, .int 0]))] ++ X)) (zQv g (fun ws => ws = [(q, bE k A F E W9)] ++ X)) 0 0 (zA (gz g)) := by
  refine z_start (by decide +kernel) rfl (Nat.le_of_ble_eq_true rfl) ?_
  intro p e s m args below meth c ls hE hr hnm hB hl
  have hl : lv_has ls 6 [(0, .ref q), (1, .int (nI k)), (2, .int A), (3, .int F), (4, .int E), (5, .int W9)] := hl
  revert hB
  generalize s.heap = H
  generalize ([] : List Loc) = locs
  intro hB
  refine lv_aload_n hE.x hE.b dX1_init_0 rfl (lv_at hl 0 rfl) ?_
  refine lv_iload_n hE.x hE.b dX1_init_1 rfl (lv_at hl 1 rfl) ?_
  refine lv_iload_n hE.x hE.b dX1_init_2 rfl (lv_at hl 2 rfl) ?_
  refine lv_iload_n hE.x hE.b dX1_init_3 rfl (lv_at hl 3 rfl) ?_
  refine lv_iload hE.x hE.b dX1_init_4 (lv_at hl 4 rfl) ?_
  refine lv_iload hE.x hE.b dX1_init_6 (lv_at hl 5 rfl) ?_
  refine z_qv hB (z_cI hE hB (c_X2_init l g q k A F E W9 X hk) q2_1 kX2_init ⟨rfl, rfl⟩ ⟨Nat.le_of_ble_eq_true rfl, Nat.le_of_ble_eq_true rfl⟩ rfl hl.1 rfl (Nat.le_of_ble_eq_true rfl) dX1_init_8 ⟨Nat.le_of_ble_eq_true rfl, Nat.le_of_ble_eq_true rfl⟩) (fun w_2 H locs hw hB => ?_)
  have hw9 := hw
  have hw9 := hw9.symm
  subst hw9
  exact z_vret (ws := [(q, bE k A F E W9)] ++ X) hE hB hr (rfl) dX1_init_11

set_option maxHeartbeats 4000000 in
set_option maxRecDepth 100000 in
theorem c_X7_init (l : Launch) (g : zG) (q : Nat) (k : Nat) (A : Int32) (F : Int32) (E : Int32) (W9 : Int32) (X : va_W) (hk : k ≤ 5) : Met l yX7_init (Cond.code yX7_init cX7_init 6 none :: TBL) { frames := 4, cells := 0, slots := 0, locals := 87 } (zPc [.ref q, .int (nI k), .int A, .int F, .int E, .int W9] g ([(q, .inr ((cix k), [.int 0, .int 0, .int 0, .int 0, .int 0]))] ++ X)) (zQv g (fun ws => ws = [(q, bE k A F E W9)] ++ X)) 0 0 (zA (gz g)) := by
  refine z_start (by decide +kernel) rfl (Nat.le_of_ble_eq_true rfl) ?_
  intro p e s m args below meth c ls hE hr hnm hB hl
  have hl : lv_has ls 6 [(0, .ref q), (1, .int (nI k)), (2, .int A), (3, .int F), (4, .int E), (5, .int W9)] := hl
  revert hB
  generalize s.heap = H
  generalize ([] : List Loc) = locs
  intro hB
  refine lv_aload_n hE.x hE.b dX7_init_0 rfl (lv_at hl 0 rfl) ?_
  refine lv_iload_n hE.x hE.b dX7_init_1 rfl (lv_at hl 1 rfl) ?_
  refine lv_iload_n hE.x hE.b dX7_init_2 rfl (lv_at hl 2 rfl) ?_
  refine lv_iload_n hE.x hE.b dX7_init_3 rfl (lv_at hl 3 rfl) ?_
  refine lv_iload hE.x hE.b dX7_init_4 (lv_at hl 4 rfl) ?_
  refine lv_iload hE.x hE.b dX7_init_6 (lv_at hl 5 rfl) ?_
  refine z_qv hB (z_cI hE hB (c_X3_init l g q k A F E W9 X hk) q2_13 kX3_init ⟨rfl, rfl⟩ ⟨Nat.le_of_ble_eq_true rfl, Nat.le_of_ble_eq_true rfl⟩ rfl hl.1 rfl (Nat.le_of_ble_eq_true rfl) dX7_init_8 ⟨Nat.le_of_ble_eq_true rfl, Nat.le_of_ble_eq_true rfl⟩) (fun w_2 H locs hw hB => ?_)
  have hw9 := hw
  have hw9 := hw9.symm
  subst hw9
  exact z_vret (ws := [(q, bE k A F E W9)] ++ X) hE hB hr (rfl) dX7_init_11

set_option maxHeartbeats 4000000 in
set_option maxRecDepth 100000 in
theorem c_X8_told_0 (l : Launch) (g : zG) (A : Int32) (F : Int32) (E : Int32) (W9 : Int32) (X : va_W)  : Met l yX8_told (Cond.code yX8_told cX8_told 5 (some (.object "BanLand$Ban")) :: TBL) { frames := 5, cells := 1, slots := 5, locals := 112 } (zPc [.int (nI 0), .int A, .int F, .int E, .int W9] g (X)) (zQq g (fun r ws => ∃ (q : Nat), r = some q ∧ ws = [(q, bE 0 A F E W9)] ++ X)) 1 5 (zA (gz g)) := by
  refine z_start (by decide +kernel) rfl (Nat.le_of_ble_eq_true rfl) ?_
  intro p e s m args below meth c ls hE hr hnm hB hl
  have hl : lv_has ls 5 [(0, .int (nI 0)), (1, .int A), (2, .int F), (3, .int E), (4, .int W9)] := hl
  revert hB
  generalize s.heap = H
  generalize ([] : List Loc) = locs
  intro hB
  refine lv_iload_n hE.x hE.b dX8_told_0 rfl (lv_at hl 0 rfl) ?_
  refine lv_tableOut (tgt := 106) hE.x hE.b dX8_told_1 (by decide) (by decide) ?_
  refine z_new (ci := 0) (fs := [.int 0, .int 0, .int 0, .int 0, .int 0]) hE hB inX0 tyX0 tyX0_ok q2_20 q2_21 q1_5 rfl (fun j hj => by (match j, hj with | 0, _ => rfl | 1, _ => rfl | 2, _ => rfl | 3, _ => rfl | 4, _ => rfl | n + 5, h => omega)) (Nat.le_of_ble_eq_true rfl) (Nat.le_of_ble_eq_true rfl) dX8_told_106 (fun q_1 H hB => ?_)
  refine lv_dup hE.x hE.b dX8_told_109 rfl ?_
  refine lv_iload_n hE.x hE.b dX8_told_110 rfl (lv_at hl 0 rfl) ?_
  refine lv_iload_n hE.x hE.b dX8_told_111 rfl (lv_at hl 1 rfl) ?_
  refine lv_iload_n hE.x hE.b dX8_told_112 rfl (lv_at hl 2 rfl) ?_
  refine lv_iload_n hE.x hE.b dX8_told_113 rfl (lv_at hl 3 rfl) ?_
  refine lv_iload hE.x hE.b dX8_told_114 (lv_at hl 4 rfl) ?_
  refine z_qv hB (z_cI hE hB (c_X0_init l g q_1 0 A F E W9 X (by decide)) q2_22 kX0_init ⟨rfl, rfl⟩ ⟨Nat.le_of_ble_eq_true rfl, Nat.le_of_ble_eq_true rfl⟩ rfl hl.1 rfl (Nat.le_of_ble_eq_true rfl) dX8_told_116 ⟨Nat.le_of_ble_eq_true rfl, Nat.le_of_ble_eq_true rfl⟩) (fun w_3 H locs hw hB => ?_)
  have hw9 := hw
  have hw9 := hw9.symm
  subst hw9
  exact z_qret (v := (some q_1)) (ws := [(q_1, bE 0 A F E W9)] ++ X) hE hB hr (Or.inl ⟨_, rfl⟩) (⟨q_1, rfl, rfl⟩) dX8_told_119

set_option maxHeartbeats 4000000 in
set_option maxRecDepth 100000 in
theorem c_X8_told_1 (l : Launch) (g : zG) (A : Int32) (F : Int32) (E : Int32) (W9 : Int32) (X : va_W)  : Met l yX8_told (Cond.code yX8_told cX8_told 5 (some (.object "BanLand$Ban")) :: TBL) { frames := 5, cells := 1, slots := 5, locals := 112 } (zPc [.int (nI 1), .int A, .int F, .int E, .int W9] g (X)) (zQq g (fun r ws => ∃ (q : Nat), r = some q ∧ ws = [(q, bE 1 A F E W9)] ++ X)) 1 5 (zA (gz g)) := by
  refine z_start (by decide +kernel) rfl (Nat.le_of_ble_eq_true rfl) ?_
  intro p e s m args below meth c ls hE hr hnm hB hl
  have hl : lv_has ls 5 [(0, .int (nI 1)), (1, .int A), (2, .int F), (3, .int E), (4, .int W9)] := hl
  revert hB
  generalize s.heap = H
  generalize ([] : List Loc) = locs
  intro hB
  refine lv_iload_n hE.x hE.b dX8_told_0 rfl (lv_at hl 0 rfl) ?_
  refine lv_tableIn (tgt := 36) hE.x hE.b dX8_told_1 (by decide) (by decide) rfl (by decide) ?_
  refine z_new (ci := 2) (fs := [.int 0, .int 0, .int 0, .int 0, .int 0]) hE hB inX2 tyX2 tyX2_ok q1_171 q1_172 q1_6 rfl (fun j hj => by (match j, hj with | 0, _ => rfl | 1, _ => rfl | 2, _ => rfl | 3, _ => rfl | 4, _ => rfl | n + 5, h => omega)) (Nat.le_of_ble_eq_true rfl) (Nat.le_of_ble_eq_true rfl) dX8_told_36 (fun q_1 H hB => ?_)
  refine lv_dup hE.x hE.b dX8_told_39 rfl ?_
  refine lv_iload_n hE.x hE.b dX8_told_40 rfl (lv_at hl 0 rfl) ?_
  refine lv_iload_n hE.x hE.b dX8_told_41 rfl (lv_at hl 1 rfl) ?_
  refine lv_iload_n hE.x hE.b dX8_told_42 rfl (lv_at hl 2 rfl) ?_
  refine lv_iload_n hE.x hE.b dX8_told_43 rfl (lv_at hl 3 rfl) ?_
  refine lv_iload hE.x hE.b dX8_told_44 (lv_at hl 4 rfl) ?_
  refine z_qv hB (z_cI hE hB (c_X2_init l g q_1 1 A F E W9 X (by decide)) q1_173 kX2_init ⟨rfl, rfl⟩ ⟨Nat.le_of_ble_eq_true rfl, Nat.le_of_ble_eq_true rfl⟩ rfl hl.1 rfl (Nat.le_of_ble_eq_true rfl) dX8_told_46 ⟨Nat.le_of_ble_eq_true rfl, Nat.le_of_ble_eq_true rfl⟩) (fun w_3 H locs hw hB => ?_)
  have hw9 := hw
  have hw9 := hw9.symm
  subst hw9
  exact z_qret (v := (some q_1)) (ws := [(q_1, bE 1 A F E W9)] ++ X) hE hB hr (Or.inl ⟨_, rfl⟩) (⟨q_1, rfl, rfl⟩) dX8_told_49

set_option maxHeartbeats 4000000 in
set_option maxRecDepth 100000 in
theorem c_X8_told_2 (l : Launch) (g : zG) (A : Int32) (F : Int32) (E : Int32) (W9 : Int32) (X : va_W)  : Met l yX8_told (Cond.code yX8_told cX8_told 5 (some (.object "BanLand$Ban")) :: TBL) { frames := 5, cells := 1, slots := 5, locals := 112 } (zPc [.int (nI 2), .int A, .int F, .int E, .int W9] g (X)) (zQq g (fun r ws => ∃ (q : Nat), r = some q ∧ ws = [(q, bE 2 A F E W9)] ++ X)) 1 5 (zA (gz g)) := by
  refine z_start (by decide +kernel) rfl (Nat.le_of_ble_eq_true rfl) ?_
  intro p e s m args below meth c ls hE hr hnm hB hl
  have hl : lv_has ls 5 [(0, .int (nI 2)), (1, .int A), (2, .int F), (3, .int E), (4, .int W9)] := hl
  revert hB
  generalize s.heap = H
  generalize ([] : List Loc) = locs
  intro hB
  refine lv_iload_n hE.x hE.b dX8_told_0 rfl (lv_at hl 0 rfl) ?_
  refine lv_tableIn (tgt := 50) hE.x hE.b dX8_told_1 (by decide) (by decide) rfl (by decide) ?_
  refine z_new (ci := 5) (fs := [.int 0, .int 0, .int 0, .int 0, .int 0]) hE hB inX5 tyX5 tyX5_ok q1_212 q1_213 q1_7 rfl (fun j hj => by (match j, hj with | 0, _ => rfl | 1, _ => rfl | 2, _ => rfl | 3, _ => rfl | 4, _ => rfl | n + 5, h => omega)) (Nat.le_of_ble_eq_true rfl) (Nat.le_of_ble_eq_true rfl) dX8_told_50 (fun q_1 H hB => ?_)
  refine lv_dup hE.x hE.b dX8_told_53 rfl ?_
  refine lv_iload_n hE.x hE.b dX8_told_54 rfl (lv_at hl 0 rfl) ?_
  refine lv_iload_n hE.x hE.b dX8_told_55 rfl (lv_at hl 1 rfl) ?_
  refine lv_iload_n hE.x hE.b dX8_told_56 rfl (lv_at hl 2 rfl) ?_
  refine lv_iload_n hE.x hE.b dX8_told_57 rfl (lv_at hl 3 rfl) ?_
  refine lv_iload hE.x hE.b dX8_told_58 (lv_at hl 4 rfl) ?_
  refine z_qv hB (z_cI hE hB (c_X5_init l g q_1 2 A F E W9 X (by decide)) q1_214 kX5_init ⟨rfl, rfl⟩ ⟨Nat.le_of_ble_eq_true rfl, Nat.le_of_ble_eq_true rfl⟩ rfl hl.1 rfl (Nat.le_of_ble_eq_true rfl) dX8_told_60 ⟨Nat.le_of_ble_eq_true rfl, Nat.le_of_ble_eq_true rfl⟩) (fun w_3 H locs hw hB => ?_)
  have hw9 := hw
  have hw9 := hw9.symm
  subst hw9
  exact z_qret (v := (some q_1)) (ws := [(q_1, bE 2 A F E W9)] ++ X) hE hB hr (Or.inl ⟨_, rfl⟩) (⟨q_1, rfl, rfl⟩) dX8_told_63

set_option maxHeartbeats 4000000 in
set_option maxRecDepth 100000 in
theorem c_X8_told_3 (l : Launch) (g : zG) (A : Int32) (F : Int32) (E : Int32) (W9 : Int32) (X : va_W)  : Met l yX8_told (Cond.code yX8_told cX8_told 5 (some (.object "BanLand$Ban")) :: TBL) { frames := 5, cells := 1, slots := 5, locals := 112 } (zPc [.int (nI 3), .int A, .int F, .int E, .int W9] g (X)) (zQq g (fun r ws => ∃ (q : Nat), r = some q ∧ ws = [(q, bE 3 A F E W9)] ++ X)) 1 5 (zA (gz g)) := by
  refine z_start (by decide +kernel) rfl (Nat.le_of_ble_eq_true rfl) ?_
  intro p e s m args below meth c ls hE hr hnm hB hl
  have hl : lv_has ls 5 [(0, .int (nI 3)), (1, .int A), (2, .int F), (3, .int E), (4, .int W9)] := hl
  revert hB
  generalize s.heap = H
  generalize ([] : List Loc) = locs
  intro hB
  refine lv_iload_n hE.x hE.b dX8_told_0 rfl (lv_at hl 0 rfl) ?_
  refine lv_tableIn (tgt := 64) hE.x hE.b dX8_told_1 (by decide) (by decide) rfl (by decide) ?_
  refine z_new (ci := 3) (fs := [.int 0, .int 0, .int 0, .int 0, .int 0]) hE hB inX3 tyX3 tyX3_ok q1_224 q1_225 q1_8 rfl (fun j hj => by (match j, hj with | 0, _ => rfl | 1, _ => rfl | 2, _ => rfl | 3, _ => rfl | 4, _ => rfl | n + 5, h => omega)) (Nat.le_of_ble_eq_true rfl) (Nat.le_of_ble_eq_true rfl) dX8_told_64 (fun q_1 H hB => ?_)
  refine lv_dup hE.x hE.b dX8_told_67 rfl ?_
  refine lv_iload_n hE.x hE.b dX8_told_68 rfl (lv_at hl 0 rfl) ?_
  refine lv_iload_n hE.x hE.b dX8_told_69 rfl (lv_at hl 1 rfl) ?_
  refine lv_iload_n hE.x hE.b dX8_told_70 rfl (lv_at hl 2 rfl) ?_
  refine lv_iload_n hE.x hE.b dX8_told_71 rfl (lv_at hl 3 rfl) ?_
  refine lv_iload hE.x hE.b dX8_told_72 (lv_at hl 4 rfl) ?_
  refine z_qv hB (z_cI hE hB (c_X3_init l g q_1 3 A F E W9 X (by decide)) q1_226 kX3_init ⟨rfl, rfl⟩ ⟨Nat.le_of_ble_eq_true rfl, Nat.le_of_ble_eq_true rfl⟩ rfl hl.1 rfl (Nat.le_of_ble_eq_true rfl) dX8_told_74 ⟨Nat.le_of_ble_eq_true rfl, Nat.le_of_ble_eq_true rfl⟩) (fun w_3 H locs hw hB => ?_)
  have hw9 := hw
  have hw9 := hw9.symm
  subst hw9
  exact z_qret (v := (some q_1)) (ws := [(q_1, bE 3 A F E W9)] ++ X) hE hB hr (Or.inl ⟨_, rfl⟩) (⟨q_1, rfl, rfl⟩) dX8_told_77

set_option maxHeartbeats 4000000 in
set_option maxRecDepth 100000 in
theorem c_X8_told_4 (l : Launch) (g : zG) (A : Int32) (F : Int32) (E : Int32) (W9 : Int32) (X : va_W)  : Met l yX8_told (Cond.code yX8_told cX8_told 5 (some (.object "BanLand$Ban")) :: TBL) { frames := 5, cells := 1, slots := 5, locals := 112 } (zPc [.int (nI 4), .int A, .int F, .int E, .int W9] g (X)) (zQq g (fun r ws => ∃ (q : Nat), r = some q ∧ ws = [(q, bE 4 A F E W9)] ++ X)) 1 5 (zA (gz g)) := by
  refine z_start (by decide +kernel) rfl (Nat.le_of_ble_eq_true rfl) ?_
  intro p e s m args below meth c ls hE hr hnm hB hl
  have hl : lv_has ls 5 [(0, .int (nI 4)), (1, .int A), (2, .int F), (3, .int E), (4, .int W9)] := hl
  revert hB
  generalize s.heap = H
  generalize ([] : List Loc) = locs
  intro hB
  refine lv_iload_n hE.x hE.b dX8_told_0 rfl (lv_at hl 0 rfl) ?_
  refine lv_tableIn (tgt := 78) hE.x hE.b dX8_told_1 (by decide) (by decide) rfl (by decide) ?_
  refine z_new (ci := 1) (fs := [.int 0, .int 0, .int 0, .int 0, .int 0]) hE hB inX1 tyX1 tyX1_ok q1_236 q1_237 q1_9 rfl (fun j hj => by (match j, hj with | 0, _ => rfl | 1, _ => rfl | 2, _ => rfl | 3, _ => rfl | 4, _ => rfl | n + 5, h => omega)) (Nat.le_of_ble_eq_true rfl) (Nat.le_of_ble_eq_true rfl) dX8_told_78 (fun q_1 H hB => ?_)
  refine lv_dup hE.x hE.b dX8_told_81 rfl ?_
  refine lv_iload_n hE.x hE.b dX8_told_82 rfl (lv_at hl 0 rfl) ?_
  refine lv_iload_n hE.x hE.b dX8_told_83 rfl (lv_at hl 1 rfl) ?_
  refine lv_iload_n hE.x hE.b dX8_told_84 rfl (lv_at hl 2 rfl) ?_
  refine lv_iload_n hE.x hE.b dX8_told_85 rfl (lv_at hl 3 rfl) ?_
  refine lv_iload hE.x hE.b dX8_told_86 (lv_at hl 4 rfl) ?_
  refine z_qv hB (z_cI hE hB (c_X1_init l g q_1 4 A F E W9 X (by decide)) q1_238 kX1_init ⟨rfl, rfl⟩ ⟨Nat.le_of_ble_eq_true rfl, Nat.le_of_ble_eq_true rfl⟩ rfl hl.1 rfl (Nat.le_of_ble_eq_true rfl) dX8_told_88 ⟨Nat.le_of_ble_eq_true rfl, Nat.le_of_ble_eq_true rfl⟩) (fun w_3 H locs hw hB => ?_)
  have hw9 := hw
  have hw9 := hw9.symm
  subst hw9
  exact z_qret (v := (some q_1)) (ws := [(q_1, bE 4 A F E W9)] ++ X) hE hB hr (Or.inl ⟨_, rfl⟩) (⟨q_1, rfl, rfl⟩) dX8_told_91

set_option maxHeartbeats 4000000 in
set_option maxRecDepth 100000 in
theorem c_X8_told_5 (l : Launch) (g : zG) (A : Int32) (F : Int32) (E : Int32) (W9 : Int32) (X : va_W)  : Met l yX8_told (Cond.code yX8_told cX8_told 5 (some (.object "BanLand$Ban")) :: TBL) { frames := 5, cells := 1, slots := 5, locals := 112 } (zPc [.int (nI 5), .int A, .int F, .int E, .int W9] g (X)) (zQq g (fun r ws => ∃ (q : Nat), r = some q ∧ ws = [(q, bE 5 A F E W9)] ++ X)) 1 5 (zA (gz g)) := by
  refine z_start (by decide +kernel) rfl (Nat.le_of_ble_eq_true rfl) ?_
  intro p e s m args below meth c ls hE hr hnm hB hl
  have hl : lv_has ls 5 [(0, .int (nI 5)), (1, .int A), (2, .int F), (3, .int E), (4, .int W9)] := hl
  revert hB
  generalize s.heap = H
  generalize ([] : List Loc) = locs
  intro hB
  refine lv_iload_n hE.x hE.b dX8_told_0 rfl (lv_at hl 0 rfl) ?_
  refine lv_tableIn (tgt := 92) hE.x hE.b dX8_told_1 (by decide) (by decide) rfl (by decide) ?_
  refine z_new (ci := 7) (fs := [.int 0, .int 0, .int 0, .int 0, .int 0]) hE hB inX7 tyX7 tyX7_ok q2_8 q2_9 q1_10 rfl (fun j hj => by (match j, hj with | 0, _ => rfl | 1, _ => rfl | 2, _ => rfl | 3, _ => rfl | 4, _ => rfl | n + 5, h => omega)) (Nat.le_of_ble_eq_true rfl) (Nat.le_of_ble_eq_true rfl) dX8_told_92 (fun q_1 H hB => ?_)
  refine lv_dup hE.x hE.b dX8_told_95 rfl ?_
  refine lv_iload_n hE.x hE.b dX8_told_96 rfl (lv_at hl 0 rfl) ?_
  refine lv_iload_n hE.x hE.b dX8_told_97 rfl (lv_at hl 1 rfl) ?_
  refine lv_iload_n hE.x hE.b dX8_told_98 rfl (lv_at hl 2 rfl) ?_
  refine lv_iload_n hE.x hE.b dX8_told_99 rfl (lv_at hl 3 rfl) ?_
  refine lv_iload hE.x hE.b dX8_told_100 (lv_at hl 4 rfl) ?_
  refine z_qv hB (z_cI hE hB (c_X7_init l g q_1 5 A F E W9 X (by decide)) q2_10 kX7_init ⟨rfl, rfl⟩ ⟨Nat.le_of_ble_eq_true rfl, Nat.le_of_ble_eq_true rfl⟩ rfl hl.1 rfl (Nat.le_of_ble_eq_true rfl) dX8_told_102 ⟨Nat.le_of_ble_eq_true rfl, Nat.le_of_ble_eq_true rfl⟩) (fun w_3 H locs hw hB => ?_)
  have hw9 := hw
  have hw9 := hw9.symm
  subst hw9
  exact z_qret (v := (some q_1)) (ws := [(q_1, bE 5 A F E W9)] ++ X) hE hB hr (Or.inl ⟨_, rfl⟩) (⟨q_1, rfl, rfl⟩) dX8_told_105

theorem c_X8_told (l : Launch) (g : zG) (k : Nat) (A : Int32) (F : Int32) (E : Int32) (W9 : Int32) (X : va_W) (hk : k ≤ 5) : Met l yX8_told (Cond.code yX8_told cX8_told 5 (some (.object "BanLand$Ban")) :: TBL) { frames := 5, cells := 1, slots := 5, locals := 112 } (zPc [.int (nI k), .int A, .int F, .int E, .int W9] g (X)) (zQq g (fun r ws => ∃ (q : Nat), r = some q ∧ ws = [(q, bE k A F E W9)] ++ X)) 1 5 (zA (gz g)) := by
  have h9 : k = 0 ∨ k = 1 ∨ k = 2 ∨ k = 3 ∨ k = 4 ∨ k = 5 := by omega
  clear hk
  rcases h9 with h9 | h9 | h9 | h9 | h9 | h9
  · rw [h9]; exact c_X8_told_0 l g A F E W9 X
  · rw [h9]; exact c_X8_told_1 l g A F E W9 X
  · rw [h9]; exact c_X8_told_2 l g A F E W9 X
  · rw [h9]; exact c_X8_told_3 l g A F E W9 X
  · rw [h9]; exact c_X8_told_4 l g A F E W9 X
  · rw [h9]; exact c_X8_told_5 l g A F E W9 X
