theorem dJ0_coder_7d493_0 : decode cJ0_coder_7d493 0 = .ok (.getstatic 38, 3) := by decide +kernel
theorem dJ0_coder_7d493_3 : decode cJ0_coder_7d493 3 = .ok (.ifCond .eq 10, 3) := by decide +kernel
theorem dJ0_coder_7d493_6 : decode cJ0_coder_7d493 6 = .ok (.aload_n 0, 1) := by decide +kernel
theorem dJ0_coder_7d493_7 : decode cJ0_coder_7d493 7 = .ok (.getfield 15, 3) := by decide +kernel
theorem dJ0_coder_7d493_10 : decode cJ0_coder_7d493 10 = .ok (.goto 4, 3) := by decide +kernel
theorem dJ0_coder_7d493_13 : decode cJ0_coder_7d493 13 = .ok (.iconst 1, 1) := by decide +kernel
theorem dJ0_coder_7d493_14 : decode cJ0_coder_7d493 14 = .ok (.ireturn, 1) := by decide +kernel
theorem dJ0_isLatin1_aae02_0 : decode cJ0_isLatin1_aae02 0 = .ok (.getstatic 38, 3) := by decide +kernel
theorem dJ0_isLatin1_aae02_3 : decode cJ0_isLatin1_aae02 3 = .ok (.ifCond .eq 14, 3) := by decide +kernel
theorem dJ0_isLatin1_aae02_6 : decode cJ0_isLatin1_aae02 6 = .ok (.aload_n 0, 1) := by decide +kernel
theorem dJ0_isLatin1_aae02_7 : decode cJ0_isLatin1_aae02 7 = .ok (.getfield 15, 3) := by decide +kernel
theorem dJ0_isLatin1_aae02_10 : decode cJ0_isLatin1_aae02 10 = .ok (.ifCond .ne 7, 3) := by decide +kernel
theorem dJ0_isLatin1_aae02_13 : decode cJ0_isLatin1_aae02 13 = .ok (.iconst 1, 1) := by decide +kernel
theorem dJ0_isLatin1_aae02_14 : decode cJ0_isLatin1_aae02 14 = .ok (.goto 4, 3) := by decide +kernel
theorem dJ0_isLatin1_aae02_17 : decode cJ0_isLatin1_aae02 17 = .ok (.iconst 0, 1) := by decide +kernel
theorem dJ0_isLatin1_aae02_18 : decode cJ0_isLatin1_aae02 18 = .ok (.ireturn, 1) := by decide +kernel
theorem dJ0_length_8abf5_0 : decode cJ0_length_8abf5 0 = .ok (.aload_n 0, 1) := by decide +kernel
theorem dJ0_length_8abf5_1 : decode cJ0_length_8abf5 1 = .ok (.getfield 9, 3) := by decide +kernel
theorem dJ0_length_8abf5_4 : decode cJ0_length_8abf5 4 = .ok (.arraylength, 1) := by decide +kernel
theorem dJ0_length_8abf5_5 : decode cJ0_length_8abf5 5 = .ok (.aload_n 0, 1) := by decide +kernel
theorem dJ0_length_8abf5_6 : decode cJ0_length_8abf5 6 = .ok (.invokevirtual 335, 3) := by decide +kernel
theorem dJ0_length_8abf5_9 : decode cJ0_length_8abf5 9 = .ok (.ishr, 1) := by decide +kernel
theorem dJ0_length_8abf5_10 : decode cJ0_length_8abf5 10 = .ok (.ireturn, 1) := by decide +kernel
theorem dJ3_checkIndex_8e157_0 : decode cJ3_checkIndex_8e157 0 = .ok (.iload_n 0, 1) := by decide +kernel
theorem dJ3_checkIndex_8e157_1 : decode cJ3_checkIndex_8e157 1 = .ok (.ifCond .lt 8, 3) := by decide +kernel
theorem dJ3_checkIndex_8e157_4 : decode cJ3_checkIndex_8e157 4 = .ok (.iload_n 0, 1) := by decide +kernel
theorem dJ3_checkIndex_8e157_5 : decode cJ3_checkIndex_8e157 5 = .ok (.iload_n 1, 1) := by decide +kernel
theorem dJ3_checkIndex_8e157_6 : decode cJ3_checkIndex_8e157 6 = .ok (.if_icmp .lt 10, 3) := by decide +kernel
theorem dJ3_checkIndex_8e157_9 : decode cJ3_checkIndex_8e157 9 = .ok (.aload_n 2, 1) := by decide +kernel
theorem dJ3_checkIndex_8e157_10 : decode cJ3_checkIndex_8e157 10 = .ok (.iload_n 0, 1) := by decide +kernel
theorem dJ3_checkIndex_8e157_11 : decode cJ3_checkIndex_8e157 11 = .ok (.iload_n 1, 1) := by decide +kernel
theorem dJ3_checkIndex_8e157_12 : decode cJ3_checkIndex_8e157 12 = .ok (.invokestatic 95, 3) := by decide +kernel
theorem dJ3_checkIndex_8e157_15 : decode cJ3_checkIndex_8e157 15 = .ok (.athrow, 1) := by decide +kernel
theorem dJ3_checkIndex_8e157_16 : decode cJ3_checkIndex_8e157 16 = .ok (.iload_n 0, 1) := by decide +kernel
theorem dJ3_checkIndex_8e157_17 : decode cJ3_checkIndex_8e157 17 = .ok (.ireturn, 1) := by decide +kernel
theorem dJ0_checkIndex_df160_0 : decode cJ0_checkIndex_df160 0 = .ok (.iload_n 0, 1) := by decide +kernel
theorem dJ0_checkIndex_df160_1 : decode cJ0_checkIndex_df160 1 = .ok (.iload_n 1, 1) := by decide +kernel
theorem dJ0_checkIndex_df160_2 : decode cJ0_checkIndex_df160 2 = .ok (.getstatic 1053, 3) := by decide +kernel
theorem dJ0_checkIndex_df160_5 : decode cJ0_checkIndex_df160 5 = .ok (.invokestatic 1059, 3) := by decide +kernel
theorem dJ0_checkIndex_df160_8 : decode cJ0_checkIndex_df160 8 = .ok (.pop, 1) := by decide +kernel
theorem dJ0_checkIndex_df160_9 : decode cJ0_checkIndex_df160 9 = .ok (.return_, 1) := by decide +kernel
theorem dJ1_charAt_3b067_0 : decode cJ1_charAt_3b067 0 = .ok (.iload_n 1, 1) := by decide +kernel
theorem dJ1_charAt_3b067_1 : decode cJ1_charAt_3b067 1 = .ok (.aload_n 0, 1) := by decide +kernel
theorem dJ1_charAt_3b067_2 : decode cJ1_charAt_3b067 2 = .ok (.arraylength, 1) := by decide +kernel
theorem dJ1_charAt_3b067_3 : decode cJ1_charAt_3b067 3 = .ok (.invokestatic 9, 3) := by decide +kernel
theorem dJ1_charAt_3b067_6 : decode cJ1_charAt_3b067 6 = .ok (.aload_n 0, 1) := by decide +kernel
theorem dJ1_charAt_3b067_7 : decode cJ1_charAt_3b067 7 = .ok (.iload_n 1, 1) := by decide +kernel
theorem dJ1_charAt_3b067_8 : decode cJ1_charAt_3b067 8 = .ok (.baload, 1) := by decide +kernel
theorem dJ1_charAt_3b067_9 : decode cJ1_charAt_3b067 9 = .ok (.sipush 255, 3) := by decide +kernel
theorem dJ1_charAt_3b067_12 : decode cJ1_charAt_3b067 12 = .ok (.iand, 1) := by decide +kernel
theorem dJ1_charAt_3b067_13 : decode cJ1_charAt_3b067 13 = .ok (.i2c, 1) := by decide +kernel
theorem dJ1_charAt_3b067_14 : decode cJ1_charAt_3b067 14 = .ok (.ireturn, 1) := by decide +kernel
theorem dJ0_charAt_5068e_0 : decode cJ0_charAt_5068e 0 = .ok (.aload_n 0, 1) := by decide +kernel
theorem dJ0_charAt_5068e_1 : decode cJ0_charAt_5068e 1 = .ok (.invokevirtual 492, 3) := by decide +kernel
theorem dJ0_charAt_5068e_4 : decode cJ0_charAt_5068e 4 = .ok (.ifCond .eq 12, 3) := by decide +kernel
theorem dJ0_charAt_5068e_7 : decode cJ0_charAt_5068e 7 = .ok (.aload_n 0, 1) := by decide +kernel
theorem dJ0_charAt_5068e_8 : decode cJ0_charAt_5068e 8 = .ok (.getfield 9, 3) := by decide +kernel
theorem dJ0_charAt_5068e_11 : decode cJ0_charAt_5068e 11 = .ok (.iload_n 1, 1) := by decide +kernel
theorem dJ0_charAt_5068e_12 : decode cJ0_charAt_5068e 12 = .ok (.invokestatic 495, 3) := by decide +kernel
theorem dJ0_charAt_5068e_15 : decode cJ0_charAt_5068e 15 = .ok (.ireturn, 1) := by decide +kernel
theorem dJ0_charAt_5068e_16 : decode cJ0_charAt_5068e 16 = .ok (.aload_n 0, 1) := by decide +kernel
theorem dJ0_charAt_5068e_17 : decode cJ0_charAt_5068e 17 = .ok (.getfield 9, 3) := by decide +kernel
theorem dJ0_charAt_5068e_20 : decode cJ0_charAt_5068e 20 = .ok (.iload_n 1, 1) := by decide +kernel
theorem dJ0_charAt_5068e_21 : decode cJ0_charAt_5068e 21 = .ok (.invokestatic 498, 3) := by decide +kernel
theorem dJ0_charAt_5068e_24 : decode cJ0_charAt_5068e 24 = .ok (.ireturn, 1) := by decide +kernel
theorem dX6_isLetter_0 : decode cX6_isLetter 0 = .ok (.iload_n 0, 1) := by decide +kernel
theorem dX6_isLetter_1 : decode cX6_isLetter 1 = .ok (.bipush 97, 2) := by decide +kernel
theorem dX6_isLetter_3 : decode cX6_isLetter 3 = .ok (.if_icmp .lt 13, 3) := by decide +kernel
theorem dX6_isLetter_6 : decode cX6_isLetter 6 = .ok (.iload_n 0, 1) := by decide +kernel
theorem dX6_isLetter_7 : decode cX6_isLetter 7 = .ok (.bipush 122, 2) := by decide +kernel
theorem dX6_isLetter_9 : decode cX6_isLetter 9 = .ok (.if_icmp .gt 7, 3) := by decide +kernel
theorem dX6_isLetter_12 : decode cX6_isLetter 12 = .ok (.iconst 1, 1) := by decide +kernel
theorem dX6_isLetter_13 : decode cX6_isLetter 13 = .ok (.goto 4, 3) := by decide +kernel
theorem dX6_isLetter_16 : decode cX6_isLetter 16 = .ok (.iconst 0, 1) := by decide +kernel
theorem dX6_isLetter_17 : decode cX6_isLetter 17 = .ok (.ireturn, 1) := by decide +kernel
theorem dX6_isFigure_0 : decode cX6_isFigure 0 = .ok (.iload_n 0, 1) := by decide +kernel
theorem dX6_isFigure_1 : decode cX6_isFigure 1 = .ok (.bipush 48, 2) := by decide +kernel
theorem dX6_isFigure_3 : decode cX6_isFigure 3 = .ok (.if_icmp .lt 13, 3) := by decide +kernel
theorem dX6_isFigure_6 : decode cX6_isFigure 6 = .ok (.iload_n 0, 1) := by decide +kernel
theorem dX6_isFigure_7 : decode cX6_isFigure 7 = .ok (.bipush 57, 2) := by decide +kernel
theorem dX6_isFigure_9 : decode cX6_isFigure 9 = .ok (.if_icmp .gt 7, 3) := by decide +kernel
theorem dX6_isFigure_12 : decode cX6_isFigure 12 = .ok (.iconst 1, 1) := by decide +kernel
theorem dX6_isFigure_13 : decode cX6_isFigure 13 = .ok (.goto 4, 3) := by decide +kernel
theorem dX6_isFigure_16 : decode cX6_isFigure 16 = .ok (.iconst 0, 1) := by decide +kernel
theorem dX6_isFigure_17 : decode cX6_isFigure 17 = .ok (.ireturn, 1) := by decide +kernel
theorem kJ0_coder_7d493 : zCV yJ0_coder_7d493 RJ0 cJ0_coder_7d493 1 (some .byte) 0 := ⟨q2_118, q2_119, q1_12, q2_120, rfl, by decide +kernel, by decide +kernel, by decide +kernel⟩
theorem kJ0_isLatin1_aae02 : zCV yJ0_isLatin1_aae02 RJ0 cJ0_isLatin1_aae02 1 (some .boolean) 0 := ⟨q2_128, q2_129, q1_12, q2_130, rfl, by decide +kernel, by decide +kernel, by decide +kernel⟩
theorem kJ0_length_8abf5 : zCV yJ0_length_8abf5 RJ0 cJ0_length_8abf5 1 (some .int) 0 := ⟨q2_114, q2_115, q1_12, q2_116, rfl, by decide +kernel, by decide +kernel, by decide +kernel⟩
theorem kJ3_checkIndex_8e157 : zCS yJ3_checkIndex_8e157 cJ3_checkIndex_8e157 3 (some .int) 3 := ⟨q2_140, q1_14, q2_141, by decide +kernel, by decide +kernel, by decide +kernel⟩
theorem kJ0_checkIndex_df160 : zCS yJ0_checkIndex_df160 cJ0_checkIndex_df160 2 none 2 := ⟨q2_135, q1_12, q2_136, by decide +kernel, by decide +kernel, by decide +kernel⟩
theorem kJ1_charAt_3b067 : zCS yJ1_charAt_3b067 cJ1_charAt_3b067 2 (some .char) 2 := ⟨q2_132, q1_13, q2_133, by decide +kernel, by decide +kernel, by decide +kernel⟩
theorem kJ0_charAt_5068e : zCV yJ0_charAt_5068e RJ0 cJ0_charAt_5068e 2 (some .char) 1 := ⟨q2_124, q2_125, q1_12, q2_126, rfl, by decide +kernel, by decide +kernel, by decide +kernel⟩
theorem kX6_isLetter : zCS yX6_isLetter cX6_isLetter 1 (some .boolean) 1 := ⟨q2_103, q1_11, q2_104, by decide +kernel, by decide +kernel, by decide +kernel⟩
theorem kX6_isFigure : zCS yX6_isFigure cX6_isFigure 1 (some .boolean) 1 := ⟨q2_106, q1_11, q2_107, by decide +kernel, by decide +kernel, by decide +kernel⟩
set_option maxHeartbeats 4000000 in
set_option maxRecDepth 100000 in
theorem c_J0_coder_7d493 (l : Launch) (g : zG) (i : Nat) (X : va_W) (hi : i < 4) : Met l yJ0_coder_7d493 (Cond.code yJ0_coder_7d493 cJ0_coder_7d493 1 (some .byte) :: TBL) { frames := 0, cells := 0, slots := 0, locals := 0 } (zPc [.ref (gAK g i)] g (X)) (zQi g (fun r ws => r = nI 0 ∧ ws = X)) 0 0 (zA (gz g)) := by
  refine z_start (by decide +kernel) rfl (Nat.le_of_ble_eq_true rfl) ?_
  intro p e s m args below meth c ls hE hr hnm hB hl
  have hl : lv_has ls 1 [(0, .ref (gAK g i))] := hl
  revert hB
  generalize s.heap = H
  generalize ([] : List Loc) = locs
  intro hB
  refine z_kcs hE hB q2_121 dJ0_coder_7d493_0 ?_
  refine z_eq0 (tgt := 13) (X := (1 : Int)) hE dJ0_coder_7d493_3 (by decide) rfl (fun c_1 => ?_) (fun c_1 => ?_)
  · · exact absurd c_1 (by decide)
  · refine lv_aload_n hE.x hE.b dJ0_coder_7d493_6 rfl (lv_at hl 0 rfl) ?_
    refine z_kcod hi hE hB q5_155 dJ0_coder_7d493_7 ?_
    refine lv_goto (tgt := 14) hE.x hE.b dJ0_coder_7d493_10 (by decide) ?_
    exact z_tret (v := (nI 0)) (ws := X) hE hB hr (by decide +kernel) (⟨rfl, rfl⟩) dJ0_coder_7d493_14

set_option maxHeartbeats 4000000 in
set_option maxRecDepth 100000 in
theorem c_J0_isLatin1_aae02 (l : Launch) (g : zG) (i : Nat) (X : va_W) (hi : i < 4) : Met l yJ0_isLatin1_aae02 (Cond.code yJ0_isLatin1_aae02 cJ0_isLatin1_aae02 1 (some .boolean) :: TBL) { frames := 0, cells := 0, slots := 0, locals := 0 } (zPc [.ref (gAK g i)] g (X)) (zQi g (fun r ws => r = bI true ∧ ws = X)) 0 0 (zA (gz g)) := by
  refine z_start (by decide +kernel) rfl (Nat.le_of_ble_eq_true rfl) ?_
  intro p e s m args below meth c ls hE hr hnm hB hl
  have hl : lv_has ls 1 [(0, .ref (gAK g i))] := hl
  revert hB
  generalize s.heap = H
  generalize ([] : List Loc) = locs
  intro hB
  refine z_kcs hE hB q2_121 dJ0_isLatin1_aae02_0 ?_
  refine z_eq0 (tgt := 17) (X := (1 : Int)) hE dJ0_isLatin1_aae02_3 (by decide) rfl (fun c_1 => ?_) (fun c_1 => ?_)
  · · exact absurd c_1 (by decide)
  · refine lv_aload_n hE.x hE.b dJ0_isLatin1_aae02_6 rfl (lv_at hl 0 rfl) ?_
    refine z_kcod hi hE hB q5_155 dJ0_isLatin1_aae02_7 ?_
    refine z_ne0 (tgt := 17) (X := (0 : Int)) hE dJ0_isLatin1_aae02_10 (by decide) rfl (fun c_2 => ?_) (fun c_2 => ?_)
    · · exact absurd rfl c_2
    · refine lv_iconst (v := nI 1) hE.x hE.b dJ0_isLatin1_aae02_13 rfl ?_
      refine lv_goto (tgt := 18) hE.x hE.b dJ0_isLatin1_aae02_14 (by decide) ?_
      exact z_bret (b := true) (ws := X) hE hB hr (⟨rfl, rfl⟩) dJ0_isLatin1_aae02_18

set_option maxHeartbeats 4000000 in
set_option maxRecDepth 100000 in
theorem c_J0_length_8abf5 (l : Launch) (g : zG) (i : Nat) (X : va_W) (hi : i < 4) : Met l yJ0_length_8abf5 (Cond.code yJ0_length_8abf5 cJ0_length_8abf5 1 (some .int) :: TBL) { frames := 1, cells := 0, slots := 0, locals := 20 } (zPc [.ref (gAK g i)] g (X)) (zQi g (fun r ws => r = nI (wdL.getD i 0) ∧ ws = X)) 0 0 (zA (gz g)) := by
  refine z_start (by decide +kernel) rfl (Nat.le_of_ble_eq_true rfl) ?_
  intro p e s m args below meth c ls hE hr hnm hB hl
  have hl : lv_has ls 1 [(0, .ref (gAK g i))] := hl
  revert hB
  generalize s.heap = H
  generalize ([] : List Loc) = locs
  intro hB
  refine lv_aload_n hE.x hE.b dJ0_length_8abf5_0 rfl (lv_at hl 0 rfl) ?_
  refine z_kval hi hE hB q5_154 dJ0_length_8abf5_1 ?_
  refine z_klen hi hE hB dJ0_length_8abf5_4 ?_
  refine lv_aload_n hE.x hE.b dJ0_length_8abf5_5 rfl (lv_at hl 0 rfl) ?_
  refine z_qi hB (z_cK hE hB (c_J0_coder_7d493 l g i (X) hi) q2_117 kJ0_coder_7d493 ⟨rfl, rfl⟩ ⟨Nat.le_of_ble_eq_true rfl, Nat.le_of_ble_eq_true rfl⟩ hi rfl hl.1 rfl (Nat.le_of_ble_eq_true rfl) dJ0_length_8abf5_6 ⟨Nat.le_of_ble_eq_true rfl, Nat.le_of_ble_eq_true rfl⟩) (fun r_1 w_2 H locs hw hB => ?_)
  obtain ⟨hr9, hw9⟩ := hw
  have hr9 := hr9.symm
  subst hr9
  have hw9 := hw9.symm
  subst hw9
  refine lv_ishr hE.x hE.b dJ0_length_8abf5_9 ?_
  refine z_top (y := (nI (wdL.getD i 0))) (len_all i hi) ?_
  exact z_iret (v := (nI (wdL.getD i 0))) (ws := X) hE hB hr (⟨rfl, rfl⟩) dJ0_length_8abf5_10

set_option maxHeartbeats 4000000 in
set_option maxRecDepth 100000 in
theorem c_J3_checkIndex_8e157_n (l : Launch) (g : zG) (j : Nat) (n : Nat) (X : va_W) (hj : j < n) (hn : n < 7) : Met l yJ3_checkIndex_8e157 (Cond.code yJ3_checkIndex_8e157 cJ3_checkIndex_8e157 3 (some .int) :: TBL) { frames := 0, cells := 0, slots := 0, locals := 0 } (zPc [.int (nI j), .int (nI n), .null] g (X)) (zQi g (fun r ws => r = nI j ∧ ws = X)) 0 0 (zA (gz g)) := by
  refine z_start (by decide +kernel) rfl (Nat.le_of_ble_eq_true rfl) ?_
  intro p e s m args below meth c ls hE hr hnm hB hl
  have hl : lv_has ls 3 [(0, .int (nI j)), (1, .int (nI n)), (2, .null)] := hl
  revert hB
  generalize s.heap = H
  generalize ([] : List Loc) = locs
  intro hB
  refine lv_iload_n hE.x hE.b dJ3_checkIndex_8e157_0 rfl (lv_at hl 0 rfl) ?_
  refine z_lt0 (tgt := 9) (X := ((j : Nat) : Int)) hE dJ3_checkIndex_8e157_1 (by decide) (nI_toInt (n := j) (by omega)) (fun c_1 => ?_) (fun c_1 => ?_)
  · · exact absurd c_1 (by omega)
  · refine lv_iload_n hE.x hE.b dJ3_checkIndex_8e157_4 rfl (lv_at hl 0 rfl) ?_
    refine lv_iload_n hE.x hE.b dJ3_checkIndex_8e157_5 rfl (lv_at hl 1 rfl) ?_
    refine z_lt (tgt := 16) (X := ((j : Nat) : Int)) (Y := ((n : Nat) : Int)) hE dJ3_checkIndex_8e157_6 (by decide) (nI_toInt (n := j) (by omega)) (nI_toInt (n := n) (by omega)) (fun c_2 => ?_) (fun c_2 => ?_)
    · refine lv_iload_n hE.x hE.b dJ3_checkIndex_8e157_16 rfl (lv_at hl 0 rfl) ?_
      exact z_iret (v := (nI j)) (ws := X) hE hB hr (⟨rfl, rfl⟩) dJ3_checkIndex_8e157_17
    · · exact absurd c_2 (by omega)

set_option maxHeartbeats 4000000 in
set_option maxRecDepth 100000 in
theorem c_J3_checkIndex_8e157_r (l : Launch) (g : zG) (t : Nat) (j : Nat) (n : Nat) (X : va_W) (hj : j < n) (hn : n < 7) : Met l yJ3_checkIndex_8e157 (Cond.code yJ3_checkIndex_8e157 cJ3_checkIndex_8e157 3 (some .int) :: TBL) { frames := 0, cells := 0, slots := 0, locals := 0 } (zPc [.int (nI j), .int (nI n), .ref t] g (X)) (zQi g (fun r ws => r = nI j ∧ ws = X)) 0 0 (zA (gz g)) := by
  refine z_start (by decide +kernel) rfl (Nat.le_of_ble_eq_true rfl) ?_
  intro p e s m args below meth c ls hE hr hnm hB hl
  have hl : lv_has ls 3 [(0, .int (nI j)), (1, .int (nI n)), (2, .ref t)] := hl
  revert hB
  generalize s.heap = H
  generalize ([] : List Loc) = locs
  intro hB
  refine lv_iload_n hE.x hE.b dJ3_checkIndex_8e157_0 rfl (lv_at hl 0 rfl) ?_
  refine z_lt0 (tgt := 9) (X := ((j : Nat) : Int)) hE dJ3_checkIndex_8e157_1 (by decide) (nI_toInt (n := j) (by omega)) (fun c_1 => ?_) (fun c_1 => ?_)
  · · exact absurd c_1 (by omega)
  · refine lv_iload_n hE.x hE.b dJ3_checkIndex_8e157_4 rfl (lv_at hl 0 rfl) ?_
    refine lv_iload_n hE.x hE.b dJ3_checkIndex_8e157_5 rfl (lv_at hl 1 rfl) ?_
    refine z_lt (tgt := 16) (X := ((j : Nat) : Int)) (Y := ((n : Nat) : Int)) hE dJ3_checkIndex_8e157_6 (by decide) (nI_toInt (n := j) (by omega)) (nI_toInt (n := n) (by omega)) (fun c_2 => ?_) (fun c_2 => ?_)
    · refine lv_iload_n hE.x hE.b dJ3_checkIndex_8e157_16 rfl (lv_at hl 0 rfl) ?_
      exact z_iret (v := (nI j)) (ws := X) hE hB hr (⟨rfl, rfl⟩) dJ3_checkIndex_8e157_17
    · · exact absurd c_2 (by omega)

set_option maxHeartbeats 4000000 in
set_option maxRecDepth 100000 in
theorem c_J0_checkIndex_df160 (l : Launch) (g : zG) (j : Nat) (n : Nat) (X : va_W) (hj : j < n) (hn : n < 7) : Met l yJ0_checkIndex_df160 (Cond.code yJ0_checkIndex_df160 cJ0_checkIndex_df160 2 none :: TBL) { frames := 1, cells := 0, slots := 0, locals := 22 } (zPc [.int (nI j), .int (nI n)] g (X)) (zQv g (fun ws => ws = X)) 0 0 (zA (gz g)) := by
  refine z_start (by decide +kernel) rfl (Nat.le_of_ble_eq_true rfl) ?_
  intro p e s m args below meth c ls hE hr hnm hB hl
  have hl : lv_has ls 2 [(0, .int (nI j)), (1, .int (nI n))] := hl
  revert hB
  generalize s.heap = H
  generalize ([] : List Loc) = locs
  intro hB
  refine lv_iload_n hE.x hE.b dJ0_checkIndex_df160_0 rfl (lv_at hl 0 rfl) ?_
  refine lv_iload_n hE.x hE.b dJ0_checkIndex_df160_1 rfl (lv_at hl 1 rfl) ?_
  refine z_kfm hE hB q2_137 dJ0_checkIndex_df160_2 ?_ (fun t => ?_)
  · refine z_qi hB (z_cS hE hB (c_J3_checkIndex_8e157_n l g j n (X) (by omega) (by omega)) q2_139 kJ3_checkIndex_8e157 ⟨rfl, rfl⟩ ⟨Nat.le_of_ble_eq_true rfl, Nat.le_of_ble_eq_true rfl⟩ rfl hl.1 rfl (Nat.le_of_ble_eq_true rfl) dJ0_checkIndex_df160_5 ⟨Nat.le_of_ble_eq_true rfl, Nat.le_of_ble_eq_true rfl⟩) (fun r_1 w_2 H locs hw hB => ?_)
    obtain ⟨hr9, hw9⟩ := hw
    have hr9 := hr9.symm
    subst hr9
    have hw9 := hw9.symm
    subst hw9
    refine lv_pop hE.x hE.b dJ0_checkIndex_df160_8 rfl ?_
    exact z_vret (ws := X) hE hB hr (rfl) dJ0_checkIndex_df160_9
  · refine z_qi hB (z_cS hE hB (c_J3_checkIndex_8e157_r l g t j n (X) (by omega) (by omega)) q2_139 kJ3_checkIndex_8e157 ⟨rfl, rfl⟩ ⟨Nat.le_of_ble_eq_true rfl, Nat.le_of_ble_eq_true rfl⟩ rfl hl.1 rfl (Nat.le_of_ble_eq_true rfl) dJ0_checkIndex_df160_5 ⟨Nat.le_of_ble_eq_true rfl, Nat.le_of_ble_eq_true rfl⟩) (fun r_3 w_4 H locs hw hB => ?_)
    obtain ⟨hr9, hw9⟩ := hw
    have hr9 := hr9.symm
    subst hr9
    have hw9 := hw9.symm
    subst hw9
    refine lv_pop hE.x hE.b dJ0_checkIndex_df160_8 rfl ?_
    exact z_vret (ws := X) hE hB hr (rfl) dJ0_checkIndex_df160_9

set_option maxHeartbeats 4000000 in
set_option maxRecDepth 100000 in
theorem c_J1_charAt_3b067 (l : Launch) (g : zG) (i : Nat) (j : Nat) (X : va_W) (hi : i < 4) (hj : j < wdL.getD i 0) : Met l yJ1_charAt_3b067 (Cond.code yJ1_charAt_3b067 cJ1_charAt_3b067 2 (some .char) :: TBL) { frames := 2, cells := 0, slots := 0, locals := 43 } (zPc [.ref (gAV g i), .int (nI j)] g (X)) (zQi g (fun r ws => r = ((wdB.getD i []).getD j 0) ∧ ws = X)) 0 0 (zA (gz g)) := by
  refine z_start (by decide +kernel) rfl (Nat.le_of_ble_eq_true rfl) ?_
  intro p e s m args below meth c ls hE hr hnm hB hl
  have hl : lv_has ls 2 [(0, .ref (gAV g i)), (1, .int (nI j))] := hl
  revert hB
  generalize s.heap = H
  generalize ([] : List Loc) = locs
  intro hB
  have h7 := len_7 i hi
  refine lv_iload_n hE.x hE.b dJ1_charAt_3b067_0 rfl (lv_at hl 1 rfl) ?_
  refine lv_aload_n hE.x hE.b dJ1_charAt_3b067_1 rfl (lv_at hl 0 rfl) ?_
  refine z_klen hi hE hB dJ1_charAt_3b067_2 ?_
  refine z_qv hB (z_cS hE hB (c_J0_checkIndex_df160 l g j (wdL.getD i 0) (X) (by omega) (by omega)) q2_134 kJ0_checkIndex_df160 ⟨rfl, rfl⟩ ⟨Nat.le_of_ble_eq_true rfl, Nat.le_of_ble_eq_true rfl⟩ rfl hl.1 rfl (Nat.le_of_ble_eq_true rfl) dJ1_charAt_3b067_3 ⟨Nat.le_of_ble_eq_true rfl, Nat.le_of_ble_eq_true rfl⟩) (fun w_2 H locs hw hB => ?_)
  have hw9 := hw
  have hw9 := hw9.symm
  subst hw9
  refine lv_aload_n hE.x hE.b dJ1_charAt_3b067_6 rfl (lv_at hl 0 rfl) ?_
  refine lv_iload_n hE.x hE.b dJ1_charAt_3b067_7 rfl (lv_at hl 1 rfl) ?_
  refine z_kald hi hE hB hj dJ1_charAt_3b067_8 ?_
  refine lv_sipush (v := (nI 255)) hE.x hE.b dJ1_charAt_3b067_9 rfl ?_
  refine lv_iand hE.x hE.b dJ1_charAt_3b067_12 ?_
  refine lv_i2c hE.x hE.b dJ1_charAt_3b067_13 rfl ?_
  refine z_top (y := ((wdB.getD i []).getD j 0)) (ch_all i hi j hj) ?_
  exact z_tret (v := ((wdB.getD i []).getD j 0)) (ws := X) hE hB hr (ch_nar i hi j hj) (⟨rfl, rfl⟩) dJ1_charAt_3b067_14

set_option maxHeartbeats 4000000 in
set_option maxRecDepth 100000 in
theorem c_J0_charAt_5068e (l : Launch) (g : zG) (i : Nat) (j : Nat) (X : va_W) (hi : i < 4) (hj : j < wdL.getD i 0) : Met l yJ0_charAt_5068e (Cond.code yJ0_charAt_5068e cJ0_charAt_5068e 2 (some .char) :: TBL) { frames := 3, cells := 0, slots := 0, locals := 64 } (zPc [.ref (gAK g i), .int (nI j)] g (X)) (zQi g (fun r ws => r = ((wdB.getD i []).getD j 0) ∧ ws = X)) 0 0 (zA (gz g)) := by
  refine z_start (by decide +kernel) rfl (Nat.le_of_ble_eq_true rfl) ?_
  intro p e s m args below meth c ls hE hr hnm hB hl
  have hl : lv_has ls 2 [(0, .ref (gAK g i)), (1, .int (nI j))] := hl
  revert hB
  generalize s.heap = H
  generalize ([] : List Loc) = locs
  intro hB
  refine lv_aload_n hE.x hE.b dJ0_charAt_5068e_0 rfl (lv_at hl 0 rfl) ?_
  refine z_qi hB (z_cK hE hB (c_J0_isLatin1_aae02 l g i (X) hi) q2_127 kJ0_isLatin1_aae02 ⟨rfl, rfl⟩ ⟨Nat.le_of_ble_eq_true rfl, Nat.le_of_ble_eq_true rfl⟩ hi rfl hl.1 rfl (Nat.le_of_ble_eq_true rfl) dJ0_charAt_5068e_1 ⟨Nat.le_of_ble_eq_true rfl, Nat.le_of_ble_eq_true rfl⟩) (fun r_1 w_2 H locs hw hB => ?_)
  obtain ⟨hr9, hw9⟩ := hw
  have hr9 := hr9.symm
  subst hr9
  have hw9 := hw9.symm
  subst hw9
  refine z_bf (b := true) (tgt := 16) hE dJ0_charAt_5068e_4 (by decide) (fun c_3 => ?_) (fun c_3 => ?_)
  · · exact absurd c_3 (by decide)
  · refine lv_aload_n hE.x hE.b dJ0_charAt_5068e_7 rfl (lv_at hl 0 rfl) ?_
    refine z_kval hi hE hB q5_154 dJ0_charAt_5068e_8 ?_
    refine lv_iload_n hE.x hE.b dJ0_charAt_5068e_11 rfl (lv_at hl 1 rfl) ?_
    refine z_qi hB (z_cS hE hB (c_J1_charAt_3b067 l g i j (X) hi (by omega)) q2_131 kJ1_charAt_3b067 ⟨rfl, rfl⟩ ⟨Nat.le_of_ble_eq_true rfl, Nat.le_of_ble_eq_true rfl⟩ rfl hl.1 rfl (Nat.le_of_ble_eq_true rfl) dJ0_charAt_5068e_12 ⟨Nat.le_of_ble_eq_true rfl, Nat.le_of_ble_eq_true rfl⟩) (fun r_4 w_5 H locs hw hB => ?_)
    obtain ⟨hr9, hw9⟩ := hw
    have hr9 := hr9.symm
    subst hr9
    have hw9 := hw9.symm
    subst hw9
    exact z_tret (v := ((wdB.getD i []).getD j 0)) (ws := X) hE hB hr (ch_nar i hi j hj) (⟨rfl, rfl⟩) dJ0_charAt_5068e_15

set_option maxHeartbeats 4000000 in
set_option maxRecDepth 100000 in
theorem c_X6_isLetter (l : Launch) (g : zG) (q : Int32) (X : va_W)  : Met l yX6_isLetter (Cond.code yX6_isLetter cX6_isLetter 1 (some .boolean) :: TBL) { frames := 0, cells := 0, slots := 0, locals := 0 } (zPc [.int q] g (X)) (zQi g (fun r ws => r = bI (isSm q) ∧ ws = X)) 0 0 (zA (gz g)) := by
  refine z_start (by decide +kernel) rfl (Nat.le_of_ble_eq_true rfl) ?_
  intro p e s m args below meth c ls hE hr hnm hB hl
  have hl : lv_has ls 1 [(0, .int q)] := hl
  revert hB
  generalize s.heap = H
  generalize ([] : List Loc) = locs
  intro hB
  refine lv_iload_n hE.x hE.b dX6_isLetter_0 rfl (lv_at hl 0 rfl) ?_
  refine lv_bipush (v := (nI 97)) hE.x hE.b dX6_isLetter_1 rfl ?_
  refine z_lt (tgt := 16) (X := q.toInt) (Y := (97 : Int)) hE dX6_isLetter_3 (by decide) rfl rfl (fun c_1 => ?_) (fun c_1 => ?_)
  · refine lv_iconst (v := nI 0) hE.x hE.b dX6_isLetter_16 rfl ?_
    exact z_bret (b := false) (ws := X) hE hB hr (⟨bI_decF (by omega), rfl⟩) dX6_isLetter_17
  · refine lv_iload_n hE.x hE.b dX6_isLetter_6 rfl (lv_at hl 0 rfl) ?_
    refine lv_bipush (v := (nI 122)) hE.x hE.b dX6_isLetter_7 rfl ?_
    refine z_gt (tgt := 16) (X := q.toInt) (Y := (122 : Int)) hE dX6_isLetter_9 (by decide) rfl rfl (fun c_2 => ?_) (fun c_2 => ?_)
    · refine lv_iconst (v := nI 0) hE.x hE.b dX6_isLetter_16 rfl ?_
      exact z_bret (b := false) (ws := X) hE hB hr (⟨bI_decF (by omega), rfl⟩) dX6_isLetter_17
    · refine lv_iconst (v := nI 1) hE.x hE.b dX6_isLetter_12 rfl ?_
      refine lv_goto (tgt := 17) hE.x hE.b dX6_isLetter_13 (by decide) ?_
      exact z_bret (b := true) (ws := X) hE hB hr (⟨bI_decT (by omega), rfl⟩) dX6_isLetter_17

set_option maxHeartbeats 4000000 in
set_option maxRecDepth 100000 in
theorem c_X6_isFigure (l : Launch) (g : zG) (q : Int32) (X : va_W)  : Met l yX6_isFigure (Cond.code yX6_isFigure cX6_isFigure 1 (some .boolean) :: TBL) { frames := 0, cells := 0, slots := 0, locals := 0 } (zPc [.int q] g (X)) (zQi g (fun r ws => r = bI (isFg q) ∧ ws = X)) 0 0 (zA (gz g)) := by
  refine z_start (by decide +kernel) rfl (Nat.le_of_ble_eq_true rfl) ?_
  intro p e s m args below meth c ls hE hr hnm hB hl
  have hl : lv_has ls 1 [(0, .int q)] := hl
  revert hB
  generalize s.heap = H
  generalize ([] : List Loc) = locs
  intro hB
  refine lv_iload_n hE.x hE.b dX6_isFigure_0 rfl (lv_at hl 0 rfl) ?_
  refine lv_bipush (v := (nI 48)) hE.x hE.b dX6_isFigure_1 rfl ?_
  refine z_lt (tgt := 16) (X := q.toInt) (Y := (48 : Int)) hE dX6_isFigure_3 (by decide) rfl rfl (fun c_1 => ?_) (fun c_1 => ?_)
  · refine lv_iconst (v := nI 0) hE.x hE.b dX6_isFigure_16 rfl ?_
    exact z_bret (b := false) (ws := X) hE hB hr (⟨bI_decF (by omega), rfl⟩) dX6_isFigure_17
  · refine lv_iload_n hE.x hE.b dX6_isFigure_6 rfl (lv_at hl 0 rfl) ?_
    refine lv_bipush (v := (nI 57)) hE.x hE.b dX6_isFigure_7 rfl ?_
    refine z_gt (tgt := 16) (X := q.toInt) (Y := (57 : Int)) hE dX6_isFigure_9 (by decide) rfl rfl (fun c_2 => ?_) (fun c_2 => ?_)
    · refine lv_iconst (v := nI 0) hE.x hE.b dX6_isFigure_16 rfl ?_
      exact z_bret (b := false) (ws := X) hE hB hr (⟨bI_decF (by omega), rfl⟩) dX6_isFigure_17
    · refine lv_iconst (v := nI 1) hE.x hE.b dX6_isFigure_12 rfl ?_
      refine lv_goto (tgt := 17) hE.x hE.b dX6_isFigure_13 (by decide) ?_
      exact z_bret (b := true) (ws := X) hE hB hr (⟨bI_decT (by omega), rfl⟩) dX6_isFigure_17
