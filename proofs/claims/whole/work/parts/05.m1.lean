theorem dX9_in_0 : decode cX9_in 0 = .ok (.lload_n 0, 1) := by decide +kernel
theorem dX9_in_1 : decode cX9_in 1 = .ok (.lload_n 2, 1) := by decide +kernel
theorem dX9_in_2 : decode cX9_in 2 = .ok (.lcmp, 1) := by decide +kernel
theorem dX9_in_3 : decode cX9_in 3 = .ok (.ifCond .lt 14, 3) := by decide +kernel
theorem dX9_in_6 : decode cX9_in 6 = .ok (.lload_n 0, 1) := by decide +kernel
theorem dX9_in_7 : decode cX9_in 7 = .ok (.lload 4, 2) := by decide +kernel
theorem dX9_in_9 : decode cX9_in 9 = .ok (.lcmp, 1) := by decide +kernel
theorem dX9_in_10 : decode cX9_in 10 = .ok (.ifCond .gt 7, 3) := by decide +kernel
theorem dX9_in_13 : decode cX9_in 13 = .ok (.iconst 1, 1) := by decide +kernel
theorem dX9_in_14 : decode cX9_in 14 = .ok (.goto 4, 3) := by decide +kernel
theorem dX9_in_17 : decode cX9_in 17 = .ok (.iconst 0, 1) := by decide +kernel
theorem dX9_in_18 : decode cX9_in 18 = .ok (.ireturn, 1) := by decide +kernel
theorem dX9_bad_0 : decode cX9_bad 0 = .ok (.aload_n 0, 1) := by decide +kernel
theorem dX9_bad_1 : decode cX9_bad 1 = .ok (.getfield 20, 3) := by decide +kernel
theorem dX9_bad_4 : decode cX9_bad 4 = .ok (.iconst 0, 1) := by decide +kernel
theorem dX9_bad_5 : decode cX9_bad 5 = .ok (.dup2, 1) := by decide +kernel
theorem dX9_bad_6 : decode cX9_bad 6 = .ok (.iaload, 1) := by decide +kernel
theorem dX9_bad_7 : decode cX9_bad 7 = .ok (.iconst 1, 1) := by decide +kernel
theorem dX9_bad_8 : decode cX9_bad 8 = .ok (.iadd, 1) := by decide +kernel
theorem dX9_bad_9 : decode cX9_bad 9 = .ok (.iastore, 1) := by decide +kernel
theorem dX9_bad_10 : decode cX9_bad 10 = .ok (.iload_n 1, 1) := by decide +kernel
theorem dX9_bad_11 : decode cX9_bad 11 = .ok (.ireturn, 1) := by decide +kernel
theorem dX9_no_0 : decode cX9_no 0 = .ok (.aload_n 0, 1) := by decide +kernel
theorem dX9_no_1 : decode cX9_no 1 = .ok (.getfield 20, 3) := by decide +kernel
theorem dX9_no_4 : decode cX9_no 4 = .ok (.iconst 1, 1) := by decide +kernel
theorem dX9_no_5 : decode cX9_no 5 = .ok (.dup2, 1) := by decide +kernel
theorem dX9_no_6 : decode cX9_no 6 = .ok (.iaload, 1) := by decide +kernel
theorem dX9_no_7 : decode cX9_no 7 = .ok (.iconst 1, 1) := by decide +kernel
theorem dX9_no_8 : decode cX9_no 8 = .ok (.iadd, 1) := by decide +kernel
theorem dX9_no_9 : decode cX9_no 9 = .ok (.iastore, 1) := by decide +kernel
theorem dX9_no_10 : decode cX9_no 10 = .ok (.bipush (-3), 2) := by decide +kernel
theorem dX9_no_12 : decode cX9_no 12 = .ok (.ireturn, 1) := by decide +kernel
theorem dX9_full_0 : decode cX9_full 0 = .ok (.aload_n 0, 1) := by decide +kernel
theorem dX9_full_1 : decode cX9_full 1 = .ok (.getfield 20, 3) := by decide +kernel
theorem dX9_full_4 : decode cX9_full 4 = .ok (.iconst 2, 1) := by decide +kernel
theorem dX9_full_5 : decode cX9_full 5 = .ok (.dup2, 1) := by decide +kernel
theorem dX9_full_6 : decode cX9_full 6 = .ok (.iaload, 1) := by decide +kernel
theorem dX9_full_7 : decode cX9_full 7 = .ok (.iconst 1, 1) := by decide +kernel
theorem dX9_full_8 : decode cX9_full 8 = .ok (.iadd, 1) := by decide +kernel
theorem dX9_full_9 : decode cX9_full 9 = .ok (.iastore, 1) := by decide +kernel
theorem dX9_full_10 : decode cX9_full 10 = .ok (.bipush (-4), 2) := by decide +kernel
theorem dX9_full_12 : decode cX9_full 12 = .ok (.ireturn, 1) := by decide +kernel
theorem dX9_begin_0 : decode cX9_begin 0 = .ok (.iconst 0, 1) := by decide +kernel
theorem dX9_begin_1 : decode cX9_begin 1 = .ok (.istore_n 1, 1) := by decide +kernel
theorem dX9_begin_2 : decode cX9_begin 2 = .ok (.iload_n 1, 1) := by decide +kernel
theorem dX9_begin_3 : decode cX9_begin 3 = .ok (.bipush 126, 2) := by decide +kernel
theorem dX9_begin_5 : decode cX9_begin 5 = .ok (.if_icmp .ge 13, 3) := by decide +kernel
theorem dX9_begin_8 : decode cX9_begin 8 = .ok (.aload_n 0, 1) := by decide +kernel
theorem dX9_begin_9 : decode cX9_begin 9 = .ok (.iload_n 1, 1) := by decide +kernel
theorem dX9_begin_10 : decode cX9_begin 10 = .ok (.iconst 0, 1) := by decide +kernel
theorem dX9_begin_11 : decode cX9_begin 11 = .ok (.iastore, 1) := by decide +kernel
theorem dX9_begin_12 : decode cX9_begin 12 = .ok (.iinc 1 1, 3) := by decide +kernel
theorem dX9_begin_15 : decode cX9_begin 15 = .ok (.goto (-13), 3) := by decide +kernel
theorem dX9_begin_18 : decode cX9_begin 18 = .ok (.return_, 1) := by decide +kernel
theorem kX9_in : zCS yX9_in cX9_in 6 (some .boolean) 3 := ⟨q4_89, q1_3, q4_90, by decide +kernel, by decide +kernel, by decide +kernel⟩
theorem kX9_bad : zCV yX9_bad RX9 cX9_bad 2 (some .int) 1 := ⟨q4_93, qp18, q1_3, q4_94, rfl, by decide +kernel, by decide +kernel, by decide +kernel⟩
theorem kX9_no : zCV yX9_no RX9 cX9_no 1 (some .int) 0 := ⟨q4_148, qp24, q1_3, q4_149, rfl, by decide +kernel, by decide +kernel, by decide +kernel⟩
theorem kX9_full : zCV yX9_full RX9 cX9_full 1 (some .int) 0 := ⟨q4_97, qp19, q1_3, q4_98, rfl, by decide +kernel, by decide +kernel, by decide +kernel⟩
theorem kX9_begin : zCS yX9_begin cX9_begin 2 none 1 := ⟨q4_81, q1_3, q4_82, by decide +kernel, by decide +kernel, by decide +kernel⟩
set_option maxHeartbeats 4000000 in
set_option maxRecDepth 100000 in
theorem c_X9_in (l : Launch) (g : zG) (v : Int64) (lo : Int64) (hi : Int64) (V : Int) (Lo : Int) (Hi : Int) (X : va_W) (hv : v.toInt = V) (hlo : lo.toInt = Lo) (hhi : hi.toInt = Hi) : Met l yX9_in (Cond.code yX9_in cX9_in 6 (some .boolean) :: TBL) { frames := 0, cells := 0, slots := 0, locals := 0 } (zPc [.long v, .long lo, .long hi] g (X)) (zQi g (fun r ws => r = bI (inZ Lo Hi V) ∧ ws = X)) 0 0 (zA (gz g)) := by
  refine z_start (by decide +kernel) rfl (Nat.le_of_ble_eq_true rfl) ?_
  intro p e s m args below meth c ls hE hr hnm hB hl
  have hl : lv_has ls 6 [(0, .long v), (2, .long lo), (4, .long hi)] := hl
  revert hB
  generalize s.heap = H
  generalize ([] : List Loc) = locs
  intro hB
  refine lv_lload_n hE.x hE.b dX9_in_0 rfl (lv_at hl 0 rfl) ?_
  refine lv_lload_n hE.x hE.b dX9_in_1 rfl (lv_at hl 1 rfl) ?_
  refine W.lcmp hE.x hE.b dX9_in_2 ?_
  refine lv_if_lt (tgt := 17) hE.x hE.b dX9_in_3 (by decide) (fun c_1 => ?_) (fun c_1 => ?_)
  · refine lv_iconst (v := nI 0) hE.x hE.b dX9_in_17 rfl ?_
    exact z_bret (b := false) (ws := X) hE hB hr (⟨bI_decF (by rw [lg_cmp_lt, Int64.lt_iff_toInt_lt] at c_1; omega), rfl⟩) dX9_in_18
  · refine lv_lload_n hE.x hE.b dX9_in_6 rfl (lv_at hl 0 rfl) ?_
    refine lv_lload hE.x hE.b dX9_in_7 (lv_at hl 2 rfl) ?_
    refine W.lcmp hE.x hE.b dX9_in_9 ?_
    refine lv_if_gt (tgt := 17) hE.x hE.b dX9_in_10 (by decide) (fun c_2 => ?_) (fun c_2 => ?_)
    · refine lv_iconst (v := nI 0) hE.x hE.b dX9_in_17 rfl ?_
      exact z_bret (b := false) (ws := X) hE hB hr (⟨bI_decF (by rw [lg_cmp_lt, Int64.lt_iff_toInt_lt] at c_1; rw [lg_cmp_gt, Int64.lt_iff_toInt_lt] at c_2; omega), rfl⟩) dX9_in_18
    · refine lv_iconst (v := nI 1) hE.x hE.b dX9_in_13 rfl ?_
      refine lv_goto (tgt := 18) hE.x hE.b dX9_in_14 (by decide) ?_
      exact z_bret (b := true) (ws := X) hE hB hr (⟨bI_decT (by rw [lg_cmp_lt, Int64.lt_iff_toInt_lt] at c_1; rw [lg_cmp_gt, Int64.lt_iff_toInt_lt] at c_2; omega), rfl⟩) dX9_in_18

set_option maxHeartbeats 4000000 in
set_option maxRecDepth 100000 in
theorem c_X9_bad (l : Launch) (g : zG) (o : Nat) (a : Nat → Nat) (F : Nat → Int32) (L : Nat → Int64) (A : Nat → Nat → Int32) (X : va_W) (t : Int32)  : Met l yX9_bad (Cond.code yX9_bad cX9_bad 2 (some .int) :: TBL) { frames := 0, cells := 0, slots := 0, locals := 0 } (zPc [.ref o, .int t] g (mW g o a F L A ++ X)) (zQi g (fun r ws => r = t ∧ ws = mW g o a F L (bump 0 A) ++ X)) 0 0 (zA (gz g)) := by
  refine z_start (by decide +kernel) rfl (Nat.le_of_ble_eq_true rfl) ?_
  intro p e s m args below meth c ls hE hr hnm hB hl
  have hl : lv_has ls 2 [(0, .ref o), (1, .int t)] := hl
  revert hB
  generalize s.heap = H
  generalize ([] : List Loc) = locs
  intro hB
  refine lv_aload_n hE.x hE.b dX9_bad_0 rfl (lv_at hl 0 rfl) ?_
  refine z_get (v := .ref (a 3)) hE hB inX9 0 rfl rfl 3 (by decide) q4_4 (fun _ h9 => h9) rfl dX9_bad_1 ?_
  refine lv_iconst (v := nI 0) hE.x hE.b dX9_bad_4 rfl ?_
  refine lv_dup2_11 hE.x hE.b dX9_bad_5 rfl rfl ?_
  refine z_iald (k := 0) (f := (A 3)) hE hB 4 rfl (by omega) (by decide) dX9_bad_6 ?_
  refine lv_iconst (v := nI 1) hE.x hE.b dX9_bad_7 rfl ?_
  refine lv_iadd hE.x hE.b dX9_bad_8 ?_
  refine z_iast (k := 0) (f := (A 3)) (x := (((A 3) 0) + (nI 1))) (ws' := mW g o a F L (updA A 3 (upd (A 3) 0 (((A 3) 0) + (nI 1)))) ++ X) hE hB 4 rfl (by omega) (by decide) rfl dX9_bad_9 (fun H locs hB => ?_)
  refine lv_iload_n hE.x hE.b dX9_bad_10 rfl (lv_at hl 1 rfl) ?_
  exact z_iret (v := t) (ws := mW g o a F L (updA A 3 (upd (A 3) 0 (((A 3) 0) + (nI 1)))) ++ X) hE hB hr (⟨rfl, rfl⟩) dX9_bad_11

set_option maxHeartbeats 4000000 in
set_option maxRecDepth 100000 in
theorem c_X9_no (l : Launch) (g : zG) (o : Nat) (a : Nat → Nat) (F : Nat → Int32) (L : Nat → Int64) (A : Nat → Nat → Int32) (X : va_W)  : Met l yX9_no (Cond.code yX9_no cX9_no 1 (some .int) :: TBL) { frames := 0, cells := 0, slots := 0, locals := 0 } (zPc [.ref o] g (mW g o a F L A ++ X)) (zQi g (fun r ws => r = (-3) ∧ ws = mW g o a F L (bump 1 A) ++ X)) 0 0 (zA (gz g)) := by
  refine z_start (by decide +kernel) rfl (Nat.le_of_ble_eq_true rfl) ?_
  intro p e s m args below meth c ls hE hr hnm hB hl
  have hl : lv_has ls 1 [(0, .ref o)] := hl
  revert hB
  generalize s.heap = H
  generalize ([] : List Loc) = locs
  intro hB
  refine lv_aload_n hE.x hE.b dX9_no_0 rfl (lv_at hl 0 rfl) ?_
  refine z_get (v := .ref (a 3)) hE hB inX9 0 rfl rfl 3 (by decide) q4_4 (fun _ h9 => h9) rfl dX9_no_1 ?_
  refine lv_iconst (v := nI 1) hE.x hE.b dX9_no_4 rfl ?_
  refine lv_dup2_11 hE.x hE.b dX9_no_5 rfl rfl ?_
  refine z_iald (k := 1) (f := (A 3)) hE hB 4 rfl (by omega) (by decide) dX9_no_6 ?_
  refine lv_iconst (v := nI 1) hE.x hE.b dX9_no_7 rfl ?_
  refine lv_iadd hE.x hE.b dX9_no_8 ?_
  refine z_iast (k := 1) (f := (A 3)) (x := (((A 3) 1) + (nI 1))) (ws' := mW g o a F L (updA A 3 (upd (A 3) 1 (((A 3) 1) + (nI 1)))) ++ X) hE hB 4 rfl (by omega) (by decide) rfl dX9_no_9 (fun H locs hB => ?_)
  refine lv_bipush (v := (-3)) hE.x hE.b dX9_no_10 rfl ?_
  exact z_iret (v := (-3)) (ws := mW g o a F L (updA A 3 (upd (A 3) 1 (((A 3) 1) + (nI 1)))) ++ X) hE hB hr (⟨rfl, rfl⟩) dX9_no_12

set_option maxHeartbeats 4000000 in
set_option maxRecDepth 100000 in
theorem c_X9_full (l : Launch) (g : zG) (o : Nat) (a : Nat → Nat) (F : Nat → Int32) (L : Nat → Int64) (A : Nat → Nat → Int32) (X : va_W)  : Met l yX9_full (Cond.code yX9_full cX9_full 1 (some .int) :: TBL) { frames := 0, cells := 0, slots := 0, locals := 0 } (zPc [.ref o] g (mW g o a F L A ++ X)) (zQi g (fun r ws => r = (-4) ∧ ws = mW g o a F L (bump 2 A) ++ X)) 0 0 (zA (gz g)) := by
  refine z_start (by decide +kernel) rfl (Nat.le_of_ble_eq_true rfl) ?_
  intro p e s m args below meth c ls hE hr hnm hB hl
  have hl : lv_has ls 1 [(0, .ref o)] := hl
  revert hB
  generalize s.heap = H
  generalize ([] : List Loc) = locs
  intro hB
  refine lv_aload_n hE.x hE.b dX9_full_0 rfl (lv_at hl 0 rfl) ?_
  refine z_get (v := .ref (a 3)) hE hB inX9 0 rfl rfl 3 (by decide) q4_4 (fun _ h9 => h9) rfl dX9_full_1 ?_
  refine lv_iconst (v := nI 2) hE.x hE.b dX9_full_4 rfl ?_
  refine lv_dup2_11 hE.x hE.b dX9_full_5 rfl rfl ?_
  refine z_iald (k := 2) (f := (A 3)) hE hB 4 rfl (by omega) (by decide) dX9_full_6 ?_
  refine lv_iconst (v := nI 1) hE.x hE.b dX9_full_7 rfl ?_
  refine lv_iadd hE.x hE.b dX9_full_8 ?_
  refine z_iast (k := 2) (f := (A 3)) (x := (((A 3) 2) + (nI 1))) (ws' := mW g o a F L (updA A 3 (upd (A 3) 2 (((A 3) 2) + (nI 1)))) ++ X) hE hB 4 rfl (by omega) (by decide) rfl dX9_full_9 (fun H locs hB => ?_)
  refine lv_bipush (v := (-4)) hE.x hE.b dX9_full_10 rfl ?_
  exact z_iret (v := (-4)) (ws := mW g o a F L (updA A 3 (upd (A 3) 2 (((A 3) 2) + (nI 1)))) ++ X) hE hB hr (⟨rfl, rfl⟩) dX9_full_12

set_option maxHeartbeats 4000000 in
set_option maxRecDepth 100000 in
theorem c_X9_begin_0 (l : Launch) (g : zG) (o : Nat) (a : Nat → Nat) (F : Nat → Int32) (L : Nat → Int64) (A : Nat → Nat → Int32) (X : va_W)  : Met l yX9_begin (Cond.code yX9_begin cX9_begin 2 none :: TBL) { frames := 0, cells := 0, slots := 0, locals := 0 } (zPc [.ref (a 0)] g (mW g o a F L A ++ X)) (zQv g (fun ws => ws = mW g o a F L (updA A 0 (clr (A 0))) ++ X)) 0 0 (zA (gz g)) := by
  refine z_start (by decide +kernel) rfl (Nat.le_of_ble_eq_true rfl) ?_
  intro p e s m args below meth c ls hE hr hnm hB hl
  have hl : lv_has ls 2 [(0, .ref (a 0))] := hl
  revert hB
  generalize s.heap = H
  generalize ([] : List Loc) = locs
  intro hB
  refine lv_iconst (v := nI 0) hE.x hE.b dX9_begin_0 rfl ?_
  refine lv_istore_n (lv' := [(1, .int (nI 0)), (0, .ref (a 0))]) hE.x hE.b dX9_begin_1 rfl hl (by decide) rfl (fun ls hl => ?_)
  have k2 : ∀ (fu : Nat) (i : Nat) (B : Nat → Nat → Int32) (H : Heap) (locs : List Loc) (ls : Array Slot), 126 - i < fu → (i ≤ 126) → (B = updA A 0 (fun k => if k < i then 0 else A 0 k)) → zB g s (mW g o a F L B ++ X) H locs → lv_has ls 2 [(1, .int (nI i)), (0, .ref (a 0))] → W p l e { frames := 0, cells := 0, slots := 0, locals := 0 } s m args below meth c H locs 0 0 (MQ below (zQv g (fun ws => ws = mW g o a F L (updA A 0 (clr (A 0))) ++ X)) args s 0 0 (zA (gz g))) (F0 m 2 ls []) := by
    intro fu
    induction fu with
    | zero => intro i B H locs ls hfu hi hB0 hB hl; exact absurd hfu (Nat.not_lt_zero _)
    | succ fu ih2 =>
      intro i B H locs ls hfu hi hB0 hB hl
      refine lv_iload_n hE.x hE.b dX9_begin_2 rfl (lv_at hl 0 rfl) ?_
      refine lv_bipush (v := (nI 126)) hE.x hE.b dX9_begin_3 rfl ?_
      refine z_ge (tgt := 18) (X := ((i : Nat) : Int)) (Y := (126 : Int)) hE dX9_begin_5 (by decide) (nI_toInt (n := i) (by omega)) rfl (fun c_1 => ?_) (fun c_1 => ?_)
      · exact z_vret (ws := mW g o a F L B ++ X) hE hB hr ((by rw [updA_up hB0 (f' := clr (A 0)) (fun x => by rw [show i = 126 by omega]; rfl)])) dX9_begin_18
      · refine lv_aload_n hE.x hE.b dX9_begin_8 rfl (lv_at hl 1 rfl) ?_
        refine lv_iload_n hE.x hE.b dX9_begin_9 rfl (lv_at hl 0 rfl) ?_
        refine lv_iconst (v := nI 0) hE.x hE.b dX9_begin_10 rfl ?_
        refine z_iast (k := i) (f := (B 0)) (x := (nI 0)) (ws' := mW g o a F L (updA B 0 (upd (B 0) i (nI 0))) ++ X) hE hB 1 rfl (by omega) (by decide) rfl dX9_begin_11 (fun H locs hB => ?_)
        refine lv_iinc (v := (nI (i + 1))) (lv' := [(1, .int (nI (i + 1))), (0, .ref (a 0))]) hE.x hE.b dX9_begin_12 hl (k := 0) rfl (nI_add _ _) (by decide) rfl (fun ls hl => ?_)
        refine lv_goto (tgt := 2) hE.x hE.b dX9_begin_15 (by decide) ?_
        exact ih2 (i + 1) (updA B 0 (upd (B 0) i (nI 0))) _ _ _ (by omega) (by omega) (updA_step hB0 fun x => by simp only [upd]; (repeat' split) <;> first | rfl | omega) hB hl
  exact k2 (126 - 0 + 1) 0 A _ _ _ (Nat.lt_succ_self _) (by omega) (updA_id fun x => rfl) hB hl

set_option maxHeartbeats 4000000 in
set_option maxRecDepth 100000 in
theorem c_X9_begin_6 (l : Launch) (g : zG) (o : Nat) (a : Nat → Nat) (F : Nat → Int32) (L : Nat → Int64) (A : Nat → Nat → Int32) (X : va_W)  : Met l yX9_begin (Cond.code yX9_begin cX9_begin 2 none :: TBL) { frames := 0, cells := 0, slots := 0, locals := 0 } (zPc [.ref (a 6)] g (mW g o a F L A ++ X)) (zQv g (fun ws => ws = mW g o a F L (updA A 6 (clr (A 6))) ++ X)) 0 0 (zA (gz g)) := by
  refine z_start (by decide +kernel) rfl (Nat.le_of_ble_eq_true rfl) ?_
  intro p e s m args below meth c ls hE hr hnm hB hl
  have hl : lv_has ls 2 [(0, .ref (a 6))] := hl
  revert hB
  generalize s.heap = H
  generalize ([] : List Loc) = locs
  intro hB
  refine lv_iconst (v := nI 0) hE.x hE.b dX9_begin_0 rfl ?_
  refine lv_istore_n (lv' := [(1, .int (nI 0)), (0, .ref (a 6))]) hE.x hE.b dX9_begin_1 rfl hl (by decide) rfl (fun ls hl => ?_)
  have k2 : ∀ (fu : Nat) (i : Nat) (B : Nat → Nat → Int32) (H : Heap) (locs : List Loc) (ls : Array Slot), 126 - i < fu → (i ≤ 126) → (B = updA A 6 (fun k => if k < i then 0 else A 6 k)) → zB g s (mW g o a F L B ++ X) H locs → lv_has ls 2 [(1, .int (nI i)), (0, .ref (a 6))] → W p l e { frames := 0, cells := 0, slots := 0, locals := 0 } s m args below meth c H locs 0 0 (MQ below (zQv g (fun ws => ws = mW g o a F L (updA A 6 (clr (A 6))) ++ X)) args s 0 0 (zA (gz g))) (F0 m 2 ls []) := by
    intro fu
    induction fu with
    | zero => intro i B H locs ls hfu hi hB0 hB hl; exact absurd hfu (Nat.not_lt_zero _)
    | succ fu ih2 =>
      intro i B H locs ls hfu hi hB0 hB hl
      refine lv_iload_n hE.x hE.b dX9_begin_2 rfl (lv_at hl 0 rfl) ?_
      refine lv_bipush (v := (nI 126)) hE.x hE.b dX9_begin_3 rfl ?_
      refine z_ge (tgt := 18) (X := ((i : Nat) : Int)) (Y := (126 : Int)) hE dX9_begin_5 (by decide) (nI_toInt (n := i) (by omega)) rfl (fun c_1 => ?_) (fun c_1 => ?_)
      · exact z_vret (ws := mW g o a F L B ++ X) hE hB hr ((by rw [updA_up hB0 (f' := clr (A 6)) (fun x => by rw [show i = 126 by omega]; rfl)])) dX9_begin_18
      · refine lv_aload_n hE.x hE.b dX9_begin_8 rfl (lv_at hl 1 rfl) ?_
        refine lv_iload_n hE.x hE.b dX9_begin_9 rfl (lv_at hl 0 rfl) ?_
        refine lv_iconst (v := nI 0) hE.x hE.b dX9_begin_10 rfl ?_
        refine z_iast (k := i) (f := (B 6)) (x := (nI 0)) (ws' := mW g o a F L (updA B 6 (upd (B 6) i (nI 0))) ++ X) hE hB 7 rfl (by omega) (by decide) rfl dX9_begin_11 (fun H locs hB => ?_)
        refine lv_iinc (v := (nI (i + 1))) (lv' := [(1, .int (nI (i + 1))), (0, .ref (a 6))]) hE.x hE.b dX9_begin_12 hl (k := 0) rfl (nI_add _ _) (by decide) rfl (fun ls hl => ?_)
        refine lv_goto (tgt := 2) hE.x hE.b dX9_begin_15 (by decide) ?_
        exact ih2 (i + 1) (updA B 6 (upd (B 6) i (nI 0))) _ _ _ (by omega) (by omega) (updA_step hB0 fun x => by simp only [upd]; (repeat' split) <;> first | rfl | omega) hB hl
  exact k2 (126 - 0 + 1) 0 A _ _ _ (Nat.lt_succ_self _) (by omega) (updA_id fun x => rfl) hB hl
