theorem dX4_moveClauses_0 : decode cX4_moveClauses 0 = .ok (.iconst 0, 1) := by decide +kernel
theorem dX4_moveClauses_1 : decode cX4_moveClauses 1 = .ok (.istore 5, 2) := by decide +kernel
theorem dX4_moveClauses_3 : decode cX4_moveClauses 3 = .ok (.iload 5, 2) := by decide +kernel
theorem dX4_moveClauses_5 : decode cX4_moveClauses 5 = .ok (.iload 4, 2) := by decide +kernel
theorem dX4_moveClauses_7 : decode cX4_moveClauses 7 = .ok (.if_icmp .ge 21, 3) := by decide +kernel
theorem dX4_moveClauses_10 : decode cX4_moveClauses 10 = .ok (.aload_n 2, 1) := by decide +kernel
theorem dX4_moveClauses_11 : decode cX4_moveClauses 11 = .ok (.iload_n 3, 1) := by decide +kernel
theorem dX4_moveClauses_12 : decode cX4_moveClauses 12 = .ok (.iload 5, 2) := by decide +kernel
theorem dX4_moveClauses_14 : decode cX4_moveClauses 14 = .ok (.iadd, 1) := by decide +kernel
theorem dX4_moveClauses_15 : decode cX4_moveClauses 15 = .ok (.aload_n 0, 1) := by decide +kernel
theorem dX4_moveClauses_16 : decode cX4_moveClauses 16 = .ok (.iload_n 1, 1) := by decide +kernel
theorem dX4_moveClauses_17 : decode cX4_moveClauses 17 = .ok (.iload 5, 2) := by decide +kernel
theorem dX4_moveClauses_19 : decode cX4_moveClauses 19 = .ok (.iadd, 1) := by decide +kernel
theorem dX4_moveClauses_20 : decode cX4_moveClauses 20 = .ok (.aaload, 1) := by decide +kernel
theorem dX4_moveClauses_21 : decode cX4_moveClauses 21 = .ok (.aastore, 1) := by decide +kernel
theorem dX4_moveClauses_22 : decode cX4_moveClauses 22 = .ok (.iinc 5 1, 3) := by decide +kernel
theorem dX4_moveClauses_25 : decode cX4_moveClauses 25 = .ok (.goto (-22), 3) := by decide +kernel
theorem dX4_moveClauses_28 : decode cX4_moveClauses 28 = .ok (.return_, 1) := by decide +kernel
theorem kX4_moveClauses : zCS yX4_moveClauses cX4_moveClauses 6 none 5 := ⟨q1_163, q1_2, q1_164, by decide +kernel, by decide +kernel, by decide +kernel⟩
set_option maxHeartbeats 4000000 in
set_option maxRecDepth 100000 in
theorem c_X4_moveClauses_d (l : Launch) (g : zG) (sa : Nat) (da : Nat) (n0 : Nat) (n1 : Nat) (sp : Nat) (dp : Nat) (mm : Nat) (q0 : Nat) (q1 : Nat) (f : Nat → Option Nat) (h : Nat → Option Nat) (X : va_W) (hs : X[q0]? = some (nC g sa n0 f)) (hd : X[q1]? = some (nC g da n1 h)) (hne : q1 ≠ q0) (h0 : sp + mm ≤ n0) (h1 : dp + mm ≤ n1) (h2 : n0 < 1000 ∧ n1 < 1000) (hb : bN f n0 X) : Met l yX4_moveClauses (Cond.code yX4_moveClauses cX4_moveClauses 6 none :: TBL) { frames := 0, cells := 0, slots := 0, locals := 0 } (zPc [.ref sa, .int (nI sp), .ref da, .int (nI dp), .int (nI mm)] g (X)) (zQv g (fun ws => ws = (X.set q1 (nC g da n1 (va_cpy f h sp dp mm))))) 0 0 (zA (gz g)) := by
  refine z_start (by decide +kernel) rfl (Nat.le_of_ble_eq_true rfl) ?_
  intro p e s m args below meth c ls hE hr hnm hB hl
  have hl : lv_has ls 6 [(0, .ref sa), (1, .int (nI sp)), (2, .ref da), (3, .int (nI dp)), (4, .int (nI mm))] := hl
  revert hB
  generalize s.heap = H
  generalize ([] : List Loc) = locs
  intro hB
  refine lv_iconst (v := nI 0) hE.x hE.b dX4_moveClauses_0 rfl ?_
  refine lv_istore (lv' := [(5, .int (nI 0)), (0, .ref sa), (1, .int (nI sp)), (2, .ref da), (3, .int (nI dp)), (4, .int (nI mm))]) hE.x hE.b dX4_moveClauses_1 hl (by decide) rfl (fun ls hl => ?_)
  have hB : zB g s (X.set q1 (nC g da n1 (va_cpy f h sp dp 0))) H locs := by rw [cpy_0, set_same hd]; exact hB
  have k3 : ∀ (fu : Nat) (i : Nat) (H : Heap) (locs : List Loc) (ls : Array Slot), mm - i < fu → (i ≤ mm) → zB g s ((X.set q1 (nC g da n1 (va_cpy f h sp dp i)))) H locs → lv_has ls 6 [(5, .int (nI i)), (0, .ref sa), (1, .int (nI sp)), (2, .ref da), (3, .int (nI dp)), (4, .int (nI mm))] → W p l e { frames := 0, cells := 0, slots := 0, locals := 0 } s m args below meth c H locs 0 0 (MQ below (zQv g (fun ws => ws = (X.set q1 (nC g da n1 (va_cpy f h sp dp mm))))) args s 0 0 (zA (gz g))) (F0 m 3 ls []) := by
    intro fu
    induction fu with
    | zero => intro i H locs ls hfu hi hB hl; exact absurd hfu (Nat.not_lt_zero _)
    | succ fu ih3 =>
      intro i H locs ls hfu hi hB hl
      refine lv_iload hE.x hE.b dX4_moveClauses_3 (lv_at hl 0 rfl) ?_
      refine lv_iload hE.x hE.b dX4_moveClauses_5 (lv_at hl 5 rfl) ?_
      refine z_ge (tgt := 28) (X := ((i : Nat) : Int)) (Y := ((mm : Nat) : Int)) hE dX4_moveClauses_7 (by decide) (nI_toInt (n := i) (by omega)) (nI_toInt (n := mm) (by omega)) (fun c_1 => ?_) (fun c_1 => ?_)
      · exact z_vret (ws := (X.set q1 (nC g da n1 (va_cpy f h sp dp i)))) hE hB hr (by rw [show mm = i by omega]) dX4_moveClauses_28
      · refine lv_aload_n hE.x hE.b dX4_moveClauses_10 rfl (lv_at hl 3 rfl) ?_
        refine lv_iload_n hE.x hE.b dX4_moveClauses_11 rfl (lv_at hl 4 rfl) ?_
        refine lv_iload hE.x hE.b dX4_moveClauses_12 (lv_at hl 0 rfl) ?_
        refine z_iaddN hE dX4_moveClauses_14 ?_
        refine lv_aload_n hE.x hE.b dX4_moveClauses_15 rfl (lv_at hl 1 rfl) ?_
        refine lv_iload_n hE.x hE.b dX4_moveClauses_16 rfl (lv_at hl 2 rfl) ?_
        refine lv_iload hE.x hE.b dX4_moveClauses_17 (lv_at hl 0 rfl) ?_
        refine z_iaddN hE dX4_moveClauses_19 ?_
        refine z_nald (k := sp + i) (f := f) hE hB q0 (by rw [List.getElem?_set_ne hne]; exact hs) (by omega) (by omega) dX4_moveClauses_20 ?_
        refine z_nast (k := dp + i) (f := va_cpy f h sp dp i) (v := f (sp + i)) (ws' := (X.set q1 (nC g da n1 (va_cpy f h sp dp (i + 1))))) hE hB q1 (set_at hd) (by omega) (by omega) (fun q hq => by obtain ⟨k9, A9, F9, E9, W9, h5, h6⟩ := hb _ (by omega) q hq; exact ⟨k9, A9, F9, E9, W9, h5, set_mem hd h6 bE_nC⟩) (by rw [List.set_set, cpy_s]) dX4_moveClauses_21 (fun H locs hB => ?_)
        refine lv_iinc (v := (nI (i + 1))) (lv' := [(5, .int (nI (i + 1))), (0, .ref sa), (1, .int (nI sp)), (2, .ref da), (3, .int (nI dp)), (4, .int (nI mm))]) hE.x hE.b dX4_moveClauses_22 hl (k := 0) rfl (nI_add _ _) (by decide) rfl (fun ls hl => ?_)
        refine lv_goto (tgt := 3) hE.x hE.b dX4_moveClauses_25 (by decide) ?_
        exact ih3 (i + 1) _ _ _ (by omega) (by omega) hB hl
  exact k3 (mm - 0 + 1) 0 _ _ _ (Nat.lt_succ_self _) (by omega) hB hl

set_option maxHeartbeats 4000000 in
set_option maxRecDepth 100000 in
theorem c_X4_moveClauses_s (l : Launch) (g : zG) (da : Nat) (n1 : Nat) (sp : Nat) (dp : Nat) (mm : Nat) (q1 : Nat) (f : Nat → Option Nat) (X : va_W) (hd : X[q1]? = some (nC g da n1 f)) (hle : dp ≤ sp) (h0 : sp + mm ≤ n1) (h1 : dp + mm ≤ n1) (h2 : n1 < 1000 ∧ n1 < 1000) (hb : bN f n1 X) : Met l yX4_moveClauses (Cond.code yX4_moveClauses cX4_moveClauses 6 none :: TBL) { frames := 0, cells := 0, slots := 0, locals := 0 } (zPc [.ref da, .int (nI sp), .ref da, .int (nI dp), .int (nI mm)] g (X)) (zQv g (fun ws => ws = (X.set q1 (nC g da n1 (va_cpy f f sp dp mm))))) 0 0 (zA (gz g)) := by
  refine z_start (by decide +kernel) rfl (Nat.le_of_ble_eq_true rfl) ?_
  intro p e s m args below meth c ls hE hr hnm hB hl
  have hl : lv_has ls 6 [(0, .ref da), (1, .int (nI sp)), (2, .ref da), (3, .int (nI dp)), (4, .int (nI mm))] := hl
  revert hB
  generalize s.heap = H
  generalize ([] : List Loc) = locs
  intro hB
  refine lv_iconst (v := nI 0) hE.x hE.b dX4_moveClauses_0 rfl ?_
  refine lv_istore (lv' := [(5, .int (nI 0)), (0, .ref da), (1, .int (nI sp)), (2, .ref da), (3, .int (nI dp)), (4, .int (nI mm))]) hE.x hE.b dX4_moveClauses_1 hl (by decide) rfl (fun ls hl => ?_)
  have hB : zB g s (X.set q1 (nC g da n1 (va_cpy f f sp dp 0))) H locs := by rw [cpy_0, set_same hd]; exact hB
  have k3 : ∀ (fu : Nat) (i : Nat) (H : Heap) (locs : List Loc) (ls : Array Slot), mm - i < fu → (i ≤ mm) → zB g s ((X.set q1 (nC g da n1 (va_cpy f f sp dp i)))) H locs → lv_has ls 6 [(5, .int (nI i)), (0, .ref da), (1, .int (nI sp)), (2, .ref da), (3, .int (nI dp)), (4, .int (nI mm))] → W p l e { frames := 0, cells := 0, slots := 0, locals := 0 } s m args below meth c H locs 0 0 (MQ below (zQv g (fun ws => ws = (X.set q1 (nC g da n1 (va_cpy f f sp dp mm))))) args s 0 0 (zA (gz g))) (F0 m 3 ls []) := by
    intro fu
    induction fu with
    | zero => intro i H locs ls hfu hi hB hl; exact absurd hfu (Nat.not_lt_zero _)
    | succ fu ih3 =>
      intro i H locs ls hfu hi hB hl
      refine lv_iload hE.x hE.b dX4_moveClauses_3 (lv_at hl 0 rfl) ?_
      refine lv_iload hE.x hE.b dX4_moveClauses_5 (lv_at hl 5 rfl) ?_
      refine z_ge (tgt := 28) (X := ((i : Nat) : Int)) (Y := ((mm : Nat) : Int)) hE dX4_moveClauses_7 (by decide) (nI_toInt (n := i) (by omega)) (nI_toInt (n := mm) (by omega)) (fun c_1 => ?_) (fun c_1 => ?_)
      · exact z_vret (ws := (X.set q1 (nC g da n1 (va_cpy f f sp dp i)))) hE hB hr (by rw [show mm = i by omega]) dX4_moveClauses_28
      · refine lv_aload_n hE.x hE.b dX4_moveClauses_10 rfl (lv_at hl 3 rfl) ?_
        refine lv_iload_n hE.x hE.b dX4_moveClauses_11 rfl (lv_at hl 4 rfl) ?_
        refine lv_iload hE.x hE.b dX4_moveClauses_12 (lv_at hl 0 rfl) ?_
        refine z_iaddN hE dX4_moveClauses_14 ?_
        refine lv_aload_n hE.x hE.b dX4_moveClauses_15 rfl (lv_at hl 1 rfl) ?_
        refine lv_iload_n hE.x hE.b dX4_moveClauses_16 rfl (lv_at hl 2 rfl) ?_
        refine lv_iload hE.x hE.b dX4_moveClauses_17 (lv_at hl 0 rfl) ?_
        refine z_iaddN hE dX4_moveClauses_19 ?_
        refine z_nald (k := sp + i) (f := va_cpy f f sp dp i) hE hB q1 (set_at hd) (by omega) (by omega) dX4_moveClauses_20 ?_
        refine z_topv (y := va_rf (f (sp + i))) (by rw [cpy_at hle]) ?_
        refine z_nast (k := dp + i) (f := va_cpy f f sp dp i) (v := f (sp + i)) (ws' := (X.set q1 (nC g da n1 (va_cpy f f sp dp (i + 1))))) hE hB q1 (set_at hd) (by omega) (by omega) (fun q hq => by obtain ⟨k9, A9, F9, E9, W9, h5, h6⟩ := hb _ (by omega) q hq; exact ⟨k9, A9, F9, E9, W9, h5, set_mem hd h6 bE_nC⟩) (by rw [List.set_set, cpy_s]) dX4_moveClauses_21 (fun H locs hB => ?_)
        refine lv_iinc (v := (nI (i + 1))) (lv' := [(5, .int (nI (i + 1))), (0, .ref da), (1, .int (nI sp)), (2, .ref da), (3, .int (nI dp)), (4, .int (nI mm))]) hE.x hE.b dX4_moveClauses_22 hl (k := 0) rfl (nI_add _ _) (by decide) rfl (fun ls hl => ?_)
        refine lv_goto (tgt := 3) hE.x hE.b dX4_moveClauses_25 (by decide) ?_
        exact ih3 (i + 1) _ _ _ (by omega) (by omega) hB hl
  exact k3 (mm - 0 + 1) 0 _ _ _ (Nat.lt_succ_self _) (by omega) hB hl
