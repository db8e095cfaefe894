theorem tkB_r {b : Nat → Int32} {ln q : Nat} {lo hi : Int} (h : tkB b ln q lo hi = true) : kd b ln q = 2 ∧ lo ≤ (vl b ln q : Int) ∧ (vl b ln q : Int) ≤ hi := by
  unfold tkB inZ at h
  rw [Bool.and_eq_true] at h
  exact ⟨of_decide_eq_true h.1, of_decide_eq_true h.2⟩
def xI (x : zX) : Int32 := match x with
  | .inl e => (-10) - nI e
  | .inr y => nI y.1
theorem pLp_0 {b : Nat → Int32} {ln f T C q it : Nat} {N : Nat → Int32} (hf : 0 < f) (h : kd b ln q = 0) : pLp b ln f N T C q it = .inr (it, N, T, C) := by
  cases f with
  | zero => omega
  | succ f => simp only [pLp]; rw [if_pos h]
theorem pLp_e {b : Nat → Int32} {ln f T C q it : Nat} {N : Nat → Int32} (hf : 0 < f) (h : ¬ kd b ln q = 0) (hx : ¬ (xr (pIt b ln N T C q) = true ∧ kd b ln (xq (pIt b ln N T C q)) = 3)) : pLp b ln f N T C q it = .inl (xq (pIt b ln N T C q)) := by
  cases f with
  | zero => omega
  | succ f =>
    simp only [pLp]
    rw [if_neg h]
    split
    · next h1 => rw [if_neg (fun z => hx ⟨h1, z⟩)]
    · rfl
theorem pLp_s {b : Nat → Int32} {ln f T C q it : Nat} {N : Nat → Int32} (hf : 0 < f) (h : ¬ kd b ln q = 0) (h1 : xr (pIt b ln N T C q) = true) (h2 : kd b ln (xq (pIt b ln N T C q)) = 3) : pLp b ln f N T C q it = pLp b ln (f - 1) (xN (pIt b ln N T C q) N) (xT (pIt b ln N T C q)) (xC (pIt b ln N T C q)) (nx b ln (xq (pIt b ln N T C q))) (it + 1) := by
  cases f with
  | zero => omega
  | succ f =>
    simp only [pLp]
    rw [if_neg h, if_pos h1, if_pos h2, Nat.add_sub_cancel]
/-- rows that a text tells: counts -/
def pK (N : Nat → Int32) (T C : Nat) : Prop := N 0 = nI T ∧ T ≤ 6 ∧ N 1 = nI C ∧ C ≤ 8
theorem nTown_0 {N : Nat → Int32} {T : Nat} {r : Int32} : nTown N T r 0 = nI (T + 1) := by simp [nTown, upd]
theorem nTown_x {N : Nat → Int32} {T x : Nat} {r : Int32} (h0 : x ≠ 0) (h : x ≠ 4 + T) : nTown N T r x = N x := by simp only [nTown, upd]; rw [if_neg h0, if_neg h]
theorem nRoad_x {N : Nat → Int32} {i j x : Nat} {d : Int32} (h : x < 10 ∨ 46 ≤ x) (hi : i < 6) (hj : j < 6) : nRoad N i j d x = N x := by simp only [nRoad, upd]; rw [if_neg (by omega), if_neg (by omega)]
theorem nRoad_l {N : Nat → Int32} {i j x : Nat} {d : Int32} (h : x < 10) : nRoad N i j d x = N x := by simp only [nRoad, upd]; rw [if_neg (by omega), if_neg (by omega)]
theorem nCl_1 {N : Nat → Int32} {C : Nat} {k a f t w : Int32} : nCl N C k a f t w 1 = nI (C + 1) := by simp [nCl, upd]
theorem nCl_x {N : Nat → Int32} {C x : Nat} {k a f t w : Int32} (h1 : x ≠ 1) (h : x < 46 + 5 * C ∨ 51 + 5 * C ≤ x) : nCl N C k a f t w x = N x := by
  simp only [nCl, upd]
  rw [if_neg h1, if_neg (by omega), if_neg (by omega), if_neg (by omega), if_neg (by omega), if_neg (by omega)]
theorem pTw_k {b : Nat → Int32} {ln q T C : Nat} {N : Nat → Int32} (h : pK N T C) (hx : xr (pTw b ln N T C q) = true) : pK (xN (pTw b ln N T C q) N) (xT (pTw b ln N T C q)) (xC (pTw b ln N T C q)) := by
  unfold pTw at *
  repeat' split at hx
  · cases hx
  · next h1 h2 =>
    rw [if_neg h1, if_pos h2]
    have := h.2.1
    refine ⟨?_, by show T + 1 ≤ 6; omega, ?_, h.2.2.2⟩
    · exact nTown_0 (N := N) (T := T) (r := nI (vl b ln (nx b ln q)))
    · exact (nTown_x (by omega) (by omega)).trans h.2.2.1
  · cases hx
theorem pRd_k {b : Nat → Int32} {ln q T C : Nat} {N : Nat → Int32} (h : pK N T C) (hx : xr (pRd b ln N T C q) = true) : pK (xN (pRd b ln N T C q) N) (xT (pRd b ln N T C q)) (xC (pRd b ln N T C q)) := by
  unfold pRd at *
  simp only at *
  repeat' split at hx
  · cases hx
  · next h1 h2 h3 h4 =>
    rw [if_pos h1, if_neg h2, if_pos h3, if_pos h4]
    refine ⟨?_, h.2.1, ?_, h.2.2.2⟩
    · exact (nRoad_l (by omega)).trans h.1
    · exact (nRoad_l (by omega)).trans h.2.2.1
  · cases hx
  · cases hx
  · cases hx
theorem pCl_k {b : Nat → Int32} {ln q T C : Nat} {N : Nat → Int32} (h : pK N T C) (hx : xr (pCl b ln N T C q) = true) : pK (xN (pCl b ln N T C q) N) (xT (pCl b ln N T C q)) (xC (pCl b ln N T C q)) := by
  unfold pCl at *
  simp only at *
  repeat' split at hx
  · cases hx
  · next h0 h1 h2 h3 h4 h5 =>
    rw [if_neg h0, if_pos h1, if_pos h2, if_pos h3, if_pos h4, if_pos h5]
    have := h.2.2.2
    refine ⟨?_, h.2.1, ?_, by show C + 1 ≤ 8; omega⟩
    · exact (nCl_x (N := N) (C := C) (k := (nI (vl b ln (nx b ln q)))) (a := (nI (vl b ln (nx b ln (nx b ln q))))) (f := (nI (vl b ln (nx b ln (nx b ln (nx b ln q)))))) (t := (nI (vl b ln (nx b ln (nx b ln (nx b ln (nx b ln q))))))) (w := (nI (vl b ln (nx b ln (nx b ln (nx b ln (nx b ln (nx b ln q)))))))) (by omega) (by omega)).trans h.1
    · exact nCl_1 (N := N) (C := C) (k := (nI (vl b ln (nx b ln q)))) (a := (nI (vl b ln (nx b ln (nx b ln q))))) (f := (nI (vl b ln (nx b ln (nx b ln (nx b ln q)))))) (t := (nI (vl b ln (nx b ln (nx b ln (nx b ln (nx b ln q))))))) (w := (nI (vl b ln (nx b ln (nx b ln (nx b ln (nx b ln (nx b ln q))))))))
  all_goals cases hx
theorem pIt_k {b : Nat → Int32} {ln q T C : Nat} {N : Nat → Int32} (h : pK N T C) (hx : xr (pIt b ln N T C q) = true) : pK (xN (pIt b ln N T C q) N) (xT (pIt b ln N T C q)) (xC (pIt b ln N T C q)) := by
  unfold pIt at *
  split at hx
  · next h1 => rw [if_pos h1]; exact pTw_k h hx
  · next h1 =>
    rw [if_neg h1]
    split at hx
    · next h2 => rw [if_pos h2]; exact pRd_k h hx
    · next h2 =>
      rw [if_neg h2]
      split at hx
      · next h3 => rw [if_pos h3]; exact pCl_k h hx
      · cases hx
theorem nx_ge {b : Nat → Int32} {ln p : Nat} (h : p ≤ ln) : p ≤ nx b ln p := by
  have h2 : p + le b ln p ≤ skF b ln (ln - (p + le b ln p)) (p + le b ln p) := (sk_le (le_in h)).1
  unfold nx sk
  omega
theorem pTw_q {b : Nat → Int32} {ln q T C : Nat} {N : Nat → Int32} (h : q ≤ ln) : q ≤ xq (pTw b ln N T C q) ∧ xq (pTw b ln N T C q) ≤ ln := by
  have a1 := nx_ge (b := b) h
  have b1 := nx_in (b := b) h
  have a2 := nx_ge (b := b) b1
  have b2 := nx_in (b := b) b1
  unfold pTw
  repeat' split
  · exact ⟨Nat.le_refl _, h⟩
  · exact ⟨Nat.le_trans a1 a2, b2⟩
  · exact ⟨a1, b1⟩
theorem pRd_q {b : Nat → Int32} {ln q T C : Nat} {N : Nat → Int32} (h : q ≤ ln) : q ≤ xq (pRd b ln N T C q) ∧ xq (pRd b ln N T C q) ≤ ln := by
  have a1 := nx_ge (b := b) h
  have b1 := nx_in (b := b) h
  have a2 := nx_ge (b := b) b1
  have b2 := nx_in (b := b) b1
  have a3 := nx_ge (b := b) b2
  have b3 := nx_in (b := b) b2
  have a4 := nx_ge (b := b) b3
  have b4 := nx_in (b := b) b3
  unfold pRd
  simp only
  repeat' split
  all_goals (simp only [xq]; omega)
theorem pCl_q {b : Nat → Int32} {ln q T C : Nat} {N : Nat → Int32} (h : q ≤ ln) : q ≤ xq (pCl b ln N T C q) ∧ xq (pCl b ln N T C q) ≤ ln := by
  have a1 := nx_ge (b := b) h
  have b1 := nx_in (b := b) h
  have a2 := nx_ge (b := b) b1
  have b2 := nx_in (b := b) b1
  have a3 := nx_ge (b := b) b2
  have b3 := nx_in (b := b) b2
  have a4 := nx_ge (b := b) b3
  have b4 := nx_in (b := b) b3
  have a5 := nx_ge (b := b) b4
  have b5 := nx_in (b := b) b4
  have a6 := nx_ge (b := b) b5
  have b6 := nx_in (b := b) b5
  unfold pCl
  simp only
  repeat' split
  all_goals (simp only [xq]; omega)
theorem pIt_q {b : Nat → Int32} {ln q T C : Nat} {N : Nat → Int32} (h : q ≤ ln) : q ≤ xq (pIt b ln N T C q) ∧ xq (pIt b ln N T C q) ≤ ln := by
  unfold pIt
  repeat' split
  · exact pTw_q h
  · exact pRd_q h
  · exact pCl_q h
  · exact ⟨Nat.le_refl _, h⟩
