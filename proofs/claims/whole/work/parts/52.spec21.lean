/-! The reader's items against the text's. -/
def wK (i : Nat) : Nat → Nat := [wLand, wTown, wRoad, wClause].getD i wLand
theorem wK_eq : ∀ i, i < 4 → ∀ j, j < wdL.getD i 0 → (wdB.getD i []).getD j 0 = nI (wK i j) := by decide +kernel
section RDR
variable {b : Nat → Int32} {ln q n k : Nat} {w : Nat → Nat}
theorem ctk_4 : ctk (kd b ln q) ≤ 4 := by
  have := kd_le (b := b) (ln := ln) (q := q)
  unfold ctk
  split <;> omega
theorem ctk_3 : ctk (kd b ln q) = 3 ↔ kd b ln q = 2 := by unfold ctk; split <;> omega
theorem ctk_2 : ctk (kd b ln q) = 2 ↔ kd b ln q = 1 := by unfold ctk; split <;> omega
theorem ctk_c : ctk (kd b ln q) = 4 ↔ kd b ln q = 3 := by
  have := kd_le (b := b) (ln := ln) (q := q)
  unfold ctk
  split <;> omega
theorem ctk_1 : ctk (kd b ln q) = 1 ↔ kd b ln q = 0 := by unfold ctk; split <;> omega
theorem wd_no1 (h : ¬ kd b ln q = 1) : false = wdQ b ln q n w := by unfold wdQ; rw [decide_eq_false fun z => h z.1]
theorem wd_no2 (h : ¬ le b ln q = n) : false = wdQ b ln q n w := by unfold wdQ; rw [decide_eq_false fun z => h z.2.1]
theorem wd_no3 (hk : k < n) (h : ¬ b (q + k) = nI (w k)) : false = wdQ b ln q n w := by unfold wdQ; rw [decide_eq_false fun z => h (z.2.2 k hk)]
theorem wd_yes (h1 : kd b ln q = 1) (h2 : le b ln q = n) (h : ∀ j, j < n → b (q + j) = nI (w j)) : true = wdQ b ln q n w := by unfold wdQ; rw [decide_eq_true ⟨h1, h2, h⟩]
theorem wdQ_1 (h : wdQ b ln q n w = true) : kd b ln q = 1 := (of_decide_eq_true h).1
theorem wd_go (h : ∀ j, j < k → b (q + j) = nI (w j)) (h2 : b (q + k) = nI (w k)) : ∀ j, j < k + 1 → b (q + j) = nI (w j) := fun j hj => by
  by_cases e : j = k
  · rw [e]; exact h2
  · exact h j (by omega)
theorem tk_no {lo hi : Int} (h : ¬ kd b ln q = 2) : false = tkB b ln q lo hi := by unfold tkB; rw [decide_eq_false h]; rfl
theorem tk_is {lo hi : Int} {e u : Int32} {v : Bool} (h : kd b ln q = 2) (hr : rdK b ln q e u) (hv : inZ lo hi u.toInt = v) : v = tkB b ln q lo hi := by
  have h9 := vl_99 (b := b) (ln := ln) (q := q)
  rw [hr.2 h, nI_toInt (by omega)] at hv
  unfold tkB
  rw [decide_eq_true h, hv]
  rfl
/-- behind ; if there is one -/
def cls (b : Nat → Int32) (ln q : Nat) : Nat := if kd b ln (nx b ln q) = 3 then nx b ln (nx b ln q) else nx b ln q
theorem cls_in (h : q ≤ ln) : cls b ln q ≤ ln := by
  unfold cls
  split
  · exact nx_in (nx_in h)
  · exact nx_in h
def okI (b : Nat → Int32) (ln : Nat) (x : zX) : Bool := xr x && decide (kd b ln (xq x) = 3)
def sR (b : Nat → Int32) (ln : Nat) (x : zX) (N : Nat → Int32) (T C : Nat) : Nat × (Nat → Int32) × Nat × Nat := if okI b ln x = true then (nx b ln (xq x), xN x N, xT x, xC x) else (xq x, N, T, C)
theorem ok_l {x : zX} {e : Nat} (h : x = .inl e) : false = okI b ln x := by rw [h]; rfl
theorem sR_l {x : zX} {e T C : Nat} {N : Nat → Int32} (h : x = .inl e) : (e, N, T, C) = sR b ln x N T C := by rw [h]; rfl
theorem ok_n {x : zX} {y : Nat × (Nat → Int32) × Nat × Nat} (h : x = .inr y) (h2 : ¬ kd b ln y.1 = 3) : false = okI b ln x := by
  rw [h]
  unfold okI xr xq
  rw [decide_eq_false h2]
  rfl
theorem ok_y {x : zX} {y : Nat × (Nat → Int32) × Nat × Nat} (h : x = .inr y) (h2 : kd b ln y.1 = 3) : true = okI b ln x := by
  rw [h]
  unfold okI xr xq
  rw [decide_eq_true h2]
  rfl
theorem sR_n {x : zX} {y : Nat × (Nat → Int32) × Nat × Nat} {T C : Nat} {N : Nat → Int32} (h : x = .inr y) (h2 : ¬ kd b ln y.1 = 3) : (y.1, N, T, C) = sR b ln x N T C := by
  unfold sR
  rw [← ok_n h h2, if_neg (by decide), h]
  rfl
theorem sR_y {x : zX} {y : Nat × (Nat → Int32) × Nat × Nat} {T C : Nat} {N : Nat → Int32} (h : x = .inr y) (h2 : kd b ln y.1 = 3) : (nx b ln y.1, y.2) = sR b ln x N T C := by
  unfold sR
  rw [← ok_y h h2, if_pos rfl, h]
  rfl
theorem pIt_t {N : Nat → Int32} {T C : Nat} (h : wdQ b ln q 4 wTown = true) : pIt b ln N T C q = pTw b ln N T C q := by unfold pIt; rw [if_pos h]
theorem pIt_r {N : Nat → Int32} {T C : Nat} (h : wdQ b ln q 4 wTown = false) (h2 : wdQ b ln q 4 wRoad = true) : pIt b ln N T C q = pRd b ln N T C q := by unfold pIt; rw [if_neg (by rw [h]; decide), if_pos h2]
theorem pIt_c {N : Nat → Int32} {T C : Nat} (h : wdQ b ln q 4 wTown = false) (h2 : wdQ b ln q 4 wRoad = false) (h3 : wdQ b ln q 6 wClause = true) : pIt b ln N T C q = pCl b ln N T C q := by unfold pIt; rw [if_neg (by rw [h]; decide), if_neg (by rw [h2]; decide), if_pos h3]
theorem pIt_n {N : Nat → Int32} {T C : Nat} (h : wdQ b ln q 4 wTown = false) (h2 : wdQ b ln q 4 wRoad = false) (h3 : wdQ b ln q 6 wClause = false) : pIt b ln N T C q = .inl q := by unfold pIt; rw [if_neg (by rw [h]; decide), if_neg (by rw [h2]; decide), if_neg (by rw [h3]; decide)]
/-- what a text tells, as the reader leaves it -/
def xJ (x : zX) : Int32 := match x with
  | .inl _ => (-1)
  | .inr y => nI y.1
def rdP (x : zX) (q : Nat) (N : Nat → Int32) (T C : Nat) : Prop := match x with
  | .inl e => q = e
  | .inr y => N = y.2.1 ∧ T = y.2.2.1 ∧ C = y.2.2.2
theorem rdP_l {x : zX} {e T C : Nat} {N : Nat → Int32} (h : x = .inl e) : (-1) = xJ x ∧ rdP x e N T C := by rw [h]; exact ⟨rfl, rfl⟩
theorem rdP_r {x : zX} {q it T C : Nat} {N : Nat → Int32} (h : x = .inr (it, N, T, C)) : nI it = xJ x ∧ rdP x q N T C := by rw [h]; exact ⟨rfl, rfl, rfl, rfl⟩
theorem it_go {R : zX} {f q9 T9 C9 T C it : Nat} {N N9 : Nat → Int32} (hS : (q9, N9, T9, C9) = sR b ln (pIt b ln N T C q) N T C) (hok : okI b ln (pIt b ln N T C q) = true) (hf : 0 < f) (h0 : ¬ kd b ln q = 0) (hr : R = pLp b ln f N T C q it) (hp : pK N T C) (hq : q ≤ ln) : R = pLp b ln (f - 1) N9 T9 C9 q9 (it + 1) ∧ q < q9 ∧ q9 ≤ ln ∧ pK N9 T9 C9 := by
  have hk : xr (pIt b ln N T C q) = true ∧ kd b ln (xq (pIt b ln N T C q)) = 3 := by
    unfold okI at hok
    rw [Bool.and_eq_true] at hok
    exact ⟨hok.1, of_decide_eq_true hok.2⟩
  unfold sR at hS
  rw [if_pos hok] at hS
  simp only [Prod.mk.injEq] at hS
  obtain ⟨rfl, rfl, rfl, rfl⟩ := hS
  have hi := pIt_q (b := b) (N := N) (T := T) (C := C) hq
  have hx : xq (pIt b ln N T C q) < ln := by
    have h9 := kd_0 (b := b) (ln := ln) (q := xq (pIt b ln N T C q))
    omega
  refine ⟨hr.trans (pLp_s hf h0 hk.1 hk.2), ?_, nx_in hi.2, pIt_k hp hk.1⟩
  have := nx_gt (b := b) hx
  omega
theorem it_no {R : zX} {f q9 T9 C9 T C it : Nat} {N N9 : Nat → Int32} (hS : (q9, N9, T9, C9) = sR b ln (pIt b ln N T C q) N T C) (hok : okI b ln (pIt b ln N T C q) = false) (hf : 0 < f) (h0 : ¬ kd b ln q = 0) (hr : R = pLp b ln f N T C q it) (hp : pK N T C) : R = .inl q9 ∧ pK N9 T9 C9 := by
  unfold sR at hS
  rw [if_neg (by rw [hok]; decide)] at hS
  simp only [Prod.mk.injEq] at hS
  obtain ⟨rfl, rfl, rfl, rfl⟩ := hS
  refine ⟨hr.trans (pLp_e hf h0 fun z => ?_), hp⟩
  unfold okI at hok
  rw [z.1, z.2] at hok
  exact absurd hok (by decide)
theorem rd_no {N : Nat → Int32} (h : wdQ b ln (sk b ln 0) 4 wLand = false) : pRead b ln N = .inl (sk b ln 0) := by unfold pRead; rw [if_neg (by rw [h]; decide)]
theorem rd_n2 {N : Nat → Int32} (h : wdQ b ln (sk b ln 0) 4 wLand = true) (h2 : ¬ kd b ln (nx b ln (sk b ln 0)) = 3) : pRead b ln N = .inl (nx b ln (sk b ln 0)) := by unfold pRead; rw [if_pos h, if_neg h2]
theorem rd_go {N : Nat → Int32} (h : wdQ b ln (sk b ln 0) 4 wLand = true) (h2 : kd b ln (nx b ln (sk b ln 0)) = 3) : pRead b ln N = pLp b ln 151 N 0 0 (nx b ln (nx b ln (sk b ln 0))) 1 := by unfold pRead; rw [if_pos h, if_pos h2]
end RDR
theorem sub1_toInt {T : Nat} (h : T < 1000) : (nI T - nI 1).toInt = (T : Int) - 1 := by
  rw [Int32.toInt_sub, nI_toInt (by omega), nI_toInt (by decide)]
  rw [Int.bmod_eq_of_le] <;> omega
