/-! What a state is: the model's cells (mW); words over its rows. -/
def updA (A : Nat → Nat → Int32) (j : Nat) (f : Nat → Int32) : Nat → Nat → Int32 := fun i => if i = j then f else A i
def mW (g : zG) (o : Nat) (a : Nat → Nat) (F : Nat → Int32) (L : Nat → Int64) (A : Nat → Nat → Int32) : va_W := [(o, .inr (9, [.ref (a 0), .ref (a 1), .ref (a 2), .ref (a 3), .long (L 4), .long (L 5), .int (F 6), .int (F 7), .int (F 8), .int (F 9), .int (F 10), .int (F 11), .ref (a 4), .int (F 13), .long (L 14), .ref (a 5), .int (F 16), .int (F 17), .int (F 18), .int (F 19), .int (F 20), .ref (a 6), .ref (a 7)])), (a 0, .inl (gI g, 454, .inl (A 0))), (a 1, .inl (gI g, 908, .inl (A 1))), (a 2, .inl (gZ g, 2, .inl (A 2))), (a 3, .inl (gI g, 3, .inl (A 3))), (a 4, .inl (gI g, 6, .inl (A 4))), (a 5, .inl (gI g, 150, .inl (A 5))), (a 6, .inl (gI g, 126, .inl (A 6))), (a 7, .inl (gI g, 5, .inl (A 7)))]
def pIn (lo hi : Int) (x : Int32) : Bool := decide (lo ≤ x.toInt ∧ x.toInt ≤ hi)
def pTown (T : Nat) (x : Int32) : Bool := decide (0 ≤ x.toInt ∧ x.toInt < (T : Int))
theorem pIn_nI {hi : Nat} {x : Int32} (h : pIn 0 hi x = true) (hh : hi < 2 ^ 31) : ∃ k : Nat, k ≤ hi ∧ x = nI k := by
  have h2 := of_decide_eq_true h
  refine ⟨x.toInt.toNat, by omega, ?_⟩
  apply Int32.toInt_inj.mp
  rw [nI_toInt (by omega)]
  omega
theorem pTown_nI {T : Nat} {x : Int32} (h : pTown T x = true) (hh : T < 2 ^ 31) : ∃ k : Nat, k < T ∧ x = nI k := by
  have h2 := of_decide_eq_true h
  refine ⟨x.toInt.toNat, by omega, ?_⟩
  apply Int32.toInt_inj.mp
  rw [nI_toInt (by omega)]
  omega
/-- a count of refused calls grows -/
def bump (i : Nat) (A : Nat → Nat → Int32) : Nat → Nat → Int32 := updA A 3 (upd (A 3) i (A 3 i + nI 1))
/-- what a row of told things keeps to -/
def nOK (n : Nat → Int32) (T C V U : Nat) : Prop :=
  (n 0 = nI T ∧ T ≤ 6) ∧ (n 1 = nI C ∧ C ≤ 8) ∧ (n 2 = nI V ∧ V ≤ 8) ∧ (n 3 = nI U ∧ U ≤ 8) ∧ (∀ i, i < 36 → ∃ d, d ≤ 9 ∧ n (10 + i) = nI d) ∧
  (∀ k, k < V → ∃ t a d y z, t < T ∧ a ≤ 5 ∧ d ≤ 59 ∧ y ≤ 1 ∧ z ≤ 1 ∧ n (86 + 5 * k) = nI t ∧ n (86 + 5 * k + 1) = nI a ∧ n (86 + 5 * k + 2) = nI d ∧ n (86 + 5 * k + 3) = nI y ∧ n (86 + 5 * k + 4) = nI z) ∧
  (∀ j, j < U → ∃ c, c ≤ 8 ∧ n (126 + 41 * j + 40) = nI c)
theorem nOK.T {n : Nat → Int32} {T C V U : Nat} (h : nOK n T C V U) : n 0 = nI T := h.1.1
theorem nOK.T6 {n : Nat → Int32} {T C V U : Nat} (h : nOK n T C V U) : T ≤ 6 := h.1.2
theorem nOK.C {n : Nat → Int32} {T C V U : Nat} (h : nOK n T C V U) : n 1 = nI C := h.2.1.1
theorem nOK.C8 {n : Nat → Int32} {T C V U : Nat} (h : nOK n T C V U) : C ≤ 8 := h.2.1.2
theorem nOK.V {n : Nat → Int32} {T C V U : Nat} (h : nOK n T C V U) : n 2 = nI V := h.2.2.1.1
theorem nOK.V8 {n : Nat → Int32} {T C V U : Nat} (h : nOK n T C V U) : V ≤ 8 := h.2.2.1.2
theorem nOK.U {n : Nat → Int32} {T C V U : Nat} (h : nOK n T C V U) : n 3 = nI U := h.2.2.2.1.1
theorem nOK.U8 {n : Nat → Int32} {T C V U : Nat} (h : nOK n T C V U) : U ≤ 8 := h.2.2.2.1.2
theorem nOK.R {n : Nat → Int32} {T C V U : Nat} (h : nOK n T C V U) : ∀ i, i < 36 → ∃ d, d ≤ 9 ∧ n (10 + i) = nI d := h.2.2.2.2.1
theorem nOK.Lv {n : Nat → Int32} {T C V U : Nat} (h : nOK n T C V U) : ∀ k, k < V → ∃ t a d y z, t < T ∧ a ≤ 5 ∧ d ≤ 59 ∧ y ≤ 1 ∧ z ≤ 1 ∧ n (86 + 5 * k) = nI t ∧ n (86 + 5 * k + 1) = nI a ∧ n (86 + 5 * k + 2) = nI d ∧ n (86 + 5 * k + 3) = nI y ∧ n (86 + 5 * k + 4) = nI z := h.2.2.2.2.2.1
theorem nOK.P {n : Nat → Int32} {T C V U : Nat} (h : nOK n T C V U) : ∀ j, j < U → ∃ c, c ≤ 8 ∧ n (126 + 41 * j + 40) = nI c := h.2.2.2.2.2.2
/-- the first 126 places are empty -/
def clr (f : Nat → Int32) : Nat → Int32 := fun k => if k < 126 then 0 else f k
theorem bI_dec {P Q : Prop} [Decidable P] [Decidable Q] (h : P ↔ Q) : bI (decide P) = bI (decide Q) := congrArg bI (decide_eq_decide.mpr h)
theorem bI_decT {P : Prop} [Decidable P] (h : P) : bI true = bI (decide P) := by rw [decide_eq_true h]
theorem bI_decF {P : Prop} [Decidable P] (h : ¬ P) : bI false = bI (decide P) := by rw [decide_eq_false h]
