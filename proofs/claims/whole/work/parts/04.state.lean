/-! What a state is: the model's cells (mW); words over its rows. -/
def updA (A : Nat → Nat → Int32) (j : Nat) (f : Nat → Int32) : Nat → Nat → Int32 := fun i => if i = j then f else A i
def mW (g : zG) (o : Nat) (a : Nat → Nat) (F : Nat → Int32) (L : Nat → Int64) (A : Nat → Nat → Int32) : va_W := [(o, .inr (9, [.ref (a 0), .ref (a 1), .ref (a 2), .ref (a 3), .long (L 4), .long (L 5), .int (F 6), .int (F 7), .int (F 8), .int (F 9), .int (F 10), .int (F 11), .ref (a 4), .int (F 13), .long (L 14), .ref (a 5), .int (F 16), .int (F 17), .int (F 18), .int (F 19), .int (F 20), .ref (a 6), .ref (a 7)])), (a 0, .inl (gI g, 454, .inl (A 0))), (a 1, .inl (gI g, 908, .inl (A 1))), (a 2, .inl (gZ g, 2, .inl (A 2))), (a 3, .inl (gI g, 3, .inl (A 3))), (a 4, .inl (gI g, 6, .inl (A 4))), (a 5, .inl (gI g, 150, .inl (A 5))), (a 6, .inl (gI g, 126, .inl (A 6))), (a 7, .inl (gI g, 5, .inl (A 7)))]
def inZ (lo hi v : Int) : Bool := decide (lo ≤ v ∧ v ≤ hi)
abbrev pIn (lo hi : Int) (x : Int32) : Bool := inZ lo hi x.toInt
def pTown (T : Nat) (x : Int32) : Bool := decide (0 ≤ x.toInt ∧ x.toInt < (T : Int))
theorem pIn_nI {hi : Nat} {x : Int32} (h : pIn 0 hi x = true) (hh : hi < 2 ^ 31) : ∃ k : Nat, k ≤ hi ∧ x = nI k := by
  have h2 := of_decide_eq_true h
  refine ⟨x.toInt.toNat, by omega, ?_⟩
  apply Int32.toInt_inj.mp
  rw [nI_toInt (by omega)]
  omega
theorem pTown_nI {T : Nat} {x : Int32} (h : pTown T x = true) (hh : T < 2 ^ 31) : ∃ k : Nat, k < T ∧ x = nI k := by
  have h2 := of_decide_eq_true h
  refine ⟨x.toInt.toNat, by omega, ?_⟩
  apply Int32.toInt_inj.mp
  rw [nI_toInt (by omega)]
  omega
/-- a count of refused calls grows -/
def bump (i : Nat) (A : Nat → Nat → Int32) : Nat → Nat → Int32 := updA A 3 (upd (A 3) i (A 3 i + nI 1))
/-- what a row of told things keeps to -/
def nOK (n : Nat → Int32) (T C V U : Nat) : Prop :=
  (n 0 = nI T ∧ T ≤ 6) ∧ (n 1 = nI C ∧ C ≤ 8) ∧ (n 2 = nI V ∧ V ≤ 8) ∧ (n 3 = nI U ∧ U ≤ 8) ∧ (∀ i, i < 36 → ∃ d, d ≤ 9 ∧ n (10 + i) = nI d) ∧
  (∀ k, k < V → ∃ t a d y z, t < T ∧ a ≤ 5 ∧ d ≤ 59 ∧ y ≤ 1 ∧ z ≤ 1 ∧ n (86 + 5 * k) = nI t ∧ n (86 + 5 * k + 1) = nI a ∧ n (86 + 5 * k + 2) = nI d ∧ n (86 + 5 * k + 3) = nI y ∧ n (86 + 5 * k + 4) = nI z) ∧
  (∀ j, j < U → ∃ c, c ≤ 8 ∧ n (126 + 41 * j + 40) = nI c)
theorem nOK.T {n : Nat → Int32} {T C V U : Nat} (h : nOK n T C V U) : n 0 = nI T := h.1.1
theorem nOK.T6 {n : Nat → Int32} {T C V U : Nat} (h : nOK n T C V U) : T ≤ 6 := h.1.2
theorem nOK.C {n : Nat → Int32} {T C V U : Nat} (h : nOK n T C V U) : n 1 = nI C := h.2.1.1
theorem nOK.C8 {n : Nat → Int32} {T C V U : Nat} (h : nOK n T C V U) : C ≤ 8 := h.2.1.2
theorem nOK.V {n : Nat → Int32} {T C V U : Nat} (h : nOK n T C V U) : n 2 = nI V := h.2.2.1.1
theorem nOK.V8 {n : Nat → Int32} {T C V U : Nat} (h : nOK n T C V U) : V ≤ 8 := h.2.2.1.2
theorem nOK.U {n : Nat → Int32} {T C V U : Nat} (h : nOK n T C V U) : n 3 = nI U := h.2.2.2.1.1
theorem nOK.U8 {n : Nat → Int32} {T C V U : Nat} (h : nOK n T C V U) : U ≤ 8 := h.2.2.2.1.2
theorem nOK.R {n : Nat → Int32} {T C V U : Nat} (h : nOK n T C V U) : ∀ i, i < 36 → ∃ d, d ≤ 9 ∧ n (10 + i) = nI d := h.2.2.2.2.1
theorem nOK.Lv {n : Nat → Int32} {T C V U : Nat} (h : nOK n T C V U) : ∀ k, k < V → ∃ t a d y z, t < T ∧ a ≤ 5 ∧ d ≤ 59 ∧ y ≤ 1 ∧ z ≤ 1 ∧ n (86 + 5 * k) = nI t ∧ n (86 + 5 * k + 1) = nI a ∧ n (86 + 5 * k + 2) = nI d ∧ n (86 + 5 * k + 3) = nI y ∧ n (86 + 5 * k + 4) = nI z := h.2.2.2.2.2.1
theorem nOK.P {n : Nat → Int32} {T C V U : Nat} (h : nOK n T C V U) : ∀ j, j < U → ∃ c, c ≤ 8 ∧ n (126 + 41 * j + 40) = nI c := h.2.2.2.2.2.2
/-- the first 126 places are empty -/
def clr (f : Nat → Int32) : Nat → Int32 := fun k => if k < 126 then 0 else f k
theorem bI_dec {P Q : Prop} [Decidable P] [Decidable Q] (h : P ↔ Q) : bI (decide P) = bI (decide Q) := congrArg bI (decide_eq_decide.mpr h)
theorem bI_decT {P : Prop} [Decidable P] (h : P) : bI true = bI (decide P) := by rw [decide_eq_true h]
theorem bI_decF {P : Prop} [Decidable P] (h : ¬ P) : bI false = bI (decide P) := by rw [decide_eq_false h]
theorem updA_id {A : Nat → Nat → Int32} {j : Nat} {f : Nat → Int32} (h : ∀ x, f x = A j x) : A = updA A j f := by
  funext i x
  unfold updA
  split
  · next h1 => subst h1; rw [h]
  · rfl
theorem updA_eq {A : Nat → Nat → Int32} {j : Nat} {f f' : Nat → Int32} (h : ∀ x, f x = f' x) : updA A j f = updA A j f' := by rw [funext h]
theorem updA_self {A : Nat → Nat → Int32} {j : Nat} {f : Nat → Int32} : updA A j f j = f := by unfold updA; rw [if_pos rfl]
theorem updA_ne {A : Nat → Nat → Int32} {j i : Nat} {f : Nat → Int32} (h : i ≠ j) : updA A j f i = A i := by unfold updA; rw [if_neg h]
theorem updA_updA {A : Nat → Nat → Int32} {j : Nat} {f f' : Nat → Int32} : updA (updA A j f) j f' = updA A j f' := by
  funext i
  unfold updA
  split <;> rfl
theorem updA_step {A B : Nat → Nat → Int32} {j k : Nat} {f f' : Nat → Int32} {v : Int32} (h : B = updA A j f) (hf : ∀ x, upd f k v x = f' x) : updA B j (upd (B j) k v) = updA A j f' := by
  subst h
  rw [updA_self, updA_updA]
  exact updA_eq hf
theorem updA_up {A B : Nat → Nat → Int32} {j : Nat} {f f' : Nat → Int32} (h : B = updA A j f) (hf : ∀ x, f x = f' x) : B = updA A j f' := by rw [h]; exact updA_eq hf
section ZT
variable {p : Program} {l : Launch} {e : Env} {R : Room} {s : State} {m : MethodId} {args : Array Value} {below : List Frame} {meth : Method} {c : Code} {H : Heap} {locs : List Loc} {cells slots : Nat} {Q : State → Prop}
variable {pc : Nat} {ls : Array Slot} {rest : List Value}
theorem z_top {x y : Int32} (h : x = y) (k : W p l e R s m args below meth c H locs cells slots Q (F0 m pc ls (.int y :: rest))) : W p l e R s m args below meth c H locs cells slots Q (F0 m pc ls (.int x :: rest)) := by rw [h]; exact k
theorem z_topl {x y : Int64} (h : x = y) (k : W p l e R s m args below meth c H locs cells slots Q (F0 m pc ls (.long y :: rest))) : W p l e R s m args below meth c H locs cells slots Q (F0 m pc ls (.long x :: rest)) := by rw [h]; exact k
end ZT
theorem ne_toInt {x : Int32} {k : Nat} (h : ¬ x = nI k) (hk : k < 2 ^ 31) : x.toInt ≠ (k : Int) := fun z => h (Int32.toInt_inj.mp (by rw [z, nI_toInt hk]))
theorem eq_toInt {x : Int32} {k : Nat} (h : x = nI k) (hk : k < 2 ^ 31) : x.toInt = (k : Int) := by rw [h, nI_toInt hk]
theorem nI_inj {a b : Nat} (h : nI a = nI b) (ha : a < 2 ^ 31) (hb : b < 2 ^ 31) : a = b := (nI_eq ha hb).mp h
theorem nI_m1 {k : Nat} (hk : k < 2 ^ 31) : ¬ nI k = (-1 : Int32) := fun h => by
  have h2 := congrArg Int32.toInt h
  rw [nI_toInt hk] at h2
  have h3 : (-1 : Int32).toInt = -1 := rfl
  omega
/-- a place or none -/
def oI (x : Option Nat) : Int32 := match x with
  | none => (-1)
  | some k => nI k
theorem oI_some {x : Option Nat} (h : ¬ oI x = (-1)) : ∃ k, x = some k := by
  cases x with
  | none => exact absurd rfl h
  | some k => exact ⟨k, rfl⟩
theorem oI_none {x : Option Nat} (h : oI x = (-1)) (hx : ∀ k, x = some k → k < 2 ^ 31) : x = none := by
  cases x with
  | none => rfl
  | some k => exact absurd h (nI_m1 (hx k rfl))
theorem shr_nI {n k : Nat} (hn : n < 2 ^ 31) (hk : k < 32) : nI n >>> (nI k &&& 31) = nI (n / 2 ^ k) := by
  refine pk_shrN hn (nI k &&& 31) k ?_
  have h : ∀ j, j < 32 → ((nI j &&& 31).toBitVec.smod 32).toNat = j := by decide +kernel
  exact h k hk
theorem and1_nI {n : Nat} (hn : n < 2 ^ 31) : nI n &&& nI 1 = nI (n % 2) := pk_andN (by omega) 1 (by decide)
theorem shl1_nI : ∀ k, k < 8 → nI 1 <<< (nI k &&& 31) = nI (2 ^ k) := by decide +kernel
theorem or_nI (a b : Nat) : nI a ||| nI b = nI (a ||| b) := by
  apply Int32.toBitVec_inj.mp
  show BitVec.ofNat 32 a ||| BitVec.ofNat 32 b = BitVec.ofNat 32 (a ||| b)
  apply BitVec.eq_of_toNat_eq
  simp [Nat.or_mod_two_pow]
/-- how many bits of eight are set -/
def popF : Nat → Nat → Nat
  | 0, _ => 0
  | f + 1, k => k % 2 + popF f (k / 2)
def pop (k : Nat) : Nat := popF 8 k
theorem popF_0 : ∀ f, popF f 0 = 0 := by
  intro f
  induction f with
  | zero => rfl
  | succ f ih => simp [popF, ih]
theorem popF_le : ∀ f k, popF f k ≤ f := by
  intro f
  induction f with
  | zero => intro k; simp [popF]
  | succ f ih => intro k; have := ih (k / 2); simp only [popF]; omega
