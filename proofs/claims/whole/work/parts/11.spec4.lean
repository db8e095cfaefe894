/-! Ways on roads, the nearest, pairs that contradict, what is struck that all agree. -/
theorem shl1_9 : ∀ k, k < 9 → nI 1 <<< (nI k &&& 31) = nI (2 ^ k) := by decide +kernel
def rwE (n : Nat → Int32) (i : Nat) : Nat := rc (n (10 + i))
theorem rwE_v {n : Nat → Int32} {T C V U i j : Nat} (h : nOK n T C V U) (hi : i < 6) (hj : j < 6) : n (10 + 6 * i + j) = nI (rwE n (6 * i + j)) := by
  obtain ⟨d, hd, e⟩ := h.R (6 * i + j) (by omega)
  unfold rwE
  rw [Nat.add_assoc, e, rcl (show d < 2 ^ 31 by omega)]
theorem rwE_9 {n : Nat → Int32} {T C V U i : Nat} (h : nOK n T C V U) (hi : i < 36) : rwE n i ≤ 9 := by
  obtain ⟨d, hd, e⟩ := h.R i hi
  unfold rwE
  rw [e, rcl (show d < 2 ^ 31 by omega)]
  exact hd
def rl (w d : Nat → Nat) (a b : Nat) : Nat → Nat := fun x => if x = b ∧ 0 < w (6 * a + b) ∧ d a + w (6 * a + b) < d b then d a + w (6 * a + b) else d x
def rB (w d : Nat → Nat) (a : Nat) : Nat → Nat → Nat
  | 0 => d
  | k + 1 => rl w (rB w d a k) a k
def rA (w : Nat → Nat) (T : Nat) (d : Nat → Nat) : Nat → Nat → Nat
  | 0 => d
  | k + 1 => rB w (rA w T d k) k T
def rN (w : Nat → Nat) (T : Nat) (d : Nat → Nat) : Nat → Nat → Nat
  | 0 => d
  | k + 1 => rA w T (rN w T d k) T
def d0 (fr big : Nat) : Nat → Nat := fun x => if x = fr then 0 else big
theorem rl_le {w d : Nat → Nat} {a b x : Nat} : rl w d a b x ≤ d x := by
  unfold rl
  split
  · next h => rw [h.1]; omega
  · exact Nat.le_refl _
theorem rB_le {w d : Nat → Nat} {a x : Nat} : ∀ {k}, rB w d a k x ≤ d x := by
  intro k
  induction k with
  | zero => exact Nat.le_refl _
  | succ k ih => exact Nat.le_trans rl_le ih
theorem rA_le {w d : Nat → Nat} {T x : Nat} : ∀ {k}, rA w T d k x ≤ d x := by
  intro k
  induction k with
  | zero => exact Nat.le_refl _
  | succ k ih => exact Nat.le_trans rB_le ih
theorem rN_le {w d : Nat → Nat} {T x : Nat} : ∀ {k}, rN w T d k x ≤ d x := by
  intro k
  induction k with
  | zero => exact Nat.le_refl _
  | succ k ih => exact Nat.le_trans rA_le ih
theorem d0_le {fr big x : Nat} : d0 fr big x ≤ big := by unfold d0; split <;> omega
theorem rl_yes {w d : Nat → Nat} {f : Nat → Int32} {a b : Nat} (h0 : 0 < w (6 * a + b)) (h1 : d a + w (6 * a + b) < d b) (hf : ∀ t, t < 6 → f t = nI (d t)) : ∀ t, t < 6 → upd f b (nI (d a + w (6 * a + b))) t = nI (rl w d a b t) := by
  intro t ht
  simp only [upd, rl]
  by_cases h : t = b
  · rw [if_pos h, if_pos ⟨h, h0, h1⟩]
  · rw [if_neg h, if_neg (show ¬ (t = b ∧ 0 < w (6 * a + b) ∧ d a + w (6 * a + b) < d b) from fun z => h z.1)]
    exact hf t ht
theorem rl_no {w d : Nat → Nat} {f : Nat → Int32} {a b : Nat} (h0 : ¬ (0 < w (6 * a + b) ∧ d a + w (6 * a + b) < d b)) (hf : ∀ t, t < 6 → f t = nI (d t)) : ∀ t, t < 6 → upd f b (nI (d b)) t = nI (rl w d a b t) := by
  intro t ht
  simp only [upd, rl]
  rw [if_neg (show ¬ (t = b ∧ 0 < w (6 * a + b) ∧ d a + w (6 * a + b) < d b) from fun z => h0 z.2)]
  by_cases h : t = b
  · rw [if_pos h, h]
  · rw [if_neg h]
    exact hf t ht
/-- the model's ways: 1000000 where there is none -/
def fD (n : Nat → Int32) (T fr : Nat) : Nat → Nat := rN (rwE n) T (d0 fr 1000000) T
theorem fD_le {n : Nat → Int32} {T fr x : Nat} : fD n T fr x ≤ 1000000 := Nat.le_trans rN_le d0_le
def farR (n : Nat → Int32) (T : Nat) (x y : Int32) : Int32 := if (pTown T x && pTown T y) = true then (if fD n T (rc x) (rc y) < 1000000 then nI (fD n T (rc x) (rc y)) else (-1)) else (-2)
/-- the nearest on one day: of those that allow and can be reached by then -/
def nrT (al : Nat → Bool) (fd : Nat → Nat) (most : Nat) : Nat → Option Nat
  | 0 => none
  | k + 1 => match nrT al fd most k with
    | none => if fd k ≤ most ∧ al k = true then some k else none
    | some b => if fd k ≤ most ∧ fd k < fd b ∧ al k = true then some k else some b
theorem nrT_lt {al : Nat → Bool} {fd : Nat → Nat} {most : Nat} : ∀ {k b : Nat}, nrT al fd most k = some b → b < k ∧ fd b ≤ most := by
  intro k
  induction k with
  | zero => intro b h; cases h
  | succ k ih =>
    intro b h
    simp only [nrT] at h
    cases h2 : nrT al fd most k with
    | none =>
      rw [h2] at h
      simp only at h
      split at h
      · next h3 => cases h; exact ⟨Nat.lt_succ_self _, h3.1⟩
      · cases h
    | some c =>
      rw [h2] at h
      simp only at h
      split at h
      · next h3 => cases h; exact ⟨Nat.lt_succ_self _, h3.1⟩
      · cases h; exact ⟨Nat.lt_succ_of_lt (ih h2).1, (ih h2).2⟩
/-- from a day on, r days: the first day on which there is one -/
def nrS (P : Nat → Option Nat) : Nat → Nat → Option (Nat × Nat)
  | 0, _ => none
  | r + 1, d => match P d with
    | some t => some (d, t)
    | none => nrS P r (d + 1)
def nrP (n : Nat → Int32) (T C : Nat) (fr : Nat) (ac : Int32) (day : Nat) (dy sh : Int32) (d : Nat) : Option Nat := nrT (fun t => isA n C t ac (nI d) dy sh 0) (fD n T fr) (d - day) T
def nearestR (n : Nat → Int32) (T C : Nat) (tw ac dd dy sh w : Int32) : Int32 := if (askOK T tw ac dd dy sh && pIn 0 2 w) = true then (match nrS (nrP n T C (rc tw) ac (rc dd) dy sh) (60 - rc dd) (rc dd) with
  | none => (-1)
  | some (d, t) => if w = 0 then nI d else if w = nI 1 then nI t else nI (fD n T (rc tw) t)) else (-2)
/-- pairs: how many, and the i-th -/
def cdB (al : Nat → Bool) (i : Int32) (a : Nat) (x : Nat × Int32) : Nat → Nat × Int32
  | 0 => x
  | k + 1 => if al a = al (a + 1 + k) then cdB al i a x k else ((cdB al i a x k).1 + 1, if nI (cdB al i a x k).1 = i then nI (10 * a + (a + 1 + k)) else (cdB al i a x k).2)
def cdA (al : Nat → Bool) (T : Nat) (i : Int32) : Nat → Nat × Int32
  | 0 => (0, (-5))
  | a + 1 => cdB al i a (cdA al T i a) (T - (a + 1))
theorem cdB_le {al : Nat → Bool} {i : Int32} {a : Nat} {x : Nat × Int32} : ∀ k, (cdB al i a x k).1 ≤ x.1 + k := by
  intro k
  induction k with
  | zero => exact Nat.le_refl _
  | succ k ih =>
    simp only [cdB]
    split
    · omega
    · show (cdB al i a x k).1 + 1 ≤ _
      omega
theorem cdA_le {al : Nat → Bool} {T : Nat} {i : Int32} : ∀ a, (cdA al T i a).1 ≤ a * T := by
  intro a
  induction a with
  | zero => exact Nat.zero_le _
  | succ a ih =>
    have h1 := cdB_le (al := al) (i := i) (a := a) (x := cdA al T i a) (T - (a + 1))
    simp only [cdA]
    rw [Nat.succ_mul]
    omega
def cdAl (n : Nat → Int32) (C : Nat) (ac dd : Int32) (t : Nat) : Bool := isA n C t ac dd (nI 0) (nI 0) 0
def contradictOK (ac dd i : Int32) : Bool := pIn 0 5 ac && (pIn 0 59 dd && decide (-1 ≤ i.toInt))
def contradictR (n : Nat → Int32) (T C : Nat) (ac dd i : Int32) : Int32 := if contradictOK ac dd i = true then (if i = (-1) then nI (cdA (cdAl n C ac dd) T i T).1 else (cdA (cdAl n C ac dd) T i T).2) else (-10)
/-- all towns agree in the acts -/
def acAl (n : Nat → Int32) (C : Nat) (dd : Int32) (S : Nat) (a t : Nat) : Bool := isA n C t (nI a) dd (nI 0) (nI 0) S
def agP (al : Nat → Nat → Bool) (T acts k : Nat) : Prop := ∀ a, a < k → acts / 2 ^ a % 2 = 1 → ∀ t, 1 ≤ t → t < T → al a t = al a 0
noncomputable def agB (al : Nat → Nat → Bool) (T acts : Nat) : Bool := @decide (agP al T acts 6) (Classical.propDecidable _)
theorem agB_t {al : Nat → Nat → Bool} {T acts : Nat} (h : agP al T acts 6) : agB al T acts = true := by unfold agB; exact @decide_eq_true _ (Classical.propDecidable _) h
theorem agB_f {al : Nat → Nat → Bool} {T acts : Nat} (h : ¬ agP al T acts 6) : agB al T acts = false := by unfold agB; exact @decide_eq_false _ (Classical.propDecidable _) h
/-- the fewest struck -/
def stl (ag : Nat → Bool) (all : Nat) : Nat → Nat
  | 0 => all
  | k + 1 => if pop k < pop (stl ag all k) ∧ ag k = true then k else stl ag all k
theorem stl_lt {ag : Nat → Bool} {all : Nat} : ∀ k, k ≤ all + 1 → stl ag all k ≤ all := by
  intro k
  induction k with
  | zero => intro _; exact Nat.le_refl _
  | succ k ih => intro h; simp only [stl]; split
                 · omega
                 · exact ih (by omega)
noncomputable def settleR (n : Nat → Int32) (T C : Nat) (ac dd : Int32) : Int32 := if (pIn 0 63 ac && pIn 0 59 dd) = true then nI (stl (fun S => agB (acAl n C dd S) T (rc ac)) (2 ^ C - 1) (2 ^ C)) else (-2)
/-- readings by which it is allowed, as bits -/
def rdB (P : Nat → Bool) : Nat → Nat
  | 0 => 0
  | r + 1 => rdB P r ||| (if P r = true then 2 ^ r else 0)
def readsR (n : Nat → Int32) (T C : Nat) (tw ac dd dy sh : Int32) : Int32 := if askOK T tw ac dd dy sh = true then nI (rdB (fun r => alO n (decP n C (nI r) (hP n 0 tw ac dd dy sh))) 4) else (-2)
/-- one of the acts is forbidden -/
def fbP (al : Nat → Nat → Bool) (acts t k : Nat) : Prop := ∃ a, a < k ∧ acts / 2 ^ a % 2 = 1 ∧ al a t = false
noncomputable def fbB (al : Nat → Nat → Bool) (acts t : Nat) : Bool := @decide (fbP al acts t 6) (Classical.propDecidable _)
theorem fbB_t {al : Nat → Nat → Bool} {acts t : Nat} (h : fbP al acts t 6) : fbB al acts t = true := by unfold fbB; exact @decide_eq_true _ (Classical.propDecidable _) h
theorem fbB_f {al : Nat → Nat → Bool} {acts t : Nat} (h : ¬ fbP al acts t 6) : fbB al acts t = false := by unfold fbB; exact @decide_eq_false _ (Classical.propDecidable _) h
