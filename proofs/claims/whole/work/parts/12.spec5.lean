theorem d0_st {f : Nat → Int32} {fr big t : Nat} {v : Int32} (hv : v = nI (d0 fr big t)) (hf : ∀ x, x < t → f x = nI (d0 fr big x)) : ∀ x, x < t + 1 → upd f t v x = nI (d0 fr big x) := by
  intro x hx
  simp only [upd]
  by_cases h : x = t
  · rw [if_pos h, hv, h]
  · rw [if_neg h]
    exact hf x (by omega)
theorem nrT_no {al : Nat → Bool} {fd : Nat → Nat} {most k : Nat} {b : Option Nat} (hb : b = nrT al fd most k) (h : ¬ (fd k ≤ most ∧ ∀ q, b = some q → fd k < fd q) ∨ al k = false) : b = nrT al fd most (k + 1) := by
  simp only [nrT]
  rw [← hb]
  cases b with
  | none =>
    simp only
    rw [if_neg]
    intro z
    rcases h with h | h
    · exact h ⟨z.1, fun q hq => by cases hq⟩
    · rw [h] at z; exact absurd z.2 (by decide)
  | some c =>
    simp only
    rw [if_neg]
    intro z
    rcases h with h | h
    · exact h ⟨z.1, fun q hq => by cases hq; exact z.2.1⟩
    · rw [h] at z; exact absurd z.2.2 (by decide)
theorem nrT_yes {al : Nat → Bool} {fd : Nat → Nat} {most k : Nat} {b : Option Nat} (hb : b = nrT al fd most k) (h : fd k ≤ most ∧ ∀ q, b = some q → fd k < fd q) (ha : al k = true) : some k = nrT al fd most (k + 1) := by
  simp only [nrT]
  rw [← hb]
  cases b with
  | none => simp only; rw [if_pos ⟨h.1, ha⟩]
  | some c => simp only; rw [if_pos ⟨h.1, h.2 c rfl, ha⟩]
theorem nrS_yes {P : Nat → Option Nat} {r d q : Nat} (h : 0 < r) (hp : P d = some q) : nrS P r d = some (d, q) := by
  cases r with
  | zero => omega
  | succ r => simp only [nrS, hp]
theorem nrS_no {P : Nat → Option Nat} {d : Nat} (h : d < 60) (hp : P d = none) : nrS P (60 - d) d = nrS P (60 - (d + 1)) (d + 1) := by
  rw [show 60 - d = (60 - (d + 1)) + 1 by omega]
  simp only [nrS, hp]
