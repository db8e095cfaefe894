/-! Cells set in a row of cells. -/
theorem set_same {X : va_W} {q : Nat} {e : Nat × va_E} (h : X[q]? = some e) : X.set q e = X := by
  apply List.ext_getElem?
  intro i
  rw [List.getElem?_set]
  split
  · next h2 =>
    subst h2
    split
    · exact h.symm
    · next h3 => rw [List.getElem?_eq_none (by omega)]
  · rfl
theorem set_at {X : va_W} {q : Nat} {e e' : Nat × va_E} (h : X[q]? = some e) : (X.set q e')[q]? = some e' := by
  have hl := (List.getElem?_eq_some_iff.mp h).1
  rw [List.getElem?_set_self hl]
theorem set_mem {X : va_W} {q : Nat} {e e' x : Nat × va_E} (h : X[q]? = some e) (hx : x ∈ X) (hne : x ≠ e) : x ∈ X.set q e' := by
  obtain ⟨i, hi⟩ := List.getElem?_of_mem hx
  have hiq : q ≠ i := fun z => by subst z; rw [h] at hi; exact hne (Option.some.inj hi).symm
  refine List.mem_of_getElem? (i := i) ?_
  rw [List.getElem?_set_ne hiq]
  exact hi
theorem rl_nn {w d : Nat → Nat} {f : Nat → Int32} {a b : Nat} (h : ¬ (0 < w (6 * a + b) ∧ d a + w (6 * a + b) < d b)) (hf : ∀ t, t < 6 → f t = nI (d t)) : ∀ t, t < 6 → f t = nI (rl w d a b t) := fun t ht => by
  rw [hf t ht]
  unfold rl
  rw [if_neg fun z => h z.2]
abbrev nC (g : zG) (a n : Nat) (f : Nat → Option Nat) : Nat × va_E := (a, .inl (gN g, n, .inr (.inr (.inr (.inr f)))))
theorem bE_nC {g : zG} {q k a n : Nat} {A F E W : Int32} {f : Nat → Option Nat} : (q, bE k A F E W) ≠ nC g a n f := fun h => by
  have h2 := congrArg Prod.snd h
  cases h2
theorem cpy_0 {f h : Nat → Option Nat} {sp dp : Nat} : va_cpy f h sp dp 0 = h := funext fun x => by unfold va_cpy; rw [if_neg (by omega)]
theorem cpy_s {f h : Nat → Option Nat} {sp dp i : Nat} : va_up (va_cpy f h sp dp i) (dp + i) (f (sp + i)) = va_cpy f h sp dp (i + 1) := funext fun x => by
  simp only [va_cpy, va_up]
  by_cases e : x = dp + i
  · rw [if_pos e, if_pos (by omega), show x - dp = i by omega]
  · rw [if_neg e]
    by_cases e2 : dp ≤ x ∧ x < dp + i
    · rw [if_pos e2, if_pos (by omega)]
    · rw [if_neg e2, if_neg (by omega)]
theorem cpy_at {f : Nat → Option Nat} {sp dp i : Nat} (h : dp ≤ sp) : va_cpy f f sp dp i (sp + i) = f (sp + i) := by unfold va_cpy; rw [if_neg (by omega)]
