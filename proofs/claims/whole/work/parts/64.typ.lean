/-! The text, told byte by byte. -/
theorem typ_tb {A : Nat → Nat → Int32} {tb : Nat → Int32} {ln : Nat} {x : Int32} (h : ∀ i, i < ln → tb i = A 5 i) : ∀ i, i < typeN ln x → typeT tb ln x i = typeA A ln x 5 i := by
  intro i hi
  unfold typeA
  split
  · next h1 =>
    split
    · next h2 =>
      rw [(typ_1 (tb := tb) h1 h2).2] at hi
      rw [(typ_1 (tb := tb) h1 h2).1]
      exact h i hi
    · next h2 =>
      rw [(typ_2 (tb := tb) h1 h2).2] at hi
      rw [(typ_2 (tb := tb) h1 h2).1]
      show upd tb ln x i = upd (A 5) ln x i
      simp only [upd]
      split
      · rfl
      · exact h i (by omega)
  · next h1 =>
    have h1 : pIn 0 127 x = false := by
      cases hz : pIn 0 127 x with
      | false => rfl
      | true => exact absurd hz h1
    rw [(typ_0 (tb := tb) h1).2] at hi
    rw [(typ_0 (tb := tb) h1).1]
    exact h i hi
theorem typ_ln {ln : Nat} {x : Int32} (h : ln ≤ 150) : typeN ln x ≤ 150 := by
  unfold typeN
  (repeat' split) <;> omega
theorem typ_by {A : Nat → Nat → Int32} {ln : Nat} {x : Int32} (h : byOK (A 5) ln) (hl : ln ≤ 150) : byOK (typeA A ln x 5) (typeN ln x) := by
  unfold typeA typeN
  split
  · next h1 =>
    split
    · exact h
    · next h2 =>
      intro k hk
      obtain ⟨v, hv, e⟩ := pIn_nI (hi := 127) h1 (by omega)
      show ∃ v, v ≤ 127 ∧ upd (A 5) ln x k = nI v
      simp only [upd]
      split
      · exact ⟨v, hv, e⟩
      · exact h k (by omega)
  · exact h
