/-! Small words of the object's calls. -/
theorem i2b_k : ∀ k, k < 128 → (nI k).toInt8.toInt32 = nI k := by decide +kernel
theorem nar_k : ∀ k, k < 128 → vp_nar .byte (nI k) = nI k := by decide +kernel
def typeT (tb : Nat → Int32) (ln : Nat) (x : Int32) : Nat → Int32 := if pIn 0 127 x = true then if ln = 150 then tb else upd tb ln x else tb
def typeN (ln : Nat) (x : Int32) : Nat := if pIn 0 127 x = true then if ln = 150 then ln else ln + 1 else ln
theorem typ_0 {tb : Nat → Int32} {ln : Nat} {x : Int32} (h : pIn 0 127 x = false) : typeT tb ln x = tb ∧ typeN ln x = ln := by
  unfold typeT typeN
  rw [h]
  exact ⟨rfl, rfl⟩
theorem typ_1 {tb : Nat → Int32} {ln : Nat} {x : Int32} (h : pIn 0 127 x = true) (h2 : ln = 150) : typeT tb ln x = tb ∧ typeN ln x = ln := by
  unfold typeT typeN
  rw [h, if_pos rfl, if_pos rfl, if_pos h2, if_pos h2]
  exact ⟨rfl, rfl⟩
theorem typ_2 {tb : Nat → Int32} {ln : Nat} {x : Int32} (h : pIn 0 127 x = true) (h2 : ¬ ln = 150) : typeT tb ln x = upd tb ln x ∧ typeN ln x = ln + 1 := by
  unfold typeT typeN
  rw [h, if_pos rfl, if_pos rfl, if_neg h2, if_neg h2]
  exact ⟨rfl, rfl⟩
theorem in01_n {w : Int32} (h : inZ 0 1 w.toInt = false) : ¬ w = 0 ∧ ¬ w = nI 1 := by
  refine ⟨fun z => ?_, fun z => ?_⟩ <;>
  · subst z
    exact absurd h (by decide)
theorem chk_t {b : Bool} {A : Nat → Nat → Int32} (h : b = true) : chk b A = A := by unfold chk; rw [if_pos h]
theorem chk_f {b : Bool} {A : Nat → Nat → Int32} (h : b = false) : chk b A = bump 0 A := by unfold chk; rw [h]; rfl
