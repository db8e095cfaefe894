/-! What is kept and brought back. -/
def plK (lw pl : Nat → Option Nat) (U : Nat) : Nat → Option Nat := va_cpy lw (if U = 8 then va_cpy pl pl 8 0 56 else pl) 0 (uK U * 8) 8
def pcK (pc : Nat → Int32) (U C : Nat) : Nat → Int32 := upd (if U = 8 then va_cpy pc pc 1 0 7 else pc) (uK U) (nI C)
theorem remL {lw pl : Nat → Option Nat} {U : Nat} (h : ¬ U = 8) : plK lw pl U = va_cpy lw pl 0 (U * 8) 8 := by simp only [plK, uK, if_neg h]
theorem remP {pc : Nat → Int32} {U C : Nat} (h : ¬ U = 8) : pcK pc U C = upd pc U (nI C) := by simp only [pcK, uK, if_neg h]
theorem remU {U : Nat} (h : ¬ U = 8) : uK U = U := by simp only [uK, if_neg h]
theorem remL8 {lw pl : Nat → Option Nat} {U : Nat} (h : U = 8) : plK lw pl U = va_cpy lw (va_cpy pl pl 8 0 56) 0 (7 * 8) 8 := by simp only [plK, uK, if_pos h]
theorem remP8 {pc : Nat → Int32} {U C : Nat} (h : U = 8) : pcK pc U C = upd (va_cpy pc pc 1 0 7) 7 (nI C) := by simp only [pcK, uK, if_pos h]
theorem remU8 {U : Nat} (h : U = 8) : uK U = 7 := by simp only [uK, if_pos h]
theorem upd_0 {f : Nat → Int32} {i : Nat} (h : ∀ x, x < i → f x = nI 0) : ∀ x, x < i + 1 → upd f i (nI 0) x = nI 0 := by
  intro x hx
  simp only [upd]
  split
  · rfl
  · exact h x (by omega)
theorem bN_in {f : Nat → Option Nat} {N : Nat} {B X : va_W} (h : bN f N B) (hBX : ∀ x ∈ B, x ∈ X) : bN f N X := fun x hx q hq => by
  obtain ⟨k, A, F, E, W, h1, h2⟩ := h x hx q hq
  exact ⟨k, A, F, E, W, h1, hBX _ h2⟩
theorem bN_app {f : Nat → Option Nat} {N : Nat} {Y X : va_W} (h : bN f N X) : bN f N (Y ++ X) := bN_in h fun x hx => List.mem_append_right _ hx
