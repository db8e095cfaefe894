/-! What ties a land to its row is kept by every write. -/
theorem bAt_in {n : Nat → Int32} {e : Nat} {q : Option Nat} {B B' : va_W} (h : bAt n e q B) (hB : ∀ x ∈ B, x ∈ B') : bAt n e q B' := by
  obtain ⟨q', k, h1, h2, h3, h4⟩ := h
  exact ⟨q', k, h1, h2, h3, hB _ h4⟩
theorem bAt_mv {n n' : Nat → Int32} {e e' : Nat} {q : Option Nat} {B : va_W} (h : bAt n e q B) (hn : ∀ j, j < 5 → n' (e' + j) = n (e + j)) : bAt n' e' q B := by
  obtain ⟨q', k, h1, h2, h3, h4⟩ := h
  refine ⟨q', k, h1, h2, by rw [hn 0 (by omega)]; exact h3, ?_⟩
  rw [hn 1 (by omega), hn 2 (by omega), hn 3 (by omega), hn 4 (by omega)]
  exact h4
theorem relL_in {n : Nat → Int32} {T C U V : Nat} {rd ro : Nat → Int32} {lw pl : Nat → Option Nat} {pc gv : Nat → Int32} {B B' : va_W} (h : relL n T C U V rd ro lw pl pc gv B) (hB : ∀ x ∈ B, x ∈ B') : relL n T C U V rd ro lw pl pc gv B' := by
  obtain ⟨h1, h2, h3, h4, h5, h6, h7⟩ := h
  exact ⟨h1, h2, fun c hc => bAt_in (h3 c hc) hB, h4, fun j hj => ⟨(h5 j hj).1, fun c hc => bAt_in ((h5 j hj).2 c hc) hB⟩, bN_in h6 hB, bN_in h7 hB⟩
theorem relL_town {n : Nat → Int32} {T C U V : Nat} {rd ro : Nat → Int32} {lw pl : Nat → Option Nat} {pc gv : Nat → Int32} {B : va_W} {r : Int32} (h : relL n T C U V rd ro lw pl pc gv B) (hT : T < 6) : relL (nTown n T r) (T + 1) C U V (upd rd T r) ro lw pl pc gv B := by
  obtain ⟨h1, h2, h3, h4, h5, h6, h7⟩ := h
  have e : ∀ x, 10 ≤ x → nTown n T r x = n x := fun x hx => by simp only [nTown, upd]; rw [if_neg (by omega), if_neg (by omega)]
  refine ⟨fun t ht => ?_, fun i hi => by rw [e _ (by omega)]; exact h2 i hi, fun c hc => bAt_mv (h3 c hc) fun j hj => e _ (by omega), fun k hk => by rw [e _ (by omega)]; exact h4 k hk, fun j hj => ?_, h6, h7⟩
  · simp only [nTown, upd]
    (repeat' split) <;> first | rfl | omega | exact h1 t (by omega)
  · rw [e _ (by omega)]
    exact ⟨(h5 j hj).1, fun c hc => bAt_mv ((h5 j hj).2 c hc) fun i hi => e _ (by omega)⟩
theorem relL_road {n : Nat → Int32} {T C U V i k : Nat} {rd ro : Nat → Int32} {lw pl : Nat → Option Nat} {pc gv : Nat → Int32} {B : va_W} {d : Int32} (h : relL n T C U V rd ro lw pl pc gv B) (hi : i < 6) (hk : k < 6) (hT : T ≤ 6) : relL (nRoad n i k d) T C U V rd (upd (upd ro (6 * i + k) d) (6 * k + i) d) lw pl pc gv B := by
  obtain ⟨h1, h2, h3, h4, h5, h6, h7⟩ := h
  have e : ∀ x, x < 10 ∨ 46 ≤ x → nRoad n i k d x = n x := fun x hx => by simp only [nRoad, upd]; rw [if_neg (by omega), if_neg (by omega)]
  refine ⟨fun t ht => by rw [e _ (by omega)]; exact h1 t ht, fun x hx => ?_, fun c hc => bAt_mv (h3 c hc) fun j hj => e _ (by omega), fun k hk => by rw [e _ (by omega)]; exact h4 k hk, fun j hj => ?_, h6, h7⟩
  · simp only [nRoad, upd]
    (repeat' split) <;> first | rfl | omega | exact h2 x hx
  · rw [e _ (by omega)]
    exact ⟨(h5 j hj).1, fun c hc => bAt_mv ((h5 j hj).2 c hc) fun i hi => e _ (by omega)⟩
theorem relL_leave {n : Nat → Int32} {T C U V : Nat} {rd ro : Nat → Int32} {lw pl : Nat → Option Nat} {pc gv : Nat → Int32} {B : va_W} {t a d y z : Int32} (h : relL n T C U V rd ro lw pl pc gv B) (hT : T ≤ 6) (hC : C ≤ 8) (hV : V < 8) : relL (nLv n V t a d y z) T C U (V + 1) rd ro lw pl pc (upd (upd (upd (upd (upd gv (5 * V) t) (5 * V + 1) a) (5 * V + 2) d) (5 * V + 3) y) (5 * V + 4) z) B := by
  obtain ⟨h1, h2, h3, h4, h5, h6, h7⟩ := h
  have e : ∀ x, x ≠ 2 → x < 86 + 5 * V ∨ 86 + 5 * V + 4 < x → nLv n V t a d y z x = n x := fun x h0 hx => by
    simp only [nLv, upd]
    rw [if_neg h0, if_neg (by omega), if_neg (by omega), if_neg (by omega), if_neg (by omega), if_neg (by omega)]
  refine ⟨fun t ht => by rw [e _ (by omega) (by omega)]; exact h1 t ht, fun x hx => by rw [e _ (by omega) (by omega)]; exact h2 x hx, fun c hc => bAt_mv (h3 c hc) fun j hj => e _ (by omega) (by omega), fun k hk => ?_, fun j hj => ?_, h6, h7⟩
  · simp only [nLv, upd]
    (repeat' split) <;> first | rfl | omega | exact h4 k (by omega)
  · rw [e _ (by omega) (by omega)]
    exact ⟨(h5 j hj).1, fun c hc => bAt_mv ((h5 j hj).2 c hc) fun i hi => e _ (by omega) (by omega)⟩
theorem relL_burn {n : Nat → Int32} {T C U V : Nat} {rd ro : Nat → Int32} {lw pl : Nat → Option Nat} {pc gv : Nat → Int32} {B : va_W} {v : Int32} (h : relL n T C U V rd ro lw pl pc gv B) : relL (upd n 2 v) T C U 0 rd ro lw pl pc gv B := by
  obtain ⟨h1, h2, h3, h4, h5, h6, h7⟩ := h
  have e : ∀ x, 4 ≤ x → upd n 2 v x = n x := fun x hx => by simp only [upd]; rw [if_neg (by omega)]
  refine ⟨fun t ht => by rw [e _ (by omega)]; exact h1 t ht, fun i hi => by rw [e _ (by omega)]; exact h2 i hi, fun c hc => bAt_mv (h3 c hc) fun j hj => e _ (by omega), fun k hk => absurd hk (by omega), fun j hj => ?_, h6, h7⟩
  rw [e _ (by omega)]
  exact ⟨(h5 j hj).1, fun c hc => bAt_mv ((h5 j hj).2 c hc) fun i hi => e _ (by omega)⟩
theorem relL_empty {n m : Nat → Int32} {T C U V : Nat} {rd ro f : Nat → Int32} {lw pl : Nat → Option Nat} {pc gv : Nat → Int32} {B : va_W} (h : relL n T C U V rd ro lw pl pc gv B) (hf : ∀ i, i < 36 → f i = nI 0) : relL (clr m) 0 0 0 0 rd f lw pl pc gv B := by
  obtain ⟨h1, h2, h3, h4, h5, h6, h7⟩ := h
  refine ⟨fun t ht => absurd ht (by omega), fun i hi => ?_, fun c hc => absurd hc (by omega), fun k hk => absurd hk (by omega), fun j hj => absurd hj (by omega), h6, h7⟩
  rw [hf i hi]
  unfold clr
  rw [if_pos (by omega)]
  rfl
