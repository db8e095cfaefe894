/-! .. by clauses told, kept, struck, brought back; by copies. -/
theorem bN_up {f : Nat → Option Nat} {N C q k : Nat} {A F E W : Int32} {B : va_W} (h : bN f N B) (hk : k ≤ 5) (hm : (q, bE k A F E W) ∈ B) : bN (va_up f C (some q)) N B := by
  intro x hx q' hq
  simp only [va_up] at hq
  split at hq
  · cases hq; exact ⟨k, A, F, E, W, hk, hm⟩
  · exact h x hx q' hq
theorem bN_cpy {f h : Nat → Option Nat} {N M sp dp m : Nat} {B : va_W} (hf : bN f N B) (hh : bN h M B) (hs : sp + m ≤ N) : bN (va_cpy f h sp dp m) M B := by
  intro x hx q hq
  simp only [va_cpy] at hq
  split at hq
  · exact hf _ (by omega) q hq
  · exact hh x hx q hq
theorem relL_clause {n : Nat → Int32} {T C U V q k : Nat} {rd ro : Nat → Int32} {lw pl : Nat → Option Nat} {pc gv : Nat → Int32} {B : va_W} {A F E W : Int32} (h : relL n T C U V rd ro lw pl pc gv B) (hT : T ≤ 6) (hC : C < 8) (hk : k ≤ 5) (hm : (q, bE k A F E W) ∈ B) : relL (nCl n C (nI k) A F E W) T (C + 1) U V rd ro (va_up lw C (some q)) pl pc gv B := by
  obtain ⟨h1, h2, h3, h4, h5, h6, h7⟩ := h
  have e : ∀ x, x ≠ 1 → x < 46 + 5 * C ∨ 50 + 5 * C < x → nCl n C (nI k) A F E W x = n x := fun x h0 hx => by
    simp only [nCl, upd]
    rw [if_neg h0, if_neg (by omega), if_neg (by omega), if_neg (by omega), if_neg (by omega), if_neg (by omega)]
  refine ⟨fun t ht => by rw [e _ (by omega) (by omega)]; exact h1 t ht, fun x hx => by rw [e _ (by omega) (by omega)]; exact h2 x hx, fun c hc => ?_, fun k hk => by rw [e _ (by omega) (by omega)]; exact h4 k hk, fun j hj => ?_, bN_up h6 hk hm, h7⟩
  · by_cases ec : c = C
    · subst ec
      refine ⟨q, k, by simp only [va_up]; rw [if_pos trivial], hk, ?_, ?_⟩
      · simp only [nCl, upd]
        rw [if_neg (by omega), if_neg (by omega), if_neg (by omega), if_neg (by omega), if_neg (by omega), if_pos trivial]
      · have e1 : nCl n c (nI k) A F E W (46 + 5 * c + 1) = A := by simp only [nCl, upd]; rw [if_neg (by omega), if_neg (by omega), if_neg (by omega), if_neg (by omega), if_pos trivial]
        have e2 : nCl n c (nI k) A F E W (46 + 5 * c + 2) = F := by simp only [nCl, upd]; rw [if_neg (by omega), if_neg (by omega), if_neg (by omega), if_pos trivial]
        have e3 : nCl n c (nI k) A F E W (46 + 5 * c + 3) = E := by simp only [nCl, upd]; rw [if_neg (by omega), if_neg (by omega), if_pos trivial]
        have e4 : nCl n c (nI k) A F E W (46 + 5 * c + 4) = W := by simp only [nCl, upd]; rw [if_neg (by omega), if_pos trivial]
        rw [e1, e2, e3, e4]
        exact hm
    · have e0 : va_up lw C (some q) c = lw c := by simp only [va_up]; rw [if_neg ec]
      rw [e0]
      exact bAt_mv (h3 c (by omega)) fun j hj => e _ (by omega) (by omega)
  · rw [e _ (by omega) (by omega)]
    exact ⟨(h5 j hj).1, fun c hc => bAt_mv ((h5 j hj).2 c hc) fun i hi => e _ (by omega) (by omega)⟩
theorem relL_strike {n : Nat → Int32} {T C U V c : Nat} {rd ro : Nat → Int32} {lw pl : Nat → Option Nat} {pc gv : Nat → Int32} {B : va_W} (h : relL n T C U V rd ro lw pl pc gv B) (hT : T ≤ 6) (hC : C ≤ 8) (hc : c < C) : relL (nStrike n C c) T (C - 1) U V rd ro (va_cpy lw lw (c + 1) c (C - c - 1)) pl pc gv B := by
  obtain ⟨h1, h2, h3, h4, h5, h6, h7⟩ := h
  have e : ∀ x, x ≠ 1 → x < 46 + 5 * c ∨ 81 ≤ x → nStrike n C c x = n x := fun x h0 hx => by
    simp only [nStrike, upd, nSt]
    rw [if_neg h0, if_neg (by omega)]
  refine ⟨fun t ht => by rw [e _ (by omega) (by omega)]; exact h1 t ht, fun x hx => by rw [e _ (by omega) (by omega)]; exact h2 x hx, fun d hd => ?_, fun k hk => by rw [e _ (by omega) (by omega)]; exact h4 k hk, fun j hj => ?_, bN_cpy h6 h6 (by omega), h7⟩
  · by_cases ed : d < c
    · have e0 : va_cpy lw lw (c + 1) c (C - c - 1) d = lw d := by simp only [va_cpy]; rw [if_neg (by omega)]
      rw [e0]
      exact bAt_mv (h3 d (by omega)) fun j hj => e _ (by omega) (by omega)
    · have e0 : va_cpy lw lw (c + 1) c (C - c - 1) d = lw (d + 1) := by
        simp only [va_cpy]
        rw [if_pos (by omega), show c + 1 + (d - c) = d + 1 by omega]
      rw [e0]
      refine bAt_mv (h3 (d + 1) (by omega)) fun j hj => ?_
      simp only [nStrike, upd, nSt]
      rw [if_neg (by omega), if_pos (by omega)]
      congr 1
      omega
  · rw [e _ (by omega) (by omega)]
    exact ⟨(h5 j hj).1, fun c hc => bAt_mv ((h5 j hj).2 c hc) fun i hi => e _ (by omega) (by omega)⟩
theorem relL_undo {n : Nat → Int32} {T C U V c1 : Nat} {rd ro : Nat → Int32} {lw pl : Nat → Option Nat} {pc gv : Nat → Int32} {B : va_W} (h : relL n T C U V rd ro lw pl pc gv B) (hT : T ≤ 6) (hV : V ≤ 8) (hU : 0 < U) (hU8 : U ≤ 8) (hc : n (126 + 41 * (U - 1) + 40) = nI c1) (hc1 : c1 ≤ 8) : relL (nUndo n U) T c1 (U - 1) V rd ro (va_cpy pl lw ((U - 1) * 8) 0 8) pl pc gv B := by
  obtain ⟨h1, h2, h3, h4, h5, h6, h7⟩ := h
  have e : ∀ x, x ≠ 1 → x ≠ 3 → x < 46 ∨ 86 ≤ x → nUndo n U x = n x := fun x h0 h8 hx => by
    simp only [nUndo, upd, nBk]
    rw [if_neg h8, if_neg h0, if_neg (by omega)]
  refine ⟨fun t ht => by rw [e _ (by omega) (by omega) (by omega)]; exact h1 t ht, fun x hx => by rw [e _ (by omega) (by omega) (by omega)]; exact h2 x hx, fun d hd => ?_, fun k hk => by rw [e _ (by omega) (by omega) (by omega)]; exact h4 k hk, fun j hj => ?_, bN_cpy h7 h6 (by omega), h7⟩
  · have e0 : va_cpy pl lw ((U - 1) * 8) 0 8 d = pl (8 * (U - 1) + d) := by
      simp only [va_cpy]
      rw [if_pos (by omega), show (U - 1) * 8 + (d - 0) = 8 * (U - 1) + d by omega]
    rw [e0]
    refine bAt_mv ((h5 (U - 1) (by omega)).2 d (by rw [hc, rcl (by omega)]; exact hd)) fun j hj => ?_
    simp only [nUndo, upd, nBk]
    rw [if_neg (by omega), if_neg (by omega), if_pos (by omega)]
    congr 1
    omega
  · rw [e _ (by omega) (by omega) (by omega)]
    exact ⟨(h5 j (by omega)).1, fun c hc => bAt_mv ((h5 j (by omega)).2 c hc) fun i hi => e _ (by omega) (by omega) (by omega)⟩
