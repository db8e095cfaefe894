/-! .. by what is remembered, by copies of a land. -/
theorem relL_keep {n : Nat → Int32} {T C U V : Nat} {rd ro : Nat → Int32} {lw pl : Nat → Option Nat} {pc gv : Nat → Int32} {B : va_W} (h : relL n T C U V rd ro lw pl pc gv B) (hn : nOK n T C V U) : relL (nKeep n U C) T C (uK U + 1) V rd ro lw (plK lw pl U) (pcK pc U C) gv B := by
  have hT := hn.T6
  have hC := hn.C8
  have hV := hn.V8
  have hU := hn.U8
  have hu7 := uK_le hU
  have hP := hn.P
  obtain ⟨h1, h2, h3, h4, h5, h6, h7⟩ := h
  have e : ∀ x, x < 126 → x ≠ 3 → nKeep n U C x = n x := fun x hx h0 => nKeep_x hx h0
  have hpl : bN (if U = 8 then va_cpy pl pl 8 0 56 else pl) 64 B := by
    split
    · exact bN_cpy h7 h7 (by omega)
    · exact h7
  refine ⟨fun t ht => by rw [e _ (by omega) (by omega)]; exact h1 t ht, fun x hx => by rw [e _ (by omega) (by omega)]; exact h2 x hx, fun c hc => bAt_mv (h3 c hc) fun j hj => e _ (by omega) (by omega), fun k hk => by rw [e _ (by omega) (by omega)]; exact h4 k hk, fun j hj => ?_, h6, bN_cpy h6 hpl (by omega)⟩
  by_cases ej : j = uK U
  · have e1 : nKeep n U C (126 + 41 * j + 40) = nI C := by
      simp only [nKeep, upd]
      rw [if_neg (by omega), if_pos (by omega)]
    rw [e1]
    refine ⟨by simp only [pcK, upd]; rw [if_pos ej], fun c hc => ?_⟩
    rw [rcl (show C < 2 ^ 31 by omega)] at hc
    have e2 : plK lw pl U (8 * j + c) = lw c := by
      simp only [plK, va_cpy]
      rw [if_pos (by omega), show 0 + (8 * j + c - uK U * 8) = c by omega]
    rw [e2]
    refine bAt_mv (h3 c hc) fun i hi => ?_
    simp only [nKeep, upd, nCp]
    rw [if_neg (by omega), if_neg (by omega), if_pos (by omega), nK1_x (by omega) (by omega)]
    congr 1
    omega
  · have e3 : ∀ c, c < 8 → plK lw pl U (8 * j + c) = if U = 8 then pl (8 * (j + 1) + c) else pl (8 * j + c) := fun c hc => by
      simp only [plK, va_cpy]
      rw [if_neg (by omega)]
      split
      · simp only [va_cpy]
        rw [if_pos (by omega), show 8 + (8 * j + c - 0) = 8 * (j + 1) + c by omega]
      · rfl
    have e4 : ∀ i, i < 41 → nKeep n U C (126 + 41 * j + i) = if U = 8 then n (126 + 41 * (j + 1) + i) else n (126 + 41 * j + i) := fun i hi => by
      simp only [nKeep, upd, nCp]
      rw [if_neg (by omega), if_neg (by omega), if_neg (by omega)]
      unfold nK1
      split
      · simp only [upd, nSh]
        rw [if_neg (by omega), if_pos (by omega)]
        congr 1
        omega
      · rfl
    have e5 : pcK pc U C j = if U = 8 then pc (j + 1) else pc j := by
      simp only [pcK, upd]
      rw [if_neg ej]
      split
      · next h9 =>
        have h8 := remU8 h9
        simp only [va_cpy]
        rw [if_pos (by omega), show 1 + (j - 0) = j + 1 by omega]
      · rfl
    rw [e4 40 (by omega), e5]
    by_cases e8 : U = 8
    · rw [if_pos e8, if_pos e8]
      have hj2 : j + 1 < U := by unfold uK at hj ej; rw [if_pos e8] at hj ej; omega
      refine ⟨(h5 (j + 1) hj2).1, fun c hc => ?_⟩
      obtain ⟨c1, hc1, ec1⟩ := hP (j + 1) hj2
      have hc8 : c < 8 := by rw [ec1, rcl (show c1 < 2 ^ 31 by omega)] at hc; omega
      rw [e3 c hc8, if_pos e8]
      refine bAt_mv ((h5 (j + 1) hj2).2 c hc) fun i hi => ?_
      rw [Nat.add_assoc (126 + 41 * j), e4 _ (by omega), if_pos e8, Nat.add_assoc (126 + 41 * (j + 1))]
    · rw [if_neg e8, if_neg e8]
      have hj2 : j < U := by unfold uK at hj ej; rw [if_neg e8] at hj ej; omega
      refine ⟨(h5 j hj2).1, fun c hc => ?_⟩
      obtain ⟨c1, hc1, ec1⟩ := hP j hj2
      have hc8 : c < 8 := by rw [ec1, rcl (show c1 < 2 ^ 31 by omega)] at hc; omega
      rw [e3 c hc8, if_neg e8]
      refine bAt_mv ((h5 j hj2).2 c hc) fun i hi => ?_
      rw [Nat.add_assoc (126 + 41 * j), e4 _ (by omega), if_neg e8]
theorem relL_copy {n m : Nat → Int32} {T C U V : Nat} {rd ro rd' ro' : Nat → Int32} {lw pl lw' pl' : Nat → Option Nat} {pc gv pc' gv' : Nat → Int32} {B : va_W} (h : relL n T C U V rd ro lw pl pc gv B) (hn : nOK n T C V U) (hm : ∀ x, x < 454 → m x = n x) (hl : bN lw' 8 B) (hp : bN pl' 64 B) : relL m T C U V (va_cpy rd rd' 0 0 6) (va_cpy ro ro' 0 0 36) (va_cpy lw lw' 0 0 8) (va_cpy pl pl' 0 0 64) (va_cpy pc pc' 0 0 8) (va_cpy gv gv' 0 0 40) B := by
  have hT := hn.T6
  have hC := hn.C8
  have hV := hn.V8
  have hU := hn.U8
  have hP := hn.P
  obtain ⟨h1, h2, h3, h4, h5, h6, h7⟩ := h
  have ec : ∀ {α : Type} (f g : Nat → α) (N x : Nat), x < N → va_cpy f g 0 0 N x = f x := fun f g N x hx => by
    simp only [va_cpy]
    rw [if_pos (by omega), show 0 + (x - 0) = x by omega]
  refine ⟨fun t ht => by rw [ec _ _ _ _ (by omega), hm _ (by omega)]; exact h1 t ht, fun x hx => by rw [ec _ _ _ _ (by omega), hm _ (by omega)]; exact h2 x hx, fun c hc => by rw [ec _ _ _ _ (by omega)]; exact bAt_mv (h3 c hc) fun j hj => hm _ (by omega), fun k hk => by rw [ec _ _ _ _ (by omega), hm _ (by omega)]; exact h4 k hk, fun j hj => ?_, bN_cpy h6 hl (by omega), bN_cpy h7 hp (by omega)⟩
  rw [ec _ _ _ _ (by omega), hm _ (by omega)]
  refine ⟨(h5 j hj).1, fun c hc => ?_⟩
  obtain ⟨c1, hc1, ec1⟩ := hP j hj
  have hc8 : c < 8 := by rw [ec1, rcl (show c1 < 2 ^ 31 by omega)] at hc; omega
  rw [ec _ _ _ _ (by omega)]
  exact bAt_mv ((h5 j hj).2 c hc) fun i hi => hm _ (by omega)
