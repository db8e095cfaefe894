/-! What a row of told things keeps to is kept by every write; what the class's cells are worth beside it. -/
theorem nOK_of {n n' : Nat → Int32} {T C V U T' C' V' U' : Nat} (h : nOK n T C V U) (h0 : n' 0 = nI T' ∧ T' ≤ 6) (h1 : n' 1 = nI C' ∧ C' ≤ 8) (h2 : n' 2 = nI V' ∧ V' ≤ 8) (h3 : n' 3 = nI U' ∧ U' ≤ 8) (hT : T ≤ T') (hV : V' ≤ V) (hU : U' ≤ U) (hr : ∀ i, i < 36 → n' (10 + i) = n (10 + i) ∨ ∃ d, d ≤ 9 ∧ n' (10 + i) = nI d) (hv : ∀ x, 86 ≤ x → x < 86 + 5 * V' → n' x = n x) (hp : ∀ j, j < U' → n' (126 + 41 * j + 40) = n (126 + 41 * j + 40)) : nOK n' T' C' V' U' := by
  refine ⟨h0, h1, h2, h3, fun i hi => ?_, fun k hk => ?_, fun j hj => ?_⟩
  · rcases hr i hi with e | e
    · rw [e]; exact h.R i hi
    · exact e
  · obtain ⟨t, a, d, y, z, g1, g2, g3, g4, g5, g6, g7, g8, g9, g10⟩ := h.Lv k (by omega)
    exact ⟨t, a, d, y, z, by omega, g2, g3, g4, g5, by rw [hv _ (by omega) (by omega)]; exact g6, by rw [hv _ (by omega) (by omega)]; exact g7, by rw [hv _ (by omega) (by omega)]; exact g8, by rw [hv _ (by omega) (by omega)]; exact g9, by rw [hv _ (by omega) (by omega)]; exact g10⟩
  · rw [hp j hj]; exact h.P j (by omega)
theorem nOK_town {n : Nat → Int32} {T C V U : Nat} {r : Int32} (h : nOK n T C V U) (hT : T < 6) : nOK (nTown n T r) (T + 1) C V U := by
  have e : ∀ x, x ≠ 0 → x < 4 ∨ 10 ≤ x → nTown n T r x = n x := fun x h0 hx => nTown_x h0 (by omega)
  exact nOK_of h ⟨nTown_0, by omega⟩ ⟨(e 1 (by omega) (by omega)).trans h.C, h.C8⟩ ⟨(e 2 (by omega) (by omega)).trans h.V, h.V8⟩ ⟨(e 3 (by omega) (by omega)).trans h.U, h.U8⟩ (by omega) (Nat.le_refl _) (Nat.le_refl _) (fun i hi => Or.inl (e _ (by omega) (by omega))) (fun x h1 h2 => e _ (by omega) (by omega)) (fun j hj => e _ (by omega) (by omega))
theorem nOK_road {n : Nat → Int32} {T C V U i k dd : Nat} (h : nOK n T C V U) (hi : i < 6) (hk : k < 6) (hd : dd ≤ 9) : nOK (nRoad n i k (nI dd)) T C V U := by
  have e : ∀ x, x < 10 ∨ 46 ≤ x → nRoad n i k (nI dd) x = n x := fun x hx => nRoad_x hx hi hk
  refine nOK_of h ⟨(e 0 (by omega)).trans h.T, h.T6⟩ ⟨(e 1 (by omega)).trans h.C, h.C8⟩ ⟨(e 2 (by omega)).trans h.V, h.V8⟩ ⟨(e 3 (by omega)).trans h.U, h.U8⟩ (Nat.le_refl _) (Nat.le_refl _) (Nat.le_refl _) (fun x hx => ?_) (fun x h1 h2 => e _ (by omega)) (fun j hj => e _ (by omega))
  simp only [nRoad, upd]
  (repeat' split) <;> first | exact Or.inr ⟨dd, hd, rfl⟩ | exact Or.inl rfl
theorem nOK_cl {n : Nat → Int32} {T C V U : Nat} {k a f t w : Int32} (h : nOK n T C V U) (hC : C < 8) : nOK (nCl n C k a f t w) T (C + 1) V U := by
  have e : ∀ x, x ≠ 1 → x < 46 ∨ 86 ≤ x → nCl n C k a f t w x = n x := fun x h0 hx => nCl_x h0 (by omega)
  exact nOK_of h ⟨(e 0 (by omega) (by omega)).trans h.T, h.T6⟩ ⟨nCl_1, by omega⟩ ⟨(e 2 (by omega) (by omega)).trans h.V, h.V8⟩ ⟨(e 3 (by omega) (by omega)).trans h.U, h.U8⟩ (Nat.le_refl _) (Nat.le_refl _) (Nat.le_refl _) (fun i hi => Or.inl (e _ (by omega) (by omega))) (fun x h1 h2 => e _ (by omega) (by omega)) (fun j hj => e _ (by omega) (by omega))
theorem nOK_strike {n : Nat → Int32} {T C V U c : Nat} (h : nOK n T C V U) : nOK (nStrike n C c) T (C - 1) V U := by
  have e : ∀ x, x ≠ 1 → x < 46 ∨ 81 ≤ x → nStrike n C c x = n x := fun x h0 hx => by
    simp only [nStrike, upd, nSt]
    rw [if_neg h0, if_neg (by omega)]
  have h8 := h.C8
  exact nOK_of h ⟨(e 0 (by omega) (by omega)).trans h.T, h.T6⟩ ⟨by simp [nStrike, upd], by omega⟩ ⟨(e 2 (by omega) (by omega)).trans h.V, h.V8⟩ ⟨(e 3 (by omega) (by omega)).trans h.U, h.U8⟩ (Nat.le_refl _) (Nat.le_refl _) (Nat.le_refl _) (fun i hi => Or.inl (e _ (by omega) (by omega))) (fun x h1 h2 => e _ (by omega) (by omega)) (fun j hj => e _ (by omega) (by omega))
theorem nOK_undo {n : Nat → Int32} {T C V U c1 : Nat} (h : nOK n T C V U) (hU : 0 < U) (hc : n (126 + 41 * (U - 1) + 40) = nI c1) (hc1 : c1 ≤ 8) : nOK (nUndo n U) T c1 V (U - 1) := by
  have e : ∀ x, x ≠ 1 → x ≠ 3 → x < 46 ∨ 86 ≤ x → nUndo n U x = n x := fun x h0 h8 hx => by
    simp only [nUndo, upd, nBk]
    rw [if_neg h8, if_neg h0, if_neg (by omega)]
  have h8 := h.U8
  exact nOK_of h ⟨(e 0 (by omega) (by omega) (by omega)).trans h.T, h.T6⟩ ⟨by simp [nUndo, upd, hc], hc1⟩ ⟨(e 2 (by omega) (by omega) (by omega)).trans h.V, h.V8⟩ ⟨by simp [nUndo, upd], by omega⟩ (Nat.le_refl _) (Nat.le_refl _) (by omega) (fun i hi => Or.inl (e _ (by omega) (by omega) (by omega))) (fun x h1 h2 => e _ (by omega) (by omega) (by omega)) (fun j hj => e _ (by omega) (by omega) (by omega))
theorem nOK_burn {n : Nat → Int32} {T C V U : Nat} (h : nOK n T C V U) : nOK (upd n 2 (nI 0)) T C 0 U := by
  have e : ∀ x, x ≠ 2 → upd n 2 (nI 0) x = n x := fun x h0 => by
    simp only [upd]
    rw [if_neg h0]
  exact nOK_of h ⟨(e 0 (by omega)).trans h.T, h.T6⟩ ⟨(e 1 (by omega)).trans h.C, h.C8⟩ ⟨by simp [upd], by omega⟩ ⟨(e 3 (by omega)).trans h.U, h.U8⟩ (Nat.le_refl _) (Nat.zero_le _) (Nat.le_refl _) (fun i hi => Or.inl (e _ (by omega))) (fun x h1 h2 => e _ (by omega)) (fun j hj => e _ (by omega))
theorem nOK_clr {n : Nat → Int32} : nOK (clr n) 0 0 0 0 := by
  have e : ∀ x, x < 126 → clr n x = nI 0 := fun x hx => by unfold clr; rw [if_pos hx]; rfl
  exact ⟨⟨e 0 (by omega), by omega⟩, ⟨e 1 (by omega), by omega⟩, ⟨e 2 (by omega), by omega⟩, ⟨e 3 (by omega), by omega⟩, fun i hi => ⟨0, by omega, e _ (by omega)⟩, fun k hk => absurd hk (by omega), fun j hj => absurd hj (by omega)⟩
theorem nOK_leave {n : Nat → Int32} {T C V U t a d y z : Nat} (h : nOK n T C V U) (hV : V < 8) (ht : t < T) (ha : a ≤ 5) (hd : d ≤ 59) (hy : y ≤ 1) (hz : z ≤ 1) : nOK (nLv n V (nI t) (nI a) (nI d) (nI y) (nI z)) T C (V + 1) U := by
  have e : ∀ x, x ≠ 2 → x < 86 + 5 * V ∨ 86 + 5 * V + 4 < x → nLv n V (nI t) (nI a) (nI d) (nI y) (nI z) x = n x := fun x h0 hx => by
    simp only [nLv, upd]
    rw [if_neg h0, if_neg (by omega), if_neg (by omega), if_neg (by omega), if_neg (by omega), if_neg (by omega)]
  refine ⟨⟨(e 0 (by omega) (by omega)).trans h.T, h.T6⟩, ⟨(e 1 (by omega) (by omega)).trans h.C, h.C8⟩, ⟨by simp [nLv, upd], by omega⟩, ⟨(e 3 (by omega) (by omega)).trans h.U, h.U8⟩, fun i hi => by rw [e _ (by omega) (by omega)]; exact h.R i hi, fun k hk => ?_, fun j hj => by rw [e _ (by omega) (by omega)]; exact h.P j hj⟩
  by_cases ek : k = V
  · subst ek
    refine ⟨t, a, d, y, z, ht, ha, hd, hy, hz, ?_, ?_, ?_, ?_, ?_⟩ <;>
    · unfold nLv
      unfold upd
      (repeat' split) <;> first | rfl | omega
  · obtain ⟨t', a', d', y', z', g1, g2, g3, g4, g5, g6, g7, g8, g9, g10⟩ := h.Lv k (by omega)
    exact ⟨t', a', d', y', z', g1, g2, g3, g4, g5, by rw [e _ (by omega) (by omega)]; exact g6, by rw [e _ (by omega) (by omega)]; exact g7, by rw [e _ (by omega) (by omega)]; exact g8, by rw [e _ (by omega) (by omega)]; exact g9, by rw [e _ (by omega) (by omega)]; exact g10⟩
theorem nOK_keep {n : Nat → Int32} {T C V U : Nat} (h : nOK n T C V U) : nOK (nKeep n U C) T C V (uK U + 1) := by
  have e : ∀ x, x < 126 → x ≠ 3 → nKeep n U C x = n x := fun x hx h0 => nKeep_x hx h0
  have h8 := h.V8
  have hu := uK_le h.U8
  have hC := h.C8
  refine ⟨⟨(e 0 (by omega) (by omega)).trans h.T, h.T6⟩, ⟨(e 1 (by omega) (by omega)).trans h.C, h.C8⟩, ⟨(e 2 (by omega) (by omega)).trans h.V, h.V8⟩, ⟨by simp [nKeep, upd], by omega⟩, fun i hi => by rw [e _ (by omega) (by omega)]; exact h.R i hi, fun k hk => ?_, fun j hj => ?_⟩
  · obtain ⟨t', a', d', y', z', g1, g2, g3, g4, g5, g6, g7, g8, g9, g10⟩ := h.Lv k hk
    exact ⟨t', a', d', y', z', g1, g2, g3, g4, g5, by rw [e _ (by omega) (by omega)]; exact g6, by rw [e _ (by omega) (by omega)]; exact g7, by rw [e _ (by omega) (by omega)]; exact g8, by rw [e _ (by omega) (by omega)]; exact g9, by rw [e _ (by omega) (by omega)]; exact g10⟩
  · by_cases ej : j = uK U
    · refine ⟨C, hC, ?_⟩
      simp only [nKeep, upd]
      rw [if_neg (by omega), if_pos (by omega)]
    · have e4 : nKeep n U C (126 + 41 * j + 40) = if U = 8 then n (126 + 41 * (j + 1) + 40) else n (126 + 41 * j + 40) := by
        simp only [nKeep, upd, nCp]
        rw [if_neg (by omega), if_neg (by omega), if_neg (by omega)]
        unfold nK1
        split
        · simp only [upd, nSh]
          rw [if_neg (by omega), if_pos (by omega)]
          congr 1
        · rfl
      rw [e4]
      by_cases e8 : U = 8
      · rw [if_pos e8]
        exact h.P (j + 1) (by unfold uK at hj ej; rw [if_pos e8] at hj ej; omega)
      · rw [if_neg e8]
        exact h.P j (by unfold uK at hj ej; rw [if_neg e8] at hj ej; omega)
/-- .. by a text -/
theorem pIt_o {b : Nat → Int32} {ln q T C : Nat} {N : Nat → Int32} (h : nOK N T C 0 0) (hx : xr (pIt b ln N T C q) = true) : nOK (xN (pIt b ln N T C q) N) (xT (pIt b ln N T C q)) (xC (pIt b ln N T C q)) 0 0 := by
  have h6 := h.T6
  have h8 := h.C8
  unfold pIt at *
  split at hx
  · next h1 =>
    rw [if_pos h1]
    unfold pTw at *
    repeat' split at hx
    · cases hx
    · next g1 g2 =>
      rw [if_neg g1, if_pos g2]
      exact nOK_town h (by omega)
    · cases hx
  · next h1 =>
    rw [if_neg h1]
    split at hx
    · next h2 =>
      rw [if_pos h2]
      unfold pRd at *
      simp only at *
      repeat' split at hx
      · cases hx
      · next g1 g2 g3 g4 =>
        rw [if_pos g1, if_neg g2, if_pos g3, if_pos g4]
        have k1 := tkB_r g1
        have k3 := tkB_r g3
        have k4 := tkB_r g4
        exact nOK_road h (by omega) (by omega) (by omega)
      all_goals cases hx
    · next h2 =>
      rw [if_neg h2]
      split at hx
      · next h3 =>
        rw [if_pos h3]
        unfold pCl at *
        simp only at *
        repeat' split at hx
        · cases hx
        · next g0 g1 g2 g3 g4 g5 =>
          rw [if_neg g0, if_pos g1, if_pos g2, if_pos g3, if_pos g4, if_pos g5]
          exact nOK_cl h (by omega)
        all_goals cases hx
      · cases hx
theorem pLp_o {b : Nat → Int32} {ln : Nat} : ∀ {f q T C it : Nat} {N : Nat → Int32} {y : Nat × (Nat → Int32) × Nat × Nat}, nOK N T C 0 0 → pLp b ln f N T C q it = .inr y → nOK y.2.1 y.2.2.1 y.2.2.2 0 0 ∧ y.1 ≤ it + f := by
  intro f
  induction f with
  | zero => intro q T C it N y h hx; cases hx
  | succ f ih =>
    intro q T C it N y h hx
    simp only [pLp] at hx
    split at hx
    · cases hx; exact ⟨h, by show it ≤ it + (f + 1); omega⟩
    · split at hx
      · next h1 =>
        split at hx
        · have h9 := ih (pIt_o h h1) hx
          exact ⟨h9.1, by omega⟩
        · cases hx
      · cases hx
theorem pRead_o {b : Nat → Int32} {ln : Nat} {N : Nat → Int32} {y : Nat × (Nat → Int32) × Nat × Nat} (h : nOK N 0 0 0 0) (hx : pRead b ln N = .inr y) : nOK y.2.1 y.2.2.1 y.2.2.2 0 0 ∧ y.1 ≤ 152 := by
  unfold pRead at hx
  split at hx
  · split at hx
    · have h9 := pLp_o h hx
      exact ⟨h9.1, by omega⟩
    · cases hx
  · cases hx
theorem nOK_rd {N n : Nat → Int32} {T C : Nat} {x : zX} {it : Nat} (h : nOK N T C 0 0) (hx : x = .inr (it, N, T, C)) : nOK (nRd x n) T C 0 0 := by
  subst hx
  have e : ∀ i, i < 126 → nRd (.inr (it, N, T, C)) n i = N i := fun i hi => by
    show (if i < 126 then N i else n i) = N i
    rw [if_pos hi]
  exact nOK_of h ⟨(e 0 (by omega)).trans h.T, h.T6⟩ ⟨(e 1 (by omega)).trans h.C, h.C8⟩ ⟨(e 2 (by omega)).trans h.V, h.V8⟩ ⟨(e 3 (by omega)).trans h.U, h.U8⟩ (Nat.le_refl _) (Nat.le_refl _) (Nat.le_refl _) (fun i hi => Or.inl (e _ (by omega))) (fun x h1 h2 => absurd h2 (by omega)) (fun j hj => absurd hj (by omega))
theorem relL_rd {N n : Nat → Int32} {T C it : Nat} {x : zX} {rd ro : Nat → Int32} {lw pl : Nat → Option Nat} {pc gv : Nat → Int32} {B : va_W} (h : relL N T C 0 0 rd ro lw pl pc gv B) (hT : T ≤ 6) (hC : C ≤ 8) (hx : x = .inr (it, N, T, C)) : relL (nRd x n) T C 0 0 rd ro lw pl pc gv B := by
  subst hx
  have e : ∀ i, i < 126 → nRd (.inr (it, N, T, C)) n i = N i := fun i hi => by
    show (if i < 126 then N i else n i) = N i
    rw [if_pos hi]
  obtain ⟨h1, h2, h3, h4, h5, h6, h7⟩ := h
  exact ⟨fun t ht => by rw [e _ (by omega)]; exact h1 t ht, fun i hi => by rw [e _ (by omega)]; exact h2 i hi, fun c hc => bAt_mv (h3 c hc) fun j hj => e _ (by omega), fun k hk => absurd hk (by omega), fun j hj => absurd hj (by omega), h6, h7⟩
/-- the object and its land, beside the model's rows -/
def lS (g : zG) (x9 d : Nat) (da : Nat → Nat) (rr im tx : Nat) (A : Nat → Nat → Int32) (ln : Nat) (ab be : Int32) (tb : Nat → Int32) (ib : Nat → Option Nat) (Y X ws : va_W) : Prop := ∃ (T C U V : Nat) (rd ro : Nat → Int32) (lw pl : Nat → Option Nat) (pc gv aw nt : Nat → Int32) (Y' : va_W), ws = xW g x9 d rr im tx (nI ln) ab be (A 3 0) (A 3 1) (A 3 2) tb ib ++ (lW g d da (nI T) (nI C) (nI U) (nI V) rd ro lw pl pc gv aw nt ++ (Y' ++ X)) ∧ nOK (A 0) T C V U ∧ relL (A 0) T C U V rd ro lw pl pc gv Y' ∧ ∀ x ∈ Y, x ∈ Y'
theorem lS_i {g : zG} {x9 d : Nat} {da : Nat → Nat} {rr im tx : Nat} {A A1 : Nat → Nat → Int32} {ln : Nat} {ab be : Int32} {tb : Nat → Int32} {ib : Nat → Option Nat} {Y X ws : va_W} (T C U V : Nat) (rd ro : Nat → Int32) (lw pl : Nat → Option Nat) (pc gv aw nt : Nat → Int32) (Y' : va_W) (hA : A = A1) (h1 : ws = xW g x9 d rr im tx (nI ln) ab be (A1 3 0) (A1 3 1) (A1 3 2) tb ib ++ (lW g d da (nI T) (nI C) (nI U) (nI V) rd ro lw pl pc gv aw nt ++ (Y' ++ X))) (h2 : nOK (A1 0) T C V U) (h3 : relL (A1 0) T C U V rd ro lw pl pc gv Y') (h4 : ∀ x ∈ Y, x ∈ Y') : lS g x9 d da rr im tx A ln ab be tb ib Y X ws := by
  subst hA
  exact ⟨T, C, U, V, rd, ro, lw, pl, pc, gv, aw, nt, Y', h1, h2, h3, h4⟩
theorem rc_i {k : Nat} (h : k < 1000) : rc (nI k) = k := rcl (by omega)
theorem cl_ok {k ac fr ti w : Int32} : clauseOK k ac fr ti w = (inZ 0 5 k.toInt && (inZ 0 5 ac.toInt && (inZ 0 60 fr.toInt && (inZ fr.toInt 60 ti.toInt && inZ 0 5 w.toInt)))) := by
  have h : (inZ 0 60 ti.toInt && inZ 0 ti.toInt fr.toInt) = (inZ 0 60 fr.toInt && inZ fr.toInt 60 ti.toInt) := by
    unfold inZ
    rw [← Bool.decide_and, ← Bool.decide_and]
    exact decide_eq_decide.mpr (by omega)
  unfold clauseOK pIn
  rw [← Bool.and_assoc (inZ 0 60 ti.toInt), h, Bool.and_assoc]
theorem st_ok {C : Nat} {x : Int32} : pTown C x = inZ 0 ((C : Int) - 1) x.toInt := by
  unfold pTown inZ
  exact decide_eq_decide.mpr (by omega)
theorem wh_ok {T : Nat} {tw w ac dd dy sh : Int32} : whoseOK T tw w ac dd dy sh = (askOK T tw ac dd dy sh && inZ 0 20 w.toInt) := by
  unfold whoseOK askOK
  show (pTown T tw && (inZ 0 20 w.toInt && (pIn 0 5 ac && (pIn 0 59 dd && (pIn 0 1 dy && pIn 0 1 sh))))) = _
  cases pTown T tw <;> cases inZ 0 20 w.toInt <;> simp
theorem od_ok {T : Nat} {tw ac a b dy sh : Int32} : oddsOK T tw ac a b dy sh = (askOK T tw ac a dy sh && inZ a.toInt 59 b.toInt) := by
  unfold oddsOK askOK
  have h : (pIn 0 59 a && (pIn 0 59 b && decide (a.toInt ≤ b.toInt))) = (pIn 0 59 a && inZ a.toInt 59 b.toInt) := by
    unfold pIn inZ
    rw [← Bool.decide_and, ← Bool.decide_and, ← Bool.decide_and]
    exact decide_eq_decide.mpr (by omega)
  cases pTown T tw with
  | false => simp
  | true =>
    cases pIn 0 5 ac with
    | false => simp
    | true =>
      cases pIn 0 1 dy <;> cases pIn 0 1 sh <;> simp [← Bool.and_assoc] at h ⊢
      simpa [Bool.and_assoc] using h
theorem ask_i {T : Nat} {tw ac dd dy sh : Int32} (h : askOK T tw ac dd dy sh = true) (hT : T ≤ 6) : ∃ t a d y z : Nat, t < T ∧ a ≤ 5 ∧ d ≤ 59 ∧ y ≤ 1 ∧ z ≤ 1 ∧ tw = nI t ∧ ac = nI a ∧ dd = nI d ∧ dy = nI y ∧ sh = nI z := by
  unfold askOK at h
  simp only [Bool.and_eq_true] at h
  obtain ⟨h1, h2, h3, h4, h5⟩ := h
  obtain ⟨t, a1, b1⟩ := pTown_nI h1 (by omega)
  obtain ⟨a, a2, b2⟩ := pIn_nI (hi := 5) h2 (by omega)
  obtain ⟨d, a3, b3⟩ := pIn_nI (hi := 59) h3 (by omega)
  obtain ⟨y, a4, b4⟩ := pIn_nI (hi := 1) h4 (by omega)
  obtain ⟨z, a5, b5⟩ := pIn_nI (hi := 1) h5 (by omega)
  exact ⟨t, a, d, y, z, a1, a2, a3, a4, a5, b1, b2, b3, b4, b5⟩
