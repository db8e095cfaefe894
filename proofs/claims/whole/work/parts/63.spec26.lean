/-! The whole class beside the model's rows. -/
def imR (g : zG) (A : Nat → Nat → Int32) (ib : Nat → Option Nat) (I Y : va_W) (i : Nat) : Prop := (ib i = none ∧ A 2 i = 0 ∧ I = []) ∨ ∃ (b : Nat) (a : Nat → Nat) (T C U V : Nat) (rd ro : Nat → Int32) (lw pl : Nat → Option Nat) (pc gv aw nt : Nat → Int32), ib i = some b ∧ ¬ A 2 i = 0 ∧ I = lW g b a (nI T) (nI C) (nI U) (nI V) rd ro lw pl pc gv aw nt ∧ nOK (fun k => A 1 (454 * i + k)) T C V U ∧ relL (fun k => A 1 (454 * i + k)) T C U V rd ro lw pl pc gv Y
theorem imR_in {g : zG} {A : Nat → Nat → Int32} {ib : Nat → Option Nat} {I Y Y' : va_W} {i : Nat} (h : imR g A ib I Y i) (hY : ∀ x ∈ Y, x ∈ Y') : imR g A ib I Y' i := by
  rcases h with h | ⟨b, a, T, C, U, V, rd, ro, lw, pl, pc, gv, aw, nt, h1, h2, h3, h4, h5⟩
  · exact Or.inl h
  · exact Or.inr ⟨b, a, T, C, U, V, rd, ro, lw, pl, pc, gv, aw, nt, h1, h2, h3, h4, relL_in h5 hY⟩
theorem imR_A {g : zG} {A A' : Nat → Nat → Int32} {ib : Nat → Option Nat} {I Y : va_W} {i : Nat} (h : imR g A ib I Y i) (h1 : A' 1 = A 1) (h2 : A' 2 = A 2) : imR g A' ib I Y i := by
  unfold imR at *
  rw [h1, h2]
  exact h
def cS (g : zG) (x9 : Nat) (A : Nat → Nat → Int32) (L : Nat → Int64) (ln T C V U : Nat) (Z W : va_W) : Prop := ∃ (im tx : Nat) (ab be : Int32) (tb : Nat → Int32) (ib : Nat → Option Nat) (I0 I1 : va_W) (d rr : Nat) (da dr : Nat → Nat) (rd ro : Nat → Int32) (lw pl : Nat → Option Nat) (pc gv aw nt : Nat → Int32) (T2 C2 U2 V2 : Nat) (rd2 ro2 : Nat → Int32) (lw2 pl2 : Nat → Option Nat) (pc2 gv2 aw2 nt2 : Nat → Int32) (Y : va_W), W.Perm (xW g x9 d rr im tx (nI ln) ab be (A 3 0) (A 3 1) (A 3 2) tb ib ++ (lW g d da (nI T) (nI C) (nI U) (nI V) rd ro lw pl pc gv aw nt ++ (lW g rr dr (nI T2) (nI C2) (nI U2) (nI V2) rd2 ro2 lw2 pl2 pc2 gv2 aw2 nt2 ++ (Y ++ (I0 ++ (I1 ++ Z)))))) ∧ nOK (A 0) T C V U ∧ relL (A 0) T C U V rd ro lw pl pc gv Y ∧ (bN lw2 8 Y ∧ bN pl2 64 Y) ∧ imR g A ib I0 Y 0 ∧ imR g A ib I1 Y 1 ∧ L 4 = ab.toInt64 ∧ L 5 = be.toInt64 ∧ (∀ i, i < ln → tb i = A 5 i) ∧ ln ≤ 150 ∧ byOK (A 5) ln
theorem cS_ok {g : zG} {x9 : Nat} {A : Nat → Nat → Int32} {L : Nat → Int64} {ln T C V U : Nat} {Z W : va_W} (h : cS g x9 A L ln T C V U Z W) : nOK (A 0) T C V U ∧ ln ≤ 150 ∧ byOK (A 5) ln := by
  obtain ⟨im, tx, ab, be, tb, ib, I0, I1, d, rr, da, dr, rd, ro, lw, pl, pc, gv, aw, nt, T2, C2, U2, V2, rd2, ro2, lw2, pl2, pc2, gv2, aw2, nt2, Y, hW, hn, hrel, hbn, hi0, hi1, h4, h5, htb, hln, hby⟩ := h
  exact ⟨hn, hln, hby⟩
/-- rows that the class knows nothing of -/
theorem cS_A {g : zG} {x9 : Nat} {A A' : Nat → Nat → Int32} {L L' : Nat → Int64} {ln T C V U : Nat} {Z W : va_W} (h : cS g x9 A L ln T C V U Z W) (h0 : A' 0 = A 0) (h1 : A' 1 = A 1) (h2 : A' 2 = A 2) (h3 : A' 3 = A 3) (h5' : A' 5 = A 5) (hl4 : L' 4 = L 4) (hl5 : L' 5 = L 5) : cS g x9 A' L' ln T C V U Z W := by
  obtain ⟨im, tx, ab, be, tb, ib, I0, I1, d, rr, da, dr, rd, ro, lw, pl, pc, gv, aw, nt, T2, C2, U2, V2, rd2, ro2, lw2, pl2, pc2, gv2, aw2, nt2, Y, hW, hn, hrel, hbn, hi0, hi1, h4, h5, htb, hln, hby⟩ := h
  refine ⟨im, tx, ab, be, tb, ib, I0, I1, d, rr, da, dr, rd, ro, lw, pl, pc, gv, aw, nt, T2, C2, U2, V2, rd2, ro2, lw2, pl2, pc2, gv2, aw2, nt2, Y, ?_, by rw [h0]; exact hn, by rw [h0]; exact hrel, hbn, imR_A hi0 h1 h2, imR_A hi1 h1 h2, hl4.trans h4, hl5.trans h5, by rw [h5']; exact htb, hln, by rw [h5']; exact hby⟩
  rw [h3]
  exact hW
/-- the object and its land ahead -/
theorem cS_open {g : zG} {x9 : Nat} {A : Nat → Nat → Int32} {L : Nat → Int64} {ln T C V U : Nat} {Z W : va_W} (h : cS g x9 A L ln T C V U Z W) : ∃ (im tx : Nat) (ab be : Int32) (tb : Nat → Int32) (ib : Nat → Option Nat) (d rr : Nat) (da : Nat → Nat) (rd ro : Nat → Int32) (lw pl : Nat → Option Nat) (pc gv aw nt : Nat → Int32) (Y X : va_W), W.Perm (xW g x9 d rr im tx (nI ln) ab be (A 3 0) (A 3 1) (A 3 2) tb ib ++ (lW g d da (nI T) (nI C) (nI U) (nI V) rd ro lw pl pc gv aw nt ++ (Y ++ X))) ∧ nOK (A 0) T C V U ∧ relL (A 0) T C U V rd ro lw pl pc gv Y ∧ L 4 = ab.toInt64 ∧ L 5 = be.toInt64 ∧ (∀ i, i < ln → tb i = A 5 i) ∧ ln ≤ 150 ∧ byOK (A 5) ln ∧
    ∀ (A' : Nat → Nat → Int32) (L' : Nat → Int64) (ln' : Nat) (ab' be' : Int32) (tb' : Nat → Int32) (ws : va_W), lS g x9 d da rr im tx A' ln' ab' be' tb' ib Y X ws → A' 1 = A 1 → A' 2 = A 2 → L' 4 = ab'.toInt64 → L' 5 = be'.toInt64 → (∀ i, i < ln' → tb' i = A' 5 i) → ln' ≤ 150 → byOK (A' 5) ln' → ∃ T' C' V' U' : Nat, cS g x9 A' L' ln' T' C' V' U' Z ws := by
  obtain ⟨im, tx, ab, be, tb, ib, I0, I1, d, rr, da, dr, rd, ro, lw, pl, pc, gv, aw, nt, T2, C2, U2, V2, rd2, ro2, lw2, pl2, pc2, gv2, aw2, nt2, Y, hW, hn, hrel, hbn, hi0, hi1, h4, h5, htb, hln, hby⟩ := h
  refine ⟨im, tx, ab, be, tb, ib, d, rr, da, rd, ro, lw, pl, pc, gv, aw, nt, Y, lW g rr dr (nI T2) (nI C2) (nI U2) (nI V2) rd2 ro2 lw2 pl2 pc2 gv2 aw2 nt2 ++ (I0 ++ (I1 ++ Z)), hW.trans (List.Perm.append_left _ (List.Perm.append_left _ (List.perm_append_comm_assoc _ _ _))), hn, hrel, h4, h5, htb, hln, hby, ?_⟩
  intro A' L' ln' ab' be' tb' ws hs h1 h2 h4' h5' htb' hln' hby'
  obtain ⟨T', C', U', V', rd', ro', lw', pl', pc', gv', aw', nt', Y', e, hn', hrel', hY⟩ := hs
  subst e
  exact ⟨T', C', V', U', im, tx, ab', be', tb', ib, I0, I1, d, rr, da, dr, rd', ro', lw', pl', pc', gv', aw', nt', T2, C2, U2, V2, rd2, ro2, lw2, pl2, pc2, gv2, aw2, nt2, Y', List.Perm.append_left _ (List.Perm.append_left _ (List.perm_append_comm_assoc _ _ _)), hn', hrel', ⟨bN_in hbn.1 hY, bN_in hbn.2 hY⟩, imR_A (imR_in hi0 hY) h1 h2, imR_A (imR_in hi1 hY) h1 h2, h4', h5', htb', hln', hby'⟩
/-- the model ahead -/
theorem cS_tail {g : zG} {x9 : Nat} {A : Nat → Nat → Int32} {L : Nat → Int64} {ln T C V U : Nat} {Z W : va_W} (h : cS g x9 A L ln T C V U Z W) : ∃ W2 : va_W, W.Perm (Z ++ W2) ∧ ∀ Z' : va_W, cS g x9 A L ln T C V U Z' (Z' ++ W2) := by
  obtain ⟨im, tx, ab, be, tb, ib, I0, I1, d, rr, da, dr, rd, ro, lw, pl, pc, gv, aw, nt, T2, C2, U2, V2, rd2, ro2, lw2, pl2, pc2, gv2, aw2, nt2, Y, hW, hn, hrel, hbn, hi0, hi1, h4, h5, htb, hln, hby⟩ := h
  have e : ∀ Z' : va_W, (xW g x9 d rr im tx (nI ln) ab be (A 3 0) (A 3 1) (A 3 2) tb ib ++ (lW g d da (nI T) (nI C) (nI U) (nI V) rd ro lw pl pc gv aw nt ++ (lW g rr dr (nI T2) (nI C2) (nI U2) (nI V2) rd2 ro2 lw2 pl2 pc2 gv2 aw2 nt2 ++ (Y ++ (I0 ++ (I1 ++ Z')))))) = (xW g x9 d rr im tx (nI ln) ab be (A 3 0) (A 3 1) (A 3 2) tb ib ++ (lW g d da (nI T) (nI C) (nI U) (nI V) rd ro lw pl pc gv aw nt ++ (lW g rr dr (nI T2) (nI C2) (nI U2) (nI V2) rd2 ro2 lw2 pl2 pc2 gv2 aw2 nt2 ++ (Y ++ (I0 ++ I1))))) ++ Z' := fun Z' => by simp only [List.append_assoc]
  refine ⟨xW g x9 d rr im tx (nI ln) ab be (A 3 0) (A 3 1) (A 3 2) tb ib ++ (lW g d da (nI T) (nI C) (nI U) (nI V) rd ro lw pl pc gv aw nt ++ (lW g rr dr (nI T2) (nI C2) (nI U2) (nI V2) rd2 ro2 lw2 pl2 pc2 gv2 aw2 nt2 ++ (Y ++ (I0 ++ I1)))), (hW.trans (by rw [e Z])).trans List.perm_append_comm, fun Z' => ?_⟩
  refine ⟨im, tx, ab, be, tb, ib, I0, I1, d, rr, da, dr, rd, ro, lw, pl, pc, gv, aw, nt, T2, C2, U2, V2, rd2, ro2, lw2, pl2, pc2, gv2, aw2, nt2, Y, ?_, hn, hrel, hbn, hi0, hi1, h4, h5, htb, hln, hby⟩
  rw [e Z']
  exact List.perm_append_comm
/-- rows alike as far as they are read -/
theorem nOK_eq {n m : Nat → Int32} {T C V U : Nat} (h : nOK n T C V U) (hm : ∀ x, x < 454 → m x = n x) : nOK m T C V U := by
  have h8 := h.V8
  have hu := h.U8
  exact nOK_of h ⟨(hm 0 (by omega)).trans h.T, h.T6⟩ ⟨(hm 1 (by omega)).trans h.C, h.C8⟩ ⟨(hm 2 (by omega)).trans h.V, h.V8⟩ ⟨(hm 3 (by omega)).trans h.U, h.U8⟩ (Nat.le_refl _) (Nat.le_refl _) (Nat.le_refl _) (fun i hi => Or.inl (hm _ (by omega))) (fun x h1 h2 => hm _ (by omega)) (fun j hj => hm _ (by omega))
theorem relL_mv {n m : Nat → Int32} {T C U V : Nat} {rd ro : Nat → Int32} {lw pl : Nat → Option Nat} {pc gv : Nat → Int32} {B : va_W} (h : relL n T C U V rd ro lw pl pc gv B) (hn : nOK n T C V U) (hm : ∀ x, x < 454 → m x = n x) : relL m T C U V rd ro lw pl pc gv B := by
  have hT := hn.T6
  have hC := hn.C8
  have hV := hn.V8
  have hU := hn.U8
  have hP := hn.P
  obtain ⟨h1, h2, h3, h4, h5, h6, h7⟩ := h
  refine ⟨fun t ht => by rw [hm _ (by omega)]; exact h1 t ht, fun x hx => by rw [hm _ (by omega)]; exact h2 x hx, fun c hc => bAt_mv (h3 c hc) fun j hj => hm _ (by omega), fun k hk => by rw [hm _ (by omega)]; exact h4 k hk, fun j hj => ?_, h6, h7⟩
  rw [hm _ (by omega)]
  refine ⟨(h5 j hj).1, fun c hc => ?_⟩
  obtain ⟨c1, hc1, ec1⟩ := hP j hj
  have hc8 : c < 8 := by rw [ec1, rcl (show c1 < 2 ^ 31 by omega)] at hc; omega
  exact bAt_mv ((h5 j hj).2 c hc) fun i hi => hm _ (by omega)
theorem imR_j {g : zG} {A A' : Nat → Nat → Int32} {ib ib' : Nat → Option Nat} {I Y : va_W} {i : Nat} (h : imR g A ib I Y i) (h1 : ∀ x, x < 454 → A' 1 (454 * i + x) = A 1 (454 * i + x)) (h2 : A' 2 i = A 2 i) (h3 : ib' i = ib i) : imR g A' ib' I Y i := by
  rcases h with h | ⟨b, a, T, C, U, V, rd, ro, lw, pl, pc, gv, aw, nt, g1, g2, g3, g4, g5⟩
  · exact Or.inl ⟨h3.trans h.1, h2.trans h.2.1, h.2.2⟩
  · exact Or.inr ⟨b, a, T, C, U, V, rd, ro, lw, pl, pc, gv, aw, nt, h3.trans g1, by rw [h2]; exact g2, g3, nOK_eq g4 h1, relL_mv g5 g4 h1⟩
theorem nIm_k {k n : Nat → Int32} {i x : Nat} (hx : x < 454) : nIm k n i (454 * i + x) = n x := by
  unfold nIm
  rw [if_pos (by omega), show 454 * i + x - 454 * i = x by omega]
theorem nIm_j {k n : Nat → Int32} {i j x : Nat} (hx : x < 454) (hij : j ≠ i) : nIm k n i (454 * j + x) = k (454 * j + x) := by
  unfold nIm
  rw [if_neg (by omega)]
theorem nFr_x {k n : Nat → Int32} {i x : Nat} (hx : x < 454) : nFr k n i x = k (454 * i + x) := by
  unfold nFr
  rw [if_pos hx]
theorem pm0 {x l d y i j z : va_W} : (x ++ (l ++ (d ++ (y ++ (i ++ (j ++ z)))))).Perm (x ++ (l ++ (i ++ (d ++ (y ++ (j ++ z)))))) :=
  (List.Perm.append_left _ (List.Perm.append_left _ (List.Perm.append_left _ (List.perm_append_comm_assoc _ _ _)))).trans (List.Perm.append_left _ (List.Perm.append_left _ (List.perm_append_comm_assoc _ _ _)))
theorem pm1 {x l d y i j z : va_W} : (x ++ (l ++ (d ++ (y ++ (i ++ (j ++ z)))))).Perm (x ++ (l ++ (j ++ (d ++ (y ++ (i ++ z)))))) :=
  (List.Perm.append_left _ (List.Perm.append_left _ (List.Perm.append_left _ (List.Perm.append_left _ (List.perm_append_comm_assoc _ _ _))))).trans pm0
/-- the law's state: both sides -/
def LI (g : zG) (x9 o : Nat) (a : Nat → Nat) (W : va_W) : Prop := ∃ (F : Nat → Int32) (L : Nat → Int64) (A : Nat → Nat → Int32) (ln T C V U : Nat), F 16 = nI ln ∧ cS g x9 A L ln T C V U (mW g o a F L A) W
theorem in01_k {w : Int32} (h : inZ 0 1 w.toInt = true) : ∃ k : Nat, k ≤ 1 ∧ w = nI k := pIn_nI (hi := 1) h (by omega)
