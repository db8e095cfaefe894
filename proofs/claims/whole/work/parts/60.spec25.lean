/-! The object with its draft, beside the model's rows. -/
def cD (g : zG) (x9 im tx : Nat) (A : Nat → Nat → Int32) (ln : Nat) (ab be : Int32) (tb : Nat → Int32) (ib : Nat → Option Nat) (Y X ws : va_W) : Prop := ∃ (d rr : Nat) (da dr : Nat → Nat) (T C U V : Nat) (rd ro : Nat → Int32) (lw pl : Nat → Option Nat) (pc gv aw nt : Nat → Int32) (T2 C2 U2 V2 : Nat) (rd2 ro2 : Nat → Int32) (lw2 pl2 : Nat → Option Nat) (pc2 gv2 aw2 nt2 : Nat → Int32) (Y' : va_W), ws.Perm (xW g x9 d rr im tx (nI ln) ab be (A 3 0) (A 3 1) (A 3 2) tb ib ++ (lW g d da (nI T) (nI C) (nI U) (nI V) rd ro lw pl pc gv aw nt ++ (lW g rr dr (nI T2) (nI C2) (nI U2) (nI V2) rd2 ro2 lw2 pl2 pc2 gv2 aw2 nt2 ++ (Y' ++ X)))) ∧ nOK (A 0) T C V U ∧ relL (A 0) T C U V rd ro lw pl pc gv Y' ∧ (bN lw2 8 Y' ∧ bN pl2 64 Y') ∧ ∀ x ∈ Y, x ∈ Y'
theorem cD_i {g : zG} {x9 im tx : Nat} {A A1 : Nat → Nat → Int32} {ln : Nat} {ab be : Int32} {tb : Nat → Int32} {ib : Nat → Option Nat} {Y X ws : va_W} (d rr : Nat) (da dr : Nat → Nat) (T C U V : Nat) (rd ro : Nat → Int32) (lw pl : Nat → Option Nat) (pc gv aw nt : Nat → Int32) (T2 C2 U2 V2 : Nat) (rd2 ro2 : Nat → Int32) (lw2 pl2 : Nat → Option Nat) (pc2 gv2 aw2 nt2 : Nat → Int32) (Y' : va_W) (hA : A = A1) (h1 : ws.Perm (xW g x9 d rr im tx (nI ln) ab be (A1 3 0) (A1 3 1) (A1 3 2) tb ib ++ (lW g d da (nI T) (nI C) (nI U) (nI V) rd ro lw pl pc gv aw nt ++ (lW g rr dr (nI T2) (nI C2) (nI U2) (nI V2) rd2 ro2 lw2 pl2 pc2 gv2 aw2 nt2 ++ (Y' ++ X))))) (h2 : nOK (A1 0) T C V U) (h3 : relL (A1 0) T C U V rd ro lw pl pc gv Y') (h4 : bN lw2 8 Y' ∧ bN pl2 64 Y') (h5 : ∀ x ∈ Y, x ∈ Y') : cD g x9 im tx A ln ab be tb ib Y X ws := by
  subst hA
  exact ⟨d, rr, da, dr, T, C, U, V, rd, ro, lw, pl, pc, gv, aw, nt, T2, C2, U2, V2, rd2, ro2, lw2, pl2, pc2, gv2, aw2, nt2, Y', h1, h2, h3, h4, h5⟩
theorem xJ_l {x : zX} {q T C : Nat} {N : Nat → Int32} (h : rdP x q N T C) (hx : (xJ x).toInt < 0) (hn : ∀ y, x = .inr y → y.1 ≤ 152) : x = .inl q ∧ (-10) - nI q = xI x := by
  cases x with
  | inl e =>
    have h9 : q = e := h
    rw [h9]
    exact ⟨rfl, rfl⟩
  | inr y =>
    have h9 : (xJ (.inr y)).toInt = ((y.1 : Nat) : Int) := nI_toInt (by have := hn y rfl; omega)
    rw [h9] at hx
    omega
theorem xJ_r {x : zX} {q T C : Nat} {N : Nat → Int32} (h : rdP x q N T C) (hx : ¬ (xJ x).toInt < 0) : ∃ it, x = .inr (it, N, T, C) ∧ xJ x = xI x := by
  cases x with
  | inl e =>
    have h9 : (xJ (.inl e)).toInt = -1 := rfl
    rw [h9] at hx
    omega
  | inr y =>
    obtain ⟨it, N', T', C'⟩ := y
    obtain ⟨h1, h2, h3⟩ := h
    exact ⟨it, by rw [h1, h2, h3], rfl⟩
theorem nRd_l {x : zX} {q : Nat} {n : Nat → Int32} (h : x = .inl q) : nRd x n = n := by rw [h]; rfl
theorem relL_bN {n : Nat → Int32} {T C U V : Nat} {rd ro : Nat → Int32} {lw pl : Nat → Option Nat} {pc gv : Nat → Int32} {B : va_W} (h : relL n T C U V rd ro lw pl pc gv B) : bN lw 8 B ∧ bN pl 64 B := ⟨h.2.2.2.2.2.1, h.2.2.2.2.2.2⟩
theorem relL_0 {m : Nat → Int32} {rd f : Nat → Int32} {lw pl : Nat → Option Nat} {pc gv : Nat → Int32} {B : va_W} (h : bN lw 8 B ∧ bN pl 64 B) (hf : ∀ i, i < 36 → f i = nI 0) : relL (clr m) 0 0 0 0 rd f lw pl pc gv B := by
  refine ⟨fun t ht => absurd ht (by omega), fun i hi => ?_, fun c hc => absurd hc (by omega), fun k hk => absurd hk (by omega), fun j hj => absurd hj (by omega), h.1, h.2⟩
  rw [hf i hi]
  unfold clr
  rw [if_pos (by omega)]
  rfl
theorem bN_more {f : Nat → Option Nat} {N : Nat} {B B' : va_W} (h : bN f N B) (hB : ∀ x ∈ B, x ∈ B') : bN f N B' := bN_in h hB
