/-! Forbidden in a town; towns that agree in an act. -/
theorem frb_N {n : Nat → Int32} {C t w : Nat} {ac dd : Int32} : frbQ (fun c => alw (n (46 + 5 * c + 0))) C (n (4 + t)) (hP n 0 (nI t) ac dd (nI (w / 2)) (nI (w % 2))) = !isA n C t ac dd (nI (w / 2)) (nI (w % 2)) 0 := frbQ_P
theorem frb_A {n : Nat → Int32} {C t act S : Nat} {dd : Int32} : frbQ (fun c => alw (n (46 + 5 * c + 0))) C (n (4 + t)) (hP n S (nI t) (nI act) dd (nI 0) (nI 0)) = !acAl n C dd S act t := frbQ_P
theorem alw_k {n : Nat → Int32} {c k : Nat} (h : n (46 + 5 * c + 0) = nI k) {b : Bool} (h2 : alw (nI k) = b) : (fun c => alw (n (46 + 5 * c + 0))) c = b := by
  show alw (n (46 + 5 * c + 0)) = b
  rw [h, h2]
theorem smL_5 {n : Nat → Int32} {h : Int64} {c k : Nat} {x : Int64} (hx : x = smL n h 46 (5 * c)) (hk : n (46 + 5 * c + 0) = nI k) (h9 : k < 2 ^ 31) : lN 31 * (lN 31 * (lN 31 * (lN 31 * (lN 31 * x + lN k) + (n (46 + 5 * c + 1)).toInt64) + (n (46 + 5 * c + 2)).toInt64) + (n (46 + 5 * c + 3)).toInt64) + (n (46 + 5 * c + 4)).toInt64 = smL n h 46 (5 * (c + 1)) := by
  rw [show 5 * (c + 1) = 5 * c + 1 + 1 + 1 + 1 + 1 by omega]
  simp only [smL]
  rw [← hx, show 46 + 5 * c = 46 + 5 * c + 0 from rfl, hk, nI_l h9]
  rfl
/-- which clauses speak in an act and a town, noted ahead -/
def ntOK (n : Nat → Int32) (C T ac : Nat) (dd : Int32) (f : Nat → Int32) (k : Nat) : Prop := ∀ a, a < k → ac / 2 ^ a % 2 = 1 → ∀ t, t < T → f (6 * a + t) = nI (rdB (hP n 0 (nI t) (nI a) dd (nI 0) (nI 0)) C)
def ntI (n : Nat → Int32) (C ac : Nat) (dd : Int32) (f : Nat → Int32) (a t : Nat) : Prop := ac / 2 ^ a % 2 = 1 → ∀ t', t' < t → f (6 * a + t') = nI (rdB (hP n 0 (nI t') (nI a) dd (nI 0) (nI 0)) C)
theorem ntOK_up {n : Nat → Int32} {C T ac k t : Nat} {dd : Int32} {f : Nat → Int32} {v : Int32} (h : ntOK n C T ac dd f k) (hT : T ≤ 6) (ht : t < T) : ntOK n C T ac dd (upd f (6 * k + t) v) k := by
  intro a ha hb t' ht'
  simp only [upd]
  rw [if_neg (by omega)]
  exact h a ha hb t' ht'
theorem ntI_up {n : Nat → Int32} {C ac k t : Nat} {dd : Int32} {f : Nat → Int32} {v : Int32} (h : ntI n C ac dd f k t) (hv : ac / 2 ^ k % 2 = 1 → v = nI (rdB (hP n 0 (nI t) (nI k) dd (nI 0) (nI 0)) C)) : ntI n C ac dd (upd f (6 * k + t) v) k (t + 1) := by
  intro hb t' ht'
  simp only [upd]
  by_cases e : t' = t
  · subst e; rw [if_pos rfl]; exact hv hb
  · rw [if_neg (by omega)]; exact h hb t' (by omega)
theorem ntOK_s {n : Nat → Int32} {C T ac k t : Nat} {dd : Int32} {f : Nat → Int32} (h : ntOK n C T ac dd f k) (h2 : ntI n C ac dd f k t) (ht : T ≤ t) : ntOK n C T ac dd f (k + 1) := by
  intro a ha hb t' ht'
  by_cases e : a = k
  · subst e; exact h2 hb t' (by omega)
  · exact h a (by omega) hb t' ht'
theorem ag_next {al : Nat → Nat → Bool} {a t : Nat} (h : ∀ t', 1 ≤ t' → t' < t → al a t' = al a 0) (h2 : al a t = al a 0) : ∀ t', 1 ≤ t' → t' < t + 1 → al a t' = al a 0 := by
  intro t' h3 h4
  by_cases e : t' = t
  · rw [e]; exact h2
  · exact h t' h3 (by omega)
def agA (al : Nat → Nat → Bool) (T a : Nat) : Prop := ∀ t, 1 ≤ t → t < T → al a t = al a 0
