/-! What is told and read: pure words over the row n of told things. -/
def alw (k : Int32) : Bool := !(decide (k = 0) || decide (k = nI 2))
/-- on how many days a clause speaks -/
def spD (n : Nat → Int32) (c : Nat) : Int32 := if n (46 + 5 * c + 0) = nI 2 then (n (46 + 5 * c + 3) - n (46 + 5 * c + 2) + nI 1) / nI 2 else n (46 + 5 * c + 3) - n (46 + 5 * c + 2)
def spH (n : Nat → Int32) (c : Nat) (tw : Int32) : Bool := !(decide (n (46 + 5 * c + 0) = nI 3) || decide (n (46 + 5 * c + 0) = nI 5)) || decide (n (46 + 5 * c + 4) = tw)
def spW (n : Nat → Int32) (c : Nat) (dd : Int32) : Bool := decide ((n (46 + 5 * c + 2)).toInt ≤ dd.toInt) && decide (dd.toInt < (n (46 + 5 * c + 2) + spD n c).toInt)
def spT (n : Nat → Int32) (c : Nat) (dy sh : Int32) : Bool := (!decide (n (46 + 5 * c + 0) = nI 4) || decide (dy = nI 1)) && (!decide (n (46 + 5 * c + 0) = nI 5) || decide (sh = nI 1))
def spk (n : Nat → Int32) (c : Nat) (tw ac dd dy sh : Int32) : Bool := decide (n (46 + 5 * c + 1) = ac) && (spH n c tw && (spW n c dd && spT n c dy sh))
/-- of those told ahead of k: the first, the last, how many -/
def hF (P : Nat → Bool) : Nat → Option Nat
  | 0 => none
  | k + 1 => match hF P k with
    | some j => some j
    | none => if P k then some k else none
def hL (P : Nat → Bool) : Nat → Option Nat
  | 0 => none
  | k + 1 => if P k then some k else hL P k
def cn (P : Nat → Bool) : Nat → Nat
  | 0 => 0
  | k + 1 => cn P k + (if P k then 1 else 0)
theorem hF_lt {P : Nat → Bool} : ∀ {k j : Nat}, hF P k = some j → j < k ∧ P j = true := by
  intro k
  induction k with
  | zero => intro j h; cases h
  | succ k ih =>
    intro j h
    simp only [hF] at h
    cases h2 : hF P k with
    | some i =>
      rw [h2] at h
      cases h
      exact ⟨Nat.lt_succ_of_lt (ih h2).1, (ih h2).2⟩
    | none =>
      rw [h2] at h
      by_cases hp : P k = true
      · simp [hp] at h; subst h; exact ⟨Nat.lt_succ_self _, hp⟩
      · simp [hp] at h
theorem hL_lt {P : Nat → Bool} : ∀ {k j : Nat}, hL P k = some j → j < k ∧ P j = true := by
  intro k
  induction k with
  | zero => intro j h; cases h
  | succ k ih =>
    intro j h
    simp only [hL] at h
    by_cases hp : P k = true
    · simp [hp] at h; subst h; exact ⟨Nat.lt_succ_self _, hp⟩
    · simp [hp] at h; exact ⟨Nat.lt_succ_of_lt (ih h).1, (ih h).2⟩
theorem cn_le (P : Nat → Bool) : ∀ k, cn P k ≤ k := by
  intro k
  induction k with
  | zero => exact Nat.le_refl _
  | succ k ih => simp only [cn]; split <;> omega
theorem hF_ext {P Q : Nat → Bool} : ∀ k, (∀ j, j < k → P j = Q j) → hF P k = hF Q k := by
  intro k
  induction k with
  | zero => intro _; rfl
  | succ k ih => intro h; simp only [hF]; rw [ih (fun j hj => h j (Nat.lt_succ_of_lt hj)), h k (Nat.lt_succ_self _)]
theorem hL_ext {P Q : Nat → Bool} : ∀ k, (∀ j, j < k → P j = Q j) → hL P k = hL Q k := by
  intro k
  induction k with
  | zero => intro _; rfl
  | succ k ih => intro h; simp only [hL]; rw [ih (fun j hj => h j (Nat.lt_succ_of_lt hj)), h k (Nat.lt_succ_self _)]
theorem cn_ext {P Q : Nat → Bool} : ∀ k, (∀ j, j < k → P j = Q j) → cn P k = cn Q k := by
  intro k
  induction k with
  | zero => intro _; rfl
  | succ k ih => intro h; simp only [cn]; rw [ih (fun j hj => h j (Nat.lt_succ_of_lt hj)), h k (Nat.lt_succ_self _)]
/-- the one that decides, by a reading -/
def dec (rd : Int32) (f la fa ff : Option Nat) (ca cf : Nat) : Option Nat := if rd = nI 0 then f else if rd = nI 1 then la else if rd = nI 2 then (match fa with | some k => some k | none => f) else if cf < ca then fa else ff
/-- who speaks, S being struck; of those, who allows -/
def hP (n : Nat → Int32) (S : Nat) (tw ac dd dy sh : Int32) (c : Nat) : Bool := decide (S / 2 ^ c % 2 = 0) && spk n c tw ac dd dy sh
def hA (n : Nat → Int32) (P : Nat → Bool) (c : Nat) : Bool := P c && alw (n (46 + 5 * c + 0))
def hB' (n : Nat → Int32) (P : Nat → Bool) (c : Nat) : Bool := P c && !alw (n (46 + 5 * c + 0))
def decP (n : Nat → Int32) (C : Nat) (rd : Int32) (P : Nat → Bool) : Option Nat := dec rd (hF P C) (hL P C) (hF (hA n P) C) (hF (hB' n P) C) (cn (hA n P) C) (cn (hB' n P) C)
def alO (n : Nat → Int32) (x : Option Nat) : Bool := match x with
  | none => true
  | some k => alw (n (46 + 5 * k + 0))
def decN (n : Nat → Int32) (C t : Nat) (ac dd dy sh : Int32) (S : Nat) : Option Nat := decP n C (n (4 + t)) (hP n S (nI t) ac dd dy sh)
def isA (n : Nat → Int32) (C t : Nat) (ac dd dy sh : Int32) (S : Nat) : Bool := alO n (decN n C t ac dd dy sh S)
theorem decP_lt {n : Nat → Int32} {C : Nat} {rd : Int32} {P : Nat → Bool} {k : Nat} (h : decP n C rd P = some k) : k < C := by
  unfold decP dec at h
  repeat' split at h
  · exact (hF_lt h).1
  · exact (hL_lt h).1
  · next h1 => cases h; exact (hF_lt h1).1
  · exact (hF_lt h).1
  · exact (hF_lt h).1
  · exact (hF_lt h).1
theorem decN_lt {n : Nat → Int32} {C t : Nat} {ac dd dy sh : Int32} {S k : Nat} (h : decN n C t ac dd dy sh S = some k) : k < C := decP_lt h
/-- writes -/
def nTown (n : Nat → Int32) (T : Nat) (r : Int32) : Nat → Int32 := upd (upd n (4 + T) r) 0 (nI (T + 1))
def nRoad (n : Nat → Int32) (i j : Nat) (d : Int32) : Nat → Int32 := upd (upd n (10 + 6 * i + j) d) (10 + 6 * j + i) d
def nCl (n : Nat → Int32) (C : Nat) (k a f t w : Int32) : Nat → Int32 := upd (upd (upd (upd (upd (upd n (46 + 5 * C + 0) k) (46 + 5 * C + 1) a) (46 + 5 * C + 2) f) (46 + 5 * C + 3) t) (46 + 5 * C + 4) w) 1 (nI (C + 1))
def nSh (n : Nat → Int32) : Nat → Int32 := fun x => if 126 ≤ x ∧ x < 413 then n (x + 41) else n x
def nK1 (n : Nat → Int32) (U : Nat) : Nat → Int32 := if U = 8 then upd (nSh n) 3 (nI 7) else n
def uK (U : Nat) : Nat := if U = 8 then 7 else U
def nCp (n : Nat → Int32) (u : Nat) : Nat → Int32 := fun x => if 126 + 41 * u ≤ x ∧ x < 166 + 41 * u then n (46 + (x - (126 + 41 * u))) else n x
def nKeep (n : Nat → Int32) (U C : Nat) : Nat → Int32 := upd (upd (nCp (nK1 n U) (uK U)) (126 + 41 * uK U + 40) (nI C)) 3 (nI (uK U + 1))
/-- clauses behind one told come a place ahead -/
def nSt (n : Nat → Int32) (c : Nat) : Nat → Int32 := fun x => if 46 + 5 * c ≤ x ∧ x < 81 then n (x + 5) else n x
def nStrike (n : Nat → Int32) (C c : Nat) : Nat → Int32 := upd (nSt n c) 1 (nI (C - 1))
def nBk (n : Nat → Int32) (u : Nat) : Nat → Int32 := fun x => if 46 ≤ x ∧ x < 86 then n (126 + 41 * u + (x - 46)) else n x
def nUndo (n : Nat → Int32) (U : Nat) : Nat → Int32 := upd (upd (nBk n (U - 1)) 1 (n (126 + 41 * (U - 1) + 40))) 3 (nI (U - 1))
theorem uK_le {U : Nat} (h : U ≤ 8) : uK U ≤ 7 := by unfold uK; split <;> omega
theorem nK1_3 {n : Nat → Int32} {U : Nat} (h : n 3 = nI U) : nK1 n U 3 = nI (uK U) := by
  unfold nK1 uK
  split
  · simp [upd]
  · exact h
theorem nK1_x {n : Nat → Int32} {U x : Nat} (h : x < 126) (h3 : x ≠ 3) : nK1 n U x = n x := by
  unfold nK1
  split
  · simp only [upd, nSh]
    rw [if_neg h3, if_neg (by omega)]
  · rfl
