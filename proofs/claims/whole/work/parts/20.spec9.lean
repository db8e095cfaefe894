/-! The text: tokens by their places, items, the land that is told. -/
def isSm (x : Int32) : Bool := pIn 97 122 x
def isFg (x : Int32) : Bool := pIn 48 57 x
/-- past blanks -/
def skF (b : Nat → Int32) (ln : Nat) : Nat → Nat → Nat
  | 0, p => p
  | f + 1, p => if p < ln ∧ b p = nI 32 then skF b ln f (p + 1) else p
def sk (b : Nat → Int32) (ln p : Nat) : Nat := skF b ln (ln - p) p
/-- how many of a kind in a row -/
def rnF (P : Int32 → Bool) (b : Nat → Int32) (ln : Nat) : Nat → Nat → Nat
  | 0, _ => 0
  | f + 1, p => if p < ln ∧ P (b p) = true then rnF P b ln f (p + 1) + 1 else 0
def rn (P : Int32 → Bool) (b : Nat → Int32) (ln p : Nat) : Nat := rnF P b ln (ln - p) p
/-- kinds: 0 the end, 1 a word, 2 a number, 3 ; and 4 what is none -/
def k0 (b : Nat → Int32) (q : Nat) : Nat := if isSm (b q) = true then 1 else if isFg (b q) = true then 2 else if b q = nI 59 then 3 else 4
def le (b : Nat → Int32) (ln q : Nat) : Nat := if ln ≤ q then 0 else if k0 b q = 1 then rn isSm b ln q else if k0 b q = 2 then rn isFg b ln q else 1
def kd (b : Nat → Int32) (ln q : Nat) : Nat := if ln ≤ q then 0 else if k0 b q = 2 ∧ 2 < le b ln q then 4 else k0 b q
def vlF (b : Nat → Int32) (q : Nat) : Nat → Nat
  | 0 => 0
  | k + 1 => 10 * vlF b q k + rc (b (q + k)) - 48
def vl (b : Nat → Int32) (ln q : Nat) : Nat := if ln ≤ q then 0 else if k0 b q = 2 then vlF b q (if le b ln q ≤ 2 then le b ln q else 2) else 0
def nx (b : Nat → Int32) (ln q : Nat) : Nat := sk b ln (q + le b ln q)
theorem sk_yes {b : Nat → Int32} {ln p : Nat} (h : p < ln) (hb : b p = nI 32) : sk b ln p = sk b ln (p + 1) := by
  unfold sk
  rw [show ln - p = (ln - (p + 1)) + 1 by omega]
  simp only [skF]
  rw [if_pos ⟨h, hb⟩]
theorem sk_no {b : Nat → Int32} {ln p : Nat} (h : ¬ (p < ln ∧ b p = nI 32)) : sk b ln p = p := by
  unfold sk
  cases hl : ln - p with
  | zero => rfl
  | succ f => simp only [skF]; rw [if_neg h]
theorem sk_le {b : Nat → Int32} {ln : Nat} : ∀ {f p : Nat}, p ≤ ln → p ≤ skF b ln f p ∧ skF b ln f p ≤ ln := by
  intro f
  induction f with
  | zero => intro p h; exact ⟨Nat.le_refl _, h⟩
  | succ f ih =>
    intro p h
    simp only [skF]
    split
    · next h2 => have := ih (p := p + 1) (by omega); omega
    · omega
theorem rn_yes {P : Int32 → Bool} {b : Nat → Int32} {ln p : Nat} (h : p < ln) (hb : P (b p) = true) : rn P b ln p = rn P b ln (p + 1) + 1 := by
  unfold rn
  rw [show ln - p = (ln - (p + 1)) + 1 by omega]
  simp only [rnF]
  rw [if_pos ⟨h, hb⟩]
theorem rn_no {P : Int32 → Bool} {b : Nat → Int32} {ln p : Nat} (h : ¬ (p < ln ∧ P (b p) = true)) : rn P b ln p = 0 := by
  unfold rn
  cases hl : ln - p with
  | zero => rfl
  | succ f => simp only [rnF]; rw [if_neg h]
theorem rnF_le {P : Int32 → Bool} {b : Nat → Int32} {ln : Nat} : ∀ {f p : Nat}, rnF P b ln f p ≤ f := by
  intro f
  induction f with
  | zero => intro p; exact Nat.le_refl _
  | succ f ih => intro p; simp only [rnF]; split; have := ih (p := p + 1); omega; omega
theorem rn_le {P : Int32 → Bool} {b : Nat → Int32} {ln p : Nat} : rn P b ln p ≤ ln - p := rnF_le
theorem rn_at {P : Int32 → Bool} {b : Nat → Int32} {ln : Nat} : ∀ {k p : Nat}, k < rn P b ln p → P (b (p + k)) = true ∧ p + k < ln := by
  intro k
  induction k with
  | zero =>
    intro p h
    by_cases h2 : p < ln ∧ P (b p) = true
    · exact ⟨h2.2, h2.1⟩
    · rw [rn_no h2] at h; omega
  | succ k ih =>
    intro p h
    by_cases h2 : p < ln ∧ P (b p) = true
    · rw [rn_yes h2.1 h2.2] at h
      have := ih (p := p + 1) (by omega)
      rw [show p + 1 + k = p + (k + 1) by omega] at this
      exact this
    · rw [rn_no h2] at h; omega
theorem le_in {b : Nat → Int32} {ln q : Nat} (h : q ≤ ln) : q + le b ln q ≤ ln := by
  unfold le
  repeat' split
  · omega
  · have := rn_le (P := isSm) (b := b) (ln := ln) (p := q); omega
  · have := rn_le (P := isFg) (b := b) (ln := ln) (p := q); omega
  · omega
theorem k0_1 {b : Nat → Int32} {q : Nat} (h : k0 b q = 1) : isSm (b q) = true := by
  unfold k0 at h
  split at h
  · assumption
  · split at h
    · omega
    · split at h <;> omega
theorem k0_2 {b : Nat → Int32} {q : Nat} (h : k0 b q = 2) : isFg (b q) = true := by
  unfold k0 at h
  split at h
  · omega
  · split at h
    · assumption
    · split at h <;> omega
theorem k0_le {b : Nat → Int32} {q : Nat} : 1 ≤ k0 b q ∧ k0 b q ≤ 4 := by
  unfold k0
  repeat' split
  all_goals omega
theorem le_pos {b : Nat → Int32} {ln q : Nat} (h : q < ln) : 1 ≤ le b ln q := by
  unfold le
  rw [if_neg (by omega)]
  split
  · next h1 => rw [rn_yes h (k0_1 h1)]; omega
  · split
    · next h2 => rw [rn_yes h (k0_2 h2)]; omega
    · exact Nat.le_refl _
theorem kd_0 {b : Nat → Int32} {ln q : Nat} : kd b ln q = 0 ↔ ln ≤ q := by
  unfold kd
  have := k0_le (b := b) (q := q)
  constructor
  · intro h
    split at h
    · assumption
    · split at h <;> omega
  · intro h
    rw [if_pos h]
theorem kd_le {b : Nat → Int32} {ln q : Nat} : kd b ln q ≤ 4 := by
  unfold kd
  have := k0_le (b := b) (q := q)
  repeat' split
  all_goals omega
theorem nx_in {b : Nat → Int32} {ln q : Nat} (h : q ≤ ln) : nx b ln q ≤ ln := (sk_le (le_in h)).2
theorem nx_gt {b : Nat → Int32} {ln q : Nat} (h : q < ln) : q < nx b ln q := by
  have h1 := le_pos (b := b) h
  have h2 : q + le b ln q ≤ skF b ln (ln - (q + le b ln q)) (q + le b ln q) := (sk_le (le_in (Nat.le_of_lt h))).1
  unfold nx sk
  omega
theorem sk_in {b : Nat → Int32} {ln p : Nat} (h : p ≤ ln) : sk b ln p ≤ ln := (sk_le h).2
/-- the bytes of a text -/
def byOK (b : Nat → Int32) (ln : Nat) : Prop := ∀ k, k < ln → ∃ v, v ≤ 127 ∧ b k = nI v
theorem byOK.c {b : Nat → Int32} {ln k : Nat} (h : byOK b ln) (hk : k < ln) : b k = nI (rc (b k)) ∧ rc (b k) ≤ 127 := by
  obtain ⟨v, hv, e⟩ := h k hk
  rw [e, rcl (show v < 2 ^ 31 by omega)]
  exact ⟨rfl, hv⟩
theorem isFg_rc {x : Int32} (h : isFg x = true) : 48 ≤ rc x ∧ rc x ≤ 57 := by
  unfold isFg pIn inZ at h
  have := of_decide_eq_true h
  unfold rc
  omega
theorem vlF_le {b : Nat → Int32} {ln q : Nat} : ∀ k, k ≤ 2 → k ≤ rn isFg b ln q → vlF b q k ≤ 99 := by
  intro k hk hr
  have h0 : ∀ j, j < rn isFg b ln q → 48 ≤ rc (b (q + j)) ∧ rc (b (q + j)) ≤ 57 := fun j hj => isFg_rc (rn_at hj).1
  match k, hk with
  | 0, _ => exact Nat.zero_le _
  | 1, _ =>
    have := h0 0 (by omega)
    simp only [vlF]
    omega
  | 2, _ =>
    have := h0 0 (by omega)
    have := h0 1 (by omega)
    simp only [vlF]
    omega
theorem vl_99 {b : Nat → Int32} {ln q : Nat} : vl b ln q ≤ 99 := by
  unfold vl
  split
  · omega
  · split
    · next h1 h2 =>
      have hle : le b ln q = rn isFg b ln q := by unfold le; rw [if_neg h1, if_neg (by omega), if_pos h2]
      have h3 := vlF_le (b := b) (ln := ln) (q := q) (if le b ln q ≤ 2 then le b ln q else 2) (by split <;> omega) (by rw [hle]; split <;> omega)
      exact h3
    · omega
/-- the model's words for the token at q -/
def tkS (F : Nat → Int32) (b : Nat → Int32) (ln q : Nat) : Prop := F 17 = nI q ∧ F 18 = nI (le b ln q) ∧ F 19 = nI (kd b ln q) ∧ F 20 = nI (vl b ln q) ∧ F 16 = nI ln
/-- a word of n signs, these -/
def wdQ (b : Nat → Int32) (ln q n : Nat) (w : Nat → Nat) : Bool := decide (kd b ln q = 1 ∧ le b ln q = n ∧ ∀ k, k < n → b (q + k) = nI (w k))
def w6 (a b c d e f : Nat) : Nat → Nat := fun k => if k = 0 then a else if k = 1 then b else if k = 2 then c else if k = 3 then d else if k = 4 then e else f
/-- a number from lo to hi -/
def tkB (b : Nat → Int32) (ln q : Nat) (lo hi : Int) : Bool := decide (kd b ln q = 2) && inZ lo hi (vl b ln q : Int)
abbrev zX : Type := Nat ⊕ (Nat × (Nat → Int32) × Nat × Nat)
def xq (x : zX) : Nat := match x with
  | .inl e => e
  | .inr y => y.1
def xr (x : zX) : Bool := match x with
  | .inl _ => false
  | .inr _ => true
def xN (x : zX) (N : Nat → Int32) : Nat → Int32 := match x with
  | .inl _ => N
  | .inr y => y.2.1
def xT (x : zX) : Nat := match x with
  | .inl _ => 0
  | .inr y => y.2.2.1
def xC (x : zX) : Nat := match x with
  | .inl _ => 0
  | .inr y => y.2.2.2
def pTw (b : Nat → Int32) (ln : Nat) (N : Nat → Int32) (T C q : Nat) : zX := if T = 6 then .inl q else if tkB b ln (nx b ln q) 0 3 = true then .inr (nx b ln (nx b ln q), nTown N T (nI (vl b ln (nx b ln q))), T + 1, C) else .inl (nx b ln q)
def pRd (b : Nat → Int32) (ln : Nat) (N : Nat → Int32) (T C q : Nat) : zX :=
  let q1 := nx b ln q
  let q2 := nx b ln q1
  let q3 := nx b ln q2
  if tkB b ln q1 0 ((T : Int) - 1) = true then
    if kd b ln q2 = 2 ∧ vl b ln q2 = vl b ln q1 then .inl q2 else
    if tkB b ln q2 0 ((T : Int) - 1) = true then
      if tkB b ln q3 1 9 = true then .inr (nx b ln q3, nRoad N (vl b ln q1) (vl b ln q2) (nI (vl b ln q3)), T, C) else .inl q3
    else .inl q2
  else .inl q1
def pCl (b : Nat → Int32) (ln : Nat) (N : Nat → Int32) (T C q : Nat) : zX :=
  let q1 := nx b ln q
  let q2 := nx b ln q1
  let q3 := nx b ln q2
  let q4 := nx b ln q3
  let q5 := nx b ln q4
  if C = 8 then .inl q else
  if tkB b ln q1 0 5 = true then
    if tkB b ln q2 0 5 = true then
      if tkB b ln q3 0 60 = true then
        if tkB b ln q4 (vl b ln q3) 60 = true then
          if tkB b ln q5 0 5 = true then .inr (nx b ln q5, nCl N C (nI (vl b ln q1)) (nI (vl b ln q2)) (nI (vl b ln q3)) (nI (vl b ln q4)) (nI (vl b ln q5)), T, C + 1)
          else .inl q5
        else .inl q4
      else .inl q3
    else .inl q2
  else .inl q1
def wLand : Nat → Nat := w6 108 97 110 100 0 0
def wTown : Nat → Nat := w6 116 111 119 110 0 0
def wRoad : Nat → Nat := w6 114 111 97 100 0 0
def wClause : Nat → Nat := w6 99 108 97 117 115 101
def pIt (b : Nat → Int32) (ln : Nat) (N : Nat → Int32) (T C q : Nat) : zX := if wdQ b ln q 4 wTown = true then pTw b ln N T C q else if wdQ b ln q 4 wRoad = true then pRd b ln N T C q else if wdQ b ln q 6 wClause = true then pCl b ln N T C q else .inl q
/-- from item to item: the fault's place, or how many items and what they tell -/
def pLp (b : Nat → Int32) (ln : Nat) : Nat → (Nat → Int32) → Nat → Nat → Nat → Nat → zX
  | 0, _, _, _, q, _ => .inl q
  | f + 1, N, T, C, q, it => if kd b ln q = 0 then .inr (it, N, T, C) else
    if xr (pIt b ln N T C q) = true then
      if kd b ln (xq (pIt b ln N T C q)) = 3 then pLp b ln f (xN (pIt b ln N T C q) N) (xT (pIt b ln N T C q)) (xC (pIt b ln N T C q)) (nx b ln (xq (pIt b ln N T C q))) (it + 1)
      else .inl (xq (pIt b ln N T C q))
    else .inl (xq (pIt b ln N T C q))
/-- a whole text, N being empty rows -/
def pRead (b : Nat → Int32) (ln : Nat) (N : Nat → Int32) : zX :=
  if wdQ b ln (sk b ln 0) 4 wLand = true then
    if kd b ln (nx b ln (sk b ln 0)) = 3 then pLp b ln 151 N 0 0 (nx b ln (nx b ln (sk b ln 0))) 1
    else .inl (nx b ln (sk b ln 0))
  else .inl (sk b ln 0)
