/-! Ways: a round fewer than towns is enough; 1000 does what 1000000 does. -/
theorem cn_mono {P Q : Nat → Bool} : ∀ k, (∀ x, x < k → P x = true → Q x = true) → cn P k ≤ cn Q k := by
  intro k
  induction k with
  | zero => intro _; exact Nat.le_refl _
  | succ k ih =>
    intro h
    have h1 := ih fun x hx => h x (by omega)
    simp only [cn]
    by_cases hp : P k = true
    · rw [if_pos hp, if_pos (h k (by omega) hp)]; omega
    · rw [if_neg hp]; split <;> omega
theorem cn_inc {P Q : Nat → Bool} {v : Nat} : ∀ k, (∀ x, x < k → P x = true → Q x = true) → v < k → P v = false → Q v = true → cn P k + 1 ≤ cn Q k := by
  intro k
  induction k with
  | zero => intro _ h; omega
  | succ k ih =>
    intro h hv h1 h2
    simp only [cn]
    by_cases e : v = k
    · subst e
      rw [h1, h2]
      have := cn_mono (P := P) (Q := Q) v fun x hx => h x (by omega)
      simp
      omega
    · have h3 := ih (fun x hx => h x (by omega)) (by omega) h1 h2
      by_cases hp : P k = true
      · rw [if_pos hp, if_pos (h k (by omega) hp)]; omega
      · rw [if_neg hp]; split <;> omega
theorem cn_all {P : Nat → Bool} : ∀ k, k ≤ cn P k → ∀ x, x < k → P x = true := by
  intro k
  induction k with
  | zero => intro _ x hx; omega
  | succ k ih =>
    intro h x hx
    simp only [cn] at h
    have h1 := cn_le P k
    by_cases hp : P k = true
    · rw [if_pos hp] at h
      by_cases e : x = k
      · rw [e]; exact hp
      · exact ih (by omega) x (by omega)
    · rw [if_neg hp] at h; omega
theorem cn_pos {P : Nat → Bool} {v : Nat} : ∀ k, v < k → P v = true → 1 ≤ cn P k := by
  intro k
  induction k with
  | zero => intro h; omega
  | succ k ih =>
    intro h h1
    simp only [cn]
    by_cases e : v = k
    · subst e; rw [if_pos h1]; omega
    · have := ih (by omega) h1; omega
section WAYS
variable {w : Nat → Nat} {T : Nat}
theorem rB_anti {d : Nat → Nat} {a x k k' : Nat} (h : k ≤ k') : rB w d a k' x ≤ rB w d a k x := by
  induction h with
  | refl => exact Nat.le_refl _
  | step _ ih => exact Nat.le_trans rl_le ih
theorem rA_anti {d : Nat → Nat} {x k k' : Nat} (h : k ≤ k') : rA w T d k' x ≤ rA w T d k x := by
  induction h with
  | refl => exact Nat.le_refl _
  | step _ ih => exact Nat.le_trans rB_le ih
theorem rN_anti {d : Nat → Nat} {x k k' : Nat} (h : k ≤ k') : rN w T d k' x ≤ rN w T d k x := by
  induction h with
  | refl => exact Nat.le_refl _
  | step _ ih => exact Nat.le_trans rA_le ih
theorem rl_at {d : Nat → Nat} {a b : Nat} (h : 0 < w (6 * a + b)) : rl w d a b b ≤ d a + w (6 * a + b) := by
  unfold rl
  split
  · exact Nat.le_refl _
  · next h2 =>
    have h3 : ¬ d a + w (6 * a + b) < d b := fun z => h2 ⟨rfl, h, z⟩
    omega
theorem rB_at {d : Nat → Nat} {a b k : Nat} (h : b < k) (h0 : 0 < w (6 * a + b)) : rB w d a k b ≤ rB w d a b a + w (6 * a + b) := Nat.le_trans (rB_anti (k := b + 1) h) (rl_at h0)
theorem rA_at {d : Nat → Nat} {u v : Nat} (hu : u < T) (hv : v < T) (h0 : 0 < w (6 * u + v)) : rA w T d T v ≤ d u + w (6 * u + v) := by
  refine Nat.le_trans (rA_anti (k := u + 1) hu) ?_
  refine Nat.le_trans (rB_at hv h0) ?_
  have h1 : rB w (rA w T d u) u v u ≤ rA w T d u u := rB_le
  have h2 : rA w T d u u ≤ d u := rA_le
  omega
theorem rl_hi {d : Nat → Nat} {a b x : Nat} (h : x ≠ b) : rl w d a b x = d x := by unfold rl; rw [if_neg fun z => h z.1]
theorem rB_hi {d : Nat → Nat} {a x : Nat} : ∀ k, k ≤ x → rB w d a k x = d x := by
  intro k
  induction k with
  | zero => intro _; rfl
  | succ k ih => intro h; simp only [rB]; rw [rl_hi (by omega)]; exact ih (by omega)
theorem rA_hi {d : Nat → Nat} {x : Nat} (h : T ≤ x) : ∀ k, rA w T d k x = d x := by
  intro k
  induction k with
  | zero => rfl
  | succ k ih => simp only [rA]; rw [rB_hi T h]; exact ih
theorem rN_hi {d : Nat → Nat} {x : Nat} (h : T ≤ x) : ∀ k, rN w T d k x = d x := by
  intro k
  induction k with
  | zero => rfl
  | succ k ih => simp only [rN]; rw [rA_hi h]; exact ih
/-- every place has one ahead of it, or is as at the start -/
def prd (w : Nat → Nat) (T : Nat) (z d : Nat → Nat) : Prop := ∀ v, d v = z v ∨ ∃ u, u < T ∧ 0 < w (6 * u + v) ∧ d u + w (6 * u + v) ≤ d v
theorem rl_prd {z d : Nat → Nat} {a b : Nat} (ha : a < T) (h : prd w T z d) : prd w T z (rl w d a b) := by
  intro v
  by_cases hc : v = b ∧ 0 < w (6 * a + b) ∧ d a + w (6 * a + b) < d b
  · right
    refine ⟨a, ha, by rw [hc.1]; exact hc.2.1, ?_⟩
    have h1 : rl w d a b v = d a + w (6 * a + b) := by unfold rl; rw [if_pos hc]
    have h2 : rl w d a b a ≤ d a := rl_le
    rw [h1, hc.1]
    omega
  · have h1 : rl w d a b v = d v := by unfold rl; rw [if_neg hc]
    rw [h1]
    rcases h v with h2 | ⟨u, h2, h3, h4⟩
    · exact Or.inl h2
    · right
      have h5 : rl w d a b u ≤ d u := rl_le
      exact ⟨u, h2, h3, by omega⟩
theorem rB_prd {z d : Nat → Nat} {a : Nat} (ha : a < T) (h : prd w T z d) : ∀ k, prd w T z (rB w d a k) := by
  intro k
  induction k with
  | zero => exact h
  | succ k ih => exact rl_prd ha ih
theorem rA_prd {z d : Nat → Nat} (h : prd w T z d) : ∀ k, k ≤ T → prd w T z (rA w T d k) := by
  intro k
  induction k with
  | zero => intro _; exact h
  | succ k ih => intro hk; exact rB_prd (by omega) (ih (by omega)) T
theorem rN_prd {z d : Nat → Nat} (h : prd w T z d) : ∀ k, prd w T z (rN w T d k) := by
  intro k
  induction k with
  | zero => exact h
  | succ k ih => exact rA_prd ih T (Nat.le_refl T)
def smX (d : Nat → Nat) : Nat → Nat
  | 0 => 0
  | k + 1 => smX d k + d k
theorem smX_le {d e : Nat → Nat} (h : ∀ x, d x ≤ e x) : ∀ k, smX d k ≤ smX e k := by
  intro k
  induction k with
  | zero => exact Nat.le_refl _
  | succ k ih => have := h k; simp only [smX]; omega
theorem smX_lt {d e : Nat → Nat} {x : Nat} (h : ∀ x, d x ≤ e x) (h2 : d x < e x) : ∀ k, x < k → smX d k < smX e k := by
  intro k
  induction k with
  | zero => intro h; omega
  | succ k ih =>
    intro hk
    simp only [smX]
    by_cases e9 : x = k
    · subst e9; have := smX_le h x; omega
    · have h3 := ih (by omega); have h4 := h k; omega
theorem rN_fix {d : Nat → Nat} : ∀ M k, smX (rN w T d k) T ≤ M → ∃ K, rN w T d (K + 1) = rN w T d K := by
  intro M
  induction M with
  | zero =>
    intro k h
    refine ⟨k, funext fun x => ?_⟩
    rcases Nat.lt_or_ge x T with hx | hx
    · rcases Nat.lt_or_ge (rN w T d (k + 1) x) (rN w T d k x) with h2 | h2
      · have := smX_lt (d := rN w T d (k + 1)) (e := rN w T d k) (fun x => rN_anti (w := w) (T := T) (d := d) (x := x) (Nat.le_succ k)) h2 T hx
        omega
      · exact Nat.le_antisymm (rN_anti (Nat.le_succ k)) h2
    · rw [rN_hi hx, rN_hi hx]
  | succ M ih =>
    intro k h
    by_cases hs : rN w T d (k + 1) = rN w T d k
    · exact ⟨k, hs⟩
    · refine ih (k + 1) ?_
      have h3 : ∃ x, x < T ∧ rN w T d (k + 1) x < rN w T d k x := by
        apply Classical.byContradiction
        intro z
        refine hs (funext fun x => ?_)
        rcases Nat.lt_or_ge x T with hx | hx
        · rcases Nat.lt_or_ge (rN w T d (k + 1) x) (rN w T d k x) with h2 | h2
          · exact absurd ⟨x, hx, h2⟩ z
          · exact Nat.le_antisymm (rN_anti (Nat.le_succ k)) h2
        · rw [rN_hi hx, rN_hi hx]
      obtain ⟨x, hx, h2⟩ := h3
      have := smX_lt (d := rN w T d (k + 1)) (e := rN w T d k) (fun x => rN_anti (w := w) (T := T) (d := d) (x := x) (Nat.le_succ k)) h2 T hx
      omega
theorem rN_stay {d : Nat → Nat} {K : Nat} (h : rN w T d (K + 1) = rN w T d K) : ∀ j, rN w T d (K + j) = rN w T d K := by
  intro j
  induction j with
  | zero => rfl
  | succ j ih =>
    show rA w T (rN w T d (K + j)) T = rN w T d K
    rw [ih]
    exact h
/-- one place more is final after a round -/
theorem fin_step {fr big k : Nat} {D : Nat → Nat} (hfr : fr < T) (hD : ∀ k x, D x ≤ rN w T (d0 fr big) k x) (hp : prd w T (d0 fr big) D) : ∀ m v, D v ≤ m → v < T → rN w T (d0 fr big) k v ≠ D v → ∃ u, u < T ∧ rN w T (d0 fr big) k u ≠ D u ∧ rN w T (d0 fr big) (k + 1) u = D u := by
  have h0 : ∀ x, rN w T (d0 fr big) k x ≤ d0 fr big x := fun x => rN_le
  intro m
  induction m with
  | zero =>
    intro v hm hv hne
    rcases hp v with h | ⟨u, h1, h2, h3⟩
    · have := hD k v; have := h0 v; omega
    · omega
  | succ m ih =>
    intro v hm hv hne
    rcases hp v with h | ⟨u, h1, h2, h3⟩
    · have := hD k v; have := h0 v; omega
    · by_cases hu : rN w T (d0 fr big) k u = D u
      · refine ⟨v, hv, hne, ?_⟩
        have h4 : rN w T (d0 fr big) (k + 1) v ≤ rN w T (d0 fr big) k u + w (6 * u + v) := rA_at h1 hv h2
        have h5 := hD (k + 1) v
        omega
      · exact ih u (by omega) h1 hu
theorem rN_st {fr big : Nat} (hfr : fr < T) (x : Nat) : rN w T (d0 fr big) (T - 1) x = rN w T (d0 fr big) T x := by
  obtain ⟨K, hK⟩ := rN_fix (w := w) (T := T) (d := d0 fr big) (smX (rN w T (d0 fr big) 0) T) 0 (Nat.le_refl _)
  have hD : ∀ k x, rN w T (d0 fr big) K x ≤ rN w T (d0 fr big) k x := fun k x => by
    rw [← rN_stay hK k]; exact rN_anti (by omega)
  have hp : prd w T (d0 fr big) (rN w T (d0 fr big) K) := rN_prd (fun v => Or.inl rfl) K
  have hcn : ∀ k, k + 1 ≤ T → k + 1 ≤ cn (fun v => decide (rN w T (d0 fr big) k v = rN w T (d0 fr big) K v)) T := by
    intro k
    induction k with
    | zero =>
      intro _
      refine cn_pos (v := fr) T hfr (decide_eq_true ?_)
      have h1 : d0 fr big fr = 0 := by unfold d0; rw [if_pos rfl]
      have h2 := hD 0 fr
      show d0 fr big fr = _
      have h3 : rN w T (d0 fr big) 0 fr = d0 fr big fr := rfl
      omega
    | succ k ih =>
      intro hk
      have h1 := ih (by omega)
      have hup : ∀ x, x < T → decide (rN w T (d0 fr big) k x = rN w T (d0 fr big) K x) = true → decide (rN w T (d0 fr big) (k + 1) x = rN w T (d0 fr big) K x) = true := by
        intro x _ h2
        have h3 := of_decide_eq_true h2
        have h4 := hD (k + 1) x
        have h5 : rN w T (d0 fr big) (k + 1) x ≤ rN w T (d0 fr big) k x := rN_anti (Nat.le_succ k)
        exact decide_eq_true (by omega)
      by_cases hall : ∀ x, x < T → rN w T (d0 fr big) k x = rN w T (d0 fr big) K x
      · have h2 := cn_mono (P := fun _ => true) (Q := fun v => decide (rN w T (d0 fr big) (k + 1) v = rN w T (d0 fr big) K v)) T fun x hx _ => hup x hx (decide_eq_true (hall x hx))
        have h3 : ∀ k, cn (fun _ => true) k = k := by
          intro k
          induction k with
          | zero => rfl
          | succ k ih => simp [cn, ih]
        rw [h3] at h2
        omega
      · have h2 : ∃ v, v < T ∧ rN w T (d0 fr big) k v ≠ rN w T (d0 fr big) K v := by
          apply Classical.byContradiction
          intro z
          exact hall fun x hx => Classical.byContradiction fun q => z ⟨x, hx, q⟩
        obtain ⟨v, hv, hne⟩ := h2
        obtain ⟨u, hu, h3, h4⟩ := fin_step hfr hD hp _ v (Nat.le_refl _) hv hne
        have := cn_inc (v := u) T hup hu (decide_eq_false h3) (decide_eq_true h4)
        omega
  rcases Nat.lt_or_ge x T with hx | hx
  · have h1 := of_decide_eq_true (cn_all T (by have := hcn (T - 1) (by omega); rw [show T - 1 + 1 = T by omega] at this; exact this) x hx)
    have h2 := hD T x
    have h3 : rN w T (d0 fr big) T x ≤ rN w T (d0 fr big) (T - 1) x := rN_anti (by omega)
    omega
  · rw [rN_hi hx, rN_hi hx]
/-- reached -/
def rch (g : Nat → Nat) (y : Nat) : Bool := decide (g y < 1000)
def sim (g f : Nat → Nat) : Prop := (∀ x, (g x = f x ∧ g x < 1000) ∨ (g x = 1000 ∧ f x = 1000000)) ∧ (∀ x, g x < 1000 → g x ≤ 9 * (cn (rch g) 6 - 1))
theorem sim_45 {g f : Nat → Nat} (h : sim g f) (x : Nat) : (g x = f x ∧ g x ≤ 45) ∨ (g x = 1000 ∧ f x = 1000000) := by
  have h1 := cn_le (rch g) 6
  rcases h.1 x with h2 | h2
  · have := h.2 x h2.2; omega
  · exact Or.inr h2
theorem sim_rl {g f : Nat → Nat} {a b : Nat} (hw : w (6 * a + b) ≤ 9) (ha : a < 6) (hb : b < 6) (h : sim g f) : sim (rl w g a b) (rl w f a b) := by
  have e : (0 < w (6 * a + b) ∧ g a + w (6 * a + b) < g b) ↔ (0 < w (6 * a + b) ∧ f a + w (6 * a + b) < f b) := by
    have h1 := sim_45 h a
    have h2 := sim_45 h b
    omega
  by_cases hc : 0 < w (6 * a + b) ∧ g a + w (6 * a + b) < g b
  · have hc' := e.mp hc
    have g1 : ∀ x, rl w g a b x = if x = b then g a + w (6 * a + b) else g x := fun x => by
      unfold rl
      by_cases hx : x = b
      · rw [if_pos ⟨hx, hc⟩, if_pos hx]
      · rw [if_neg fun z => hx z.1, if_neg hx]
    have f1 : ∀ x, rl w f a b x = if x = b then f a + w (6 * a + b) else f x := fun x => by
      unfold rl
      by_cases hx : x = b
      · rw [if_pos ⟨hx, hc'⟩, if_pos hx]
      · rw [if_neg fun z => hx z.1, if_neg hx]
    have ha1 := sim_45 h a
    have hb1 := sim_45 h b
    have hga : g a < 1000 := by omega
    have hN := h.2 a hga
    have hpos := cn_pos (P := rch g) (v := a) 6 ha (decide_eq_true hga)
    have hup : ∀ x, x < 6 → rch g x = true → rch (rl w g a b) x = true := by
      intro x _ hx
      have h9 : rl w g a b x ≤ g x := rl_le
      have := of_decide_eq_true hx
      exact decide_eq_true (by omega)
    refine ⟨fun x => ?_, fun x hx => ?_⟩
    · rw [g1, f1]
      by_cases hx : x = b
      · rw [if_pos hx, if_pos hx]; left; omega
      · rw [if_neg hx, if_neg hx]; exact h.1 x
    · by_cases hgb : g b < 1000
      · have hm := cn_mono 6 hup
        rw [g1]
        split
        · have := h.2 b hgb; omega
        · next hx2 =>
          rw [g1, if_neg hx2] at hx
          have := h.2 x hx; omega
      · have hm := cn_inc (v := b) 6 hup hb (decide_eq_false hgb) (decide_eq_true (by rw [g1, if_pos rfl]; omega))
        rw [g1]
        split
        · omega
        · next hx2 =>
          rw [g1, if_neg hx2] at hx
          have := h.2 x hx; omega
  · have hc' := fun z => hc (e.mpr z)
    have g1 : rl w g a b = g := funext fun x => by unfold rl; rw [if_neg fun z => hc z.2]
    have f1 : rl w f a b = f := funext fun x => by unfold rl; rw [if_neg fun z => hc' z.2]
    rw [g1, f1]
    exact h
theorem sim_rB {g f : Nat → Nat} {a : Nat} (hw : ∀ i, i < 36 → w i ≤ 9) (ha : a < 6) (h : sim g f) : ∀ k, k ≤ 6 → sim (rB w g a k) (rB w f a k) := by
  intro k
  induction k with
  | zero => intro _; exact h
  | succ k ih => intro hk; exact sim_rl (hw _ (by omega)) ha (by omega) (ih (by omega))
theorem sim_rA {g f : Nat → Nat} (hw : ∀ i, i < 36 → w i ≤ 9) (hT : T ≤ 6) (h : sim g f) : ∀ k, k ≤ 6 → sim (rA w T g k) (rA w T f k) := by
  intro k
  induction k with
  | zero => intro _; exact h
  | succ k ih => intro hk; exact sim_rB hw (by omega) (ih (by omega)) T hT
theorem sim_rN {g f : Nat → Nat} (hw : ∀ i, i < 36 → w i ≤ 9) (hT : T ≤ 6) (h : sim g f) : ∀ k, sim (rN w T g k) (rN w T f k) := by
  intro k
  induction k with
  | zero => exact h
  | succ k ih => exact sim_rA hw hT ih T hT
theorem sim_0 {fr : Nat} : sim (d0 fr 1000) (d0 fr 1000000) := by
  refine ⟨fun x => ?_, fun x hx => ?_⟩
  · unfold d0; split
    · left; exact ⟨rfl, by omega⟩
    · right; exact ⟨rfl, rfl⟩
  · unfold d0 at hx ⊢
    split
    · omega
    · next h => rw [if_neg h] at hx; omega
end WAYS
/-- the class's ways: a round fewer, 1000 where there is none -/
def fC (n : Nat → Int32) (T fr : Nat) : Nat → Nat := rN (rwE n) T (d0 fr 1000) (T - 1)
theorem fC_D {n : Nat → Int32} {T C V U fr : Nat} (hn : nOK n T C V U) (hfr : fr < T) (x : Nat) : (fC n T fr x = fD n T fr x ∧ fC n T fr x ≤ 45) ∨ (fC n T fr x = 1000 ∧ fD n T fr x = 1000000) := by
  unfold fC fD
  rw [← rN_st hfr]
  exact sim_45 (sim_rN (fun i hi => rwE_9 hn hi) hn.T6 sim_0 (T - 1)) x
