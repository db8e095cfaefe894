/-! Bits of eight, steps of loops. -/
theorem bit_at {b i : Nat} (hb : b < 256) (hi : i < 8) : (nI b >>> (nI i &&& 31)) &&& nI 1 = nI (b / 2 ^ i % 2) := by
  have := Nat.div_le_self b (2 ^ i)
  rw [shr_nI (by omega) (by omega), and1_nI (by omega)]
theorem bit_t {P : Nat → Bool} {C b i : Nat} (hb : b = rdB P C) (h : ¬ ((b / 2 ^ i % 2 : Nat) : Int) = 0) : (decide (i < C) && P i) = true := by
  subst hb
  rw [rdB_at] at h
  by_cases h2 : i < C ∧ P i = true
  · rw [decide_eq_true h2.1, h2.2]; rfl
  · rw [if_neg h2] at h; exact absurd rfl h
theorem bit_f {P : Nat → Bool} {C b i : Nat} (hb : b = rdB P C) (h : ((b / 2 ^ i % 2 : Nat) : Int) = 0) : (decide (i < C) && P i) = false := by
  subst hb
  rw [rdB_at] at h
  by_cases h2 : i < C ∧ P i = true
  · rw [if_pos h2] at h; cases h
  · by_cases h3 : i < C
    · have h4 : P i = false := by
        cases h5 : P i with
        | false => rfl
        | true => exact absurd ⟨h3, h5⟩ h2
      rw [h4, Bool.and_false]
    · rw [decide_eq_false h3, Bool.false_and]
theorem bitQ_t {P : Nat → Bool} {C b i : Nat} (hb : b = rdB P C) (h : ¬ ((b / 2 ^ i % 2 : Nat) : Int) = 0) (hi : i < C) : P i = true := by
  have h9 := bit_t hb h
  rw [decide_eq_true hi, Bool.true_and] at h9
  exact h9
theorem bitQ_f {P : Nat → Bool} {C b i : Nat} (hb : b = rdB P C) (h : ((b / 2 ^ i % 2 : Nat) : Int) = 0) (hi : i < C) : P i = false := by
  have h9 := bit_f hb h
  rw [decide_eq_true hi, Bool.true_and] at h9
  exact h9
theorem frbQ_k {Q : Nat → Bool} {C : Nat} {rd : Int32} {P : Nat → Bool} {k : Nat} (h : decQ Q C rd P = some k) : frbQ Q C rd P = !Q k := by
  unfold frbQ
  rw [h]
theorem hF_up {P : Nat → Bool} {i j : Nat} (h : hF P i = some j) : ∀ k, i ≤ k → hF P k = some j := by
  intro k
  induction k with
  | zero => intro h2; have : i = 0 := by omega
            subst this; exact h
  | succ k ih =>
    intro h2
    by_cases h3 : i = k + 1
    · subst h3; exact h
    · have := ih (by omega)
      simp only [hF, this]
theorem hL_top {P : Nat → Bool} {k : Nat} : ∀ N, k ≤ N → (∀ c, k ≤ c → c < N → P c = false) → hL P N = hL P k := by
  intro N
  induction N with
  | zero => intro h _; have : k = 0 := by omega
            subst this; rfl
  | succ N ih =>
    intro h h2
    by_cases h3 : k = N + 1
    · subst h3; rfl
    · rw [hL_f (h2 N (by omega) (by omega))]
      exact ih (by omega) fun c h4 h5 => h2 c h4 (by omega)
theorem hL_step {P : Nat → Bool} {k j : Nat} (h : ∀ c, k ≤ c → c < 8 → P c = false) (hj : j + 1 = k) (h2 : P j = false) : ∀ c, j ≤ c → c < 8 → P c = false := by
  intro c h3 h4
  by_cases h5 : c = j
  · rw [h5]; exact h2
  · exact h c (by omega) h4
theorem dec_toInt {j : Nat} (h : j < 2 ^ 31) : (nI j + (-1)).toInt = (j : Int) - 1 := by
  rw [Int32.toInt_add, nI_toInt h]
  have : (-1 : Int32).toInt = -1 := rfl
  rw [this]
  rw [Int.bmod_eq_of_le] <;> omega
theorem cn_0 {P : Nat → Bool} : ∀ C, hF P C = none → cn P C = 0 := by
  intro C
  induction C with
  | zero => intro _; rfl
  | succ C ih =>
    intro h
    simp only [hF] at h
    cases h2 : hF P C with
    | some j => rw [h2] at h; cases h
    | none =>
      rw [h2] at h
      cases h3 : P C with
      | true => rw [h3] at h; cases h
      | false => rw [cn_f h3]; exact ih h2
theorem rdB_0 {P : Nat → Bool} : ∀ C, hF P C = none ↔ rdB P C = 0 := by
  intro C
  induction C with
  | zero => exact ⟨fun _ => rfl, fun _ => rfl⟩
  | succ C ih =>
    simp only [hF, rdB]
    cases h2 : hF P C with
    | some j =>
      refine ⟨fun h => (by cases h), fun h => ?_⟩
      have h9 := (Nat.or_eq_zero_iff.mp h).1
      rw [ih.mpr h9] at h2
      cases h2
    | none =>
      rw [ih.mp h2]
      cases h3 : P C with
      | true => 
        refine ⟨fun h => (by cases h), fun h => ?_⟩
        have h9 := (Nat.or_eq_zero_iff.mp h).2
        rw [if_pos rfl] at h9
        exact absurd h9 (Nat.ne_of_gt (Nat.two_pow_pos C))
      | false => exact ⟨fun _ => by simp, fun _ => rfl⟩
theorem rdB_k {P : Nat → Bool} {r b : Nat} (hb : b = rdB P r) (h : P r = false) : b = rdB P (r + 1) := by
  rw [hb]
  simp only [rdB]
  rw [if_neg (by rw [h]; decide), Nat.or_zero]
theorem hP_of {n : Nat → Int32} {c k w : Nat} {tw ac dd : Int32} (h : n (46 + 5 * c + 0) = nI k) : hP n 0 tw ac dd (nI (w / 2)) (nI (w % 2)) c = (decide (n (46 + 5 * c + 1) = ac) && (spIn k (n (46 + 5 * c + 4)) tw && ((decide ((n (46 + 5 * c + 2)).toInt ≤ dd.toInt) && decide (dd.toInt < (endV k (n (46 + 5 * c + 2)) (n (46 + 5 * c + 3))).toInt)) && spTo k w))) := by
  unfold hP
  rw [spk_of h, show decide (0 / 2 ^ c % 2 = 0) = true by simp, Bool.true_and]
theorem oI_dQ {Q : Nat → Bool} {C : Nat} {rd : Int32} {P : Nat → Bool} (h : oI (decQ Q C rd P) = (-1)) (hC : C ≤ 8) : decQ Q C rd P = none := oI_none h fun k hk => by have := decQ_lt hk; omega
