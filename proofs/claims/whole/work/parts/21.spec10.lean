section TKN
variable {b : Nat → Int32} {ln t k j : Nat}
theorem le_s (h : t < ln) (hk : k0 b t = 1) : le b ln t = rn isSm b ln t := by unfold le; rw [if_neg (by omega), if_pos hk]
theorem le_f (h : t < ln) (hk : k0 b t = 2) : le b ln t = rn isFg b ln t := by unfold le; rw [if_neg (by omega), if_neg (by omega), if_pos hk]
theorem le_0 (h : t < ln) (hk : k = k0 b t) (h3 : 3 ≤ k) : le b ln t = 1 := by unfold le; rw [if_neg (by omega), if_neg (by omega), if_neg (by omega)]
theorem le_1 (h : t < ln) (hk : k = k0 b t) (h3 : k < 3) : (k = 1 ∧ le b ln t = 1 + rn isSm b ln (t + 1)) ∨ (k = 2 ∧ le b ln t = 1 + rn isFg b ln (t + 1)) := by
  have h4 := k0_le (b := b) (q := t)
  rcases (show k = 1 ∨ k = 2 by omega) with q | q
  · left
    refine ⟨q, ?_⟩
    rw [le_s h (by omega), rn_yes h (k0_1 (by omega))]
    omega
  · right
    refine ⟨q, ?_⟩
    rw [le_f h (by omega), rn_yes h (k0_2 (by omega))]
    omega
theorem le_2s (hm : (k = 1 ∧ le b ln t = j + rn isSm b ln (t + j)) ∨ (k = 2 ∧ le b ln t = j + rn isFg b ln (t + j))) (hk : k = 1) (hl : t + j < ln) (hp : isSm (b (t + j)) = true) : (k = 1 ∧ le b ln t = j + 1 + rn isSm b ln (t + (j + 1))) ∨ (k = 2 ∧ le b ln t = j + 1 + rn isFg b ln (t + (j + 1))) := by
  rcases hm with ⟨q, e⟩ | ⟨q, e⟩
  · left
    rw [rn_yes hl hp] at e
    exact ⟨q, by rw [show t + (j + 1) = t + j + 1 by omega]; omega⟩
  · omega
theorem le_2f (hm : (k = 1 ∧ le b ln t = j + rn isSm b ln (t + j)) ∨ (k = 2 ∧ le b ln t = j + rn isFg b ln (t + j))) (hk : k ≠ 1) (hl : t + j < ln) (hp : isFg (b (t + j)) = true) : (k = 1 ∧ le b ln t = j + 1 + rn isSm b ln (t + (j + 1))) ∨ (k = 2 ∧ le b ln t = j + 1 + rn isFg b ln (t + (j + 1))) := by
  rcases hm with ⟨q, e⟩ | ⟨q, e⟩
  · omega
  · right
    rw [rn_yes hl hp] at e
    exact ⟨q, by rw [show t + (j + 1) = t + j + 1 by omega]; omega⟩
theorem le_3s (hm : (k = 1 ∧ le b ln t = j + rn isSm b ln (t + j)) ∨ (k = 2 ∧ le b ln t = j + rn isFg b ln (t + j))) (hk : k = 1) (hp : isSm (b (t + j)) = false) : le b ln t = j := by
  rcases hm with ⟨q, e⟩ | ⟨q, e⟩
  · rw [rn_no (fun z => by rw [hp] at z; exact absurd z.2 (by decide))] at e; exact e
  · omega
theorem le_3f (hm : (k = 1 ∧ le b ln t = j + rn isSm b ln (t + j)) ∨ (k = 2 ∧ le b ln t = j + rn isFg b ln (t + j))) (hk : k ≠ 1) (hp : isFg (b (t + j)) = false) : le b ln t = j := by
  rcases hm with ⟨q, e⟩ | ⟨q, e⟩
  · omega
  · rw [rn_no (fun z => by rw [hp] at z; exact absurd z.2 (by decide))] at e; exact e
theorem le_4 (hm : (k = 1 ∧ le b ln t = j + rn isSm b ln (t + j)) ∨ (k = 2 ∧ le b ln t = j + rn isFg b ln (t + j))) (hl : ln ≤ t + j) : le b ln t = j := by
  rcases hm with ⟨q, e⟩ | ⟨q, e⟩
  · rw [rn_no (fun z => by omega)] at e; exact e
  · rw [rn_no (fun z => by omega)] at e; exact e
theorem vl_1 {v i : Nat} (h : t < ln) (hk : k = k0 b t) (hle : le b ln t = j) (hv : v = if k = 2 then vlF b t i else 0) (hi : i ≤ 2) (hij : i ≤ j) (ho : j ≤ i ∨ 2 ≤ i ∨ k ≠ 2) : v = vl b ln t := by
  unfold vl
  rw [if_neg (by omega), ← hk, hv]
  by_cases h2 : k = 2
  · rw [if_pos h2, if_pos h2, hle]
    congr 1
    split <;> omega
  · rw [if_neg h2, if_neg h2]
theorem kd_k (h : t < ln) (hk : k = k0 b t) (hle : le b ln t = j) (ho : k ≠ 2 ∨ j ≤ 2) : kd b ln t = k := by
  unfold kd
  rw [if_neg (by omega), hle, ← hk, if_neg (by omega)]
theorem kd_4 (h : t < ln) (hk : k = k0 b t) (hle : le b ln t = j) (h2 : k = 2) (h3 : 2 < j) : kd b ln t = 4 := by
  unfold kd
  rw [if_neg (by omega), hle, ← hk, if_pos ⟨h2, h3⟩]
theorem ic_no {q n9 v : Nat} {is : Bool} {w : Nat → Nat} (his : is = true ↔ (kd b ln q = 1 ∧ le b ln q = n9 ∧ ∀ i, i < k → b (q + i) = nI (w i))) (h1 : is = true) (hw : w k = v) (hx : ¬ b (q + k) = nI v) : false = true ↔ (kd b ln q = 1 ∧ le b ln q = n9 ∧ ∀ i, i < k + 1 → b (q + i) = nI (w i)) :=
  ⟨fun z => (by cases z), fun z => absurd (z.2.2 k (Nat.lt_succ_self k)) (by rw [hw]; exact hx)⟩
theorem ic_yes {q n9 v : Nat} {is : Bool} {w : Nat → Nat} (his : is = true ↔ (kd b ln q = 1 ∧ le b ln q = n9 ∧ ∀ i, i < k → b (q + i) = nI (w i))) (h1 : is = true) (hw : w k = v) (hx : b (q + k) = nI v) : true = true ↔ (kd b ln q = 1 ∧ le b ln q = n9 ∧ ∀ i, i < k + 1 → b (q + i) = nI (w i)) := by
  obtain ⟨g1, g2, g3⟩ := his.mp h1
  refine ⟨fun _ => ⟨g1, g2, fun i hi => ?_⟩, fun _ => rfl⟩
  rcases Nat.lt_or_ge i k with z | z
  · exact g3 i z
  · rw [show i = k by omega, hw]; exact hx
theorem wd_is {q n9 : Nat} {is : Bool} {w : Nat → Nat} (his : is = true ↔ (kd b ln q = 1 ∧ le b ln q = n9 ∧ ∀ i, i < k → b (q + i) = nI (w i))) (hk : k ≤ n9) (ho : n9 ≤ k ∨ is = false) : is = wdQ b ln q n9 w := by
  unfold wdQ
  cases hi : is
  · rw [decide_eq_false]
    intro z
    have : is = true := his.mpr ⟨z.1, z.2.1, fun i h => z.2.2 i (Nat.lt_of_lt_of_le h hk)⟩
    rw [hi] at this; cases this
  · rcases ho with h | h
    · obtain ⟨g1, g2, g3⟩ := his.mp hi
      rw [decide_eq_true ⟨g1, g2, fun i h2 => g3 i (by omega)⟩]
    · rw [hi] at h; cases h
end TKN
