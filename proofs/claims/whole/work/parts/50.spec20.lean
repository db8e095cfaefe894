/-! The reader's token at q. -/
def ctk (k : Nat) : Nat := if k = 4 then 0 else k + 1
def rdK (b : Nat → Int32) (ln q : Nat) (en nu : Int32) : Prop := (kd b ln q ≠ 4 → en = nI (q + le b ln q)) ∧ (kd b ln q = 2 → nu = nI (vl b ln q))
theorem rd_end {b : Nat → Int32} {ln t : Nat} {nu : Int32} (h : ln ≤ t) : kd b ln t = 0 ∧ rdK b ln t (nI t) nu := by
  have h0 : kd b ln t = 0 := kd_0.mpr h
  refine ⟨h0, fun _ => ?_, fun z => by omega⟩
  unfold le
  rw [if_pos h]
  rfl
theorem k0_59 {b : Nat → Int32} {t : Nat} (h : b t = nI 59) : k0 b t = 3 := by
  unfold k0
  rw [h]
  decide
theorem rd_semi {b : Nat → Int32} {ln t : Nat} {nu : Int32} (h : t < ln) (hb : b t = nI 59) : kd b ln t = 3 ∧ rdK b ln t (nI (t + 1)) nu := by
  have h0 := k0_59 hb
  have h1 : le b ln t = 1 := le_0 h rfl (by omega)
  have h2 : kd b ln t = 3 := (kd_k h rfl h1 (by omega)).trans h0
  exact ⟨h2, fun _ => by rw [h1], fun z => by omega⟩
theorem rd_word {b : Nat → Int32} {ln t j : Nat} {nu : Int32} (h : t < ln) (hb : isSm (b t) = true) (hj : rn isSm b ln t = j) : kd b ln t = 1 ∧ rdK b ln t (nI (t + j)) nu := by
  have h0 : k0 b t = 1 := by unfold k0; rw [if_pos hb]
  have h1 : le b ln t = j := (le_s h h0).trans hj
  have h2 : kd b ln t = 1 := (kd_k h rfl h1 (by omega)).trans h0
  exact ⟨h2, fun _ => by rw [h1], fun z => by omega⟩
theorem rd_num {b : Nat → Int32} {ln t j : Nat} {nu : Int32} (h : t < ln) (hs : isSm (b t) = false) (h59 : ¬ b t = nI 59) (hj : rn isFg b ln t = j) (hv : j ≤ 2 → nu = nI (vlF b t j)) : kd b ln t = (if j = 1 ∨ j = 2 then 2 else 4) ∧ rdK b ln t (nI (t + j)) nu := by
  by_cases hf : isFg (b t) = true
  · have h0 : k0 b t = 2 := by unfold k0; rw [if_neg (by rw [hs]; decide), if_pos hf]
    have h1 : le b ln t = j := (le_f h h0).trans hj
    have h9 : 1 ≤ j := by rw [← hj, rn_yes h hf]; omega
    by_cases h2 : j ≤ 2
    · have h3 : kd b ln t = 2 := (kd_k h rfl h1 (by omega)).trans h0
      rw [if_pos (by omega)]
      refine ⟨h3, fun _ => by rw [h1], fun _ => ?_⟩
      rw [hv h2]
      unfold vl
      rw [if_neg (by omega), if_pos h0, h1, if_pos h2]
    · have h3 : kd b ln t = 4 := kd_4 h rfl h1 h0 (by omega)
      rw [if_neg (by omega)]
      exact ⟨h3, fun z => absurd h3 z, fun z => by omega⟩
  · have h0 : k0 b t = 4 := by unfold k0; rw [if_neg (by rw [hs]; decide), if_neg hf, if_neg h59]
    have h9 : j = 0 := by rw [← hj]; exact rn_no fun z => hf z.2
    have h3 : kd b ln t = 4 := (kd_k h rfl (le_0 h rfl (by omega)) (by omega)).trans h0
    rw [if_neg (by omega)]
    exact ⟨h3, fun z => absurd h3 z, fun z => by omega⟩
theorem rn_go {P : Int32 → Bool} {b : Nat → Int32} {ln t j : Nat} (hr : rn P b ln t = j + rn P b ln (t + j)) (h : t + j < ln) (hb : P (b (t + j)) = true) : rn P b ln t = (j + 1) + rn P b ln (t + (j + 1)) := by
  rw [rn_yes h hb] at hr
  rw [show t + (j + 1) = t + j + 1 by omega]
  omega
theorem rn_end {P : Int32 → Bool} {b : Nat → Int32} {ln t j : Nat} (hr : rn P b ln t = j + rn P b ln (t + j)) (h : ln ≤ t + j ∨ P (b (t + j)) = false) : rn P b ln t = j := by
  have h9 : rn P b ln (t + j) = 0 := rn_no fun z => by
    rcases h with h | h
    · omega
    · rw [h] at z; exact absurd z.2 (by decide)
  omega
theorem num_go {b : Nat → Int32} {ln t j : Nat} {v : Int32} (hby : byOK b ln) (hv : j ≤ 2 → v = nI (vlF b t j)) (h : t + j < ln) (hr : rn isFg b ln t = j + rn isFg b ln (t + j)) (hf : isFg (b (t + j)) = true) : j + 1 ≤ 2 → nI 10 * v + b (t + j) - nI 48 = nI (vlF b t (j + 1)) := by
  intro h2
  have h3 := isFg_rc hf
  have h4 := (hby.c h).1
  have h5 := vlF_le (b := b) (ln := ln) (q := t) j (by omega) (by omega)
  rw [hv (by omega), h4, pk_mul, nI_add, pk_sub (by omega)]
  rfl
