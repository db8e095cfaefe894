theorem hF_f {P : Nat → Bool} {i : Nat} (h : P i = false) : hF P (i + 1) = hF P i := by
  simp only [hF, h]
  cases hF P i <;> rfl
theorem hF_n {P : Nat → Bool} {i : Nat} (h : P i = true) (h0 : hF P i = none) : hF P (i + 1) = some i := by simp [hF, h, h0]
theorem hF_s {P : Nat → Bool} {i j : Nat} (h0 : hF P i = some j) : hF P (i + 1) = hF P i := by simp [hF, h0]
theorem hL_f {P : Nat → Bool} {i : Nat} (h : P i = false) : hL P (i + 1) = hL P i := by simp [hL, h]
theorem hL_t {P : Nat → Bool} {i : Nat} (h : P i = true) : hL P (i + 1) = some i := by simp [hL, h]
theorem cn_f {P : Nat → Bool} {i : Nat} (h : P i = false) : cn P (i + 1) = cn P i := by simp [cn, h]
theorem cn_t {P : Nat → Bool} {i : Nat} (h : P i = true) : cn P (i + 1) = cn P i + 1 := by simp [cn, h]
theorem hF_32 {P : Nat → Bool} {i : Nat} (hi : i ≤ 8) : ∀ k, hF P i = some k → k < 2 ^ 31 := fun k h => by have := (hF_lt h).1; omega
theorem hF_m {P : Nat → Bool} {i : Nat} {v : Int32} (hv : v = oI (hF P i)) (h : P i = true) (hi : i ≤ 8) (c : v = (-1)) : nI i = oI (hF P (i + 1)) := by
  rw [hF_n h (oI_none (by rw [← hv]; exact c) (hF_32 hi))]
  rfl
theorem hF_k {P : Nat → Bool} {i : Nat} {v : Int32} (hv : v = oI (hF P i)) (c : ¬ v = (-1)) : v = oI (hF P (i + 1)) := by
  obtain ⟨j, hj⟩ := oI_some (by rw [← hv]; exact c)
  rw [hF_s hj]
  exact hv
def dcF (rd : Int32) (F : Nat → Int32) : Int32 := if rd = nI 0 then F 6 else if rd = nI 1 then F 7 else if rd = nI 2 then (if F 8 = (-1) then F 6 else F 8) else if (F 11).toInt < (F 10).toInt then F 8 else F 9
theorem dcF_eq {rd : Int32} {F : Nat → Int32} {f la fa ff : Option Nat} {ca cf : Nat} (h6 : F 6 = oI f) (h7 : F 7 = oI la) (h8 : F 8 = oI fa) (h9 : F 9 = oI ff) (h10 : F 10 = nI ca) (h11 : F 11 = nI cf) (hca : ca < 2 ^ 31) (hcf : cf < 2 ^ 31) (hfa : ∀ k, fa = some k → k < 2 ^ 31) : dcF rd F = oI (dec rd f la fa ff ca cf) := by
  unfold dcF dec
  by_cases e0 : rd = nI 0
  · rw [if_pos e0, if_pos e0, h6]
  rw [if_neg e0, if_neg e0]
  by_cases e1 : rd = nI 1
  · rw [if_pos e1, if_pos e1, h7]
  rw [if_neg e1, if_neg e1]
  by_cases e2 : rd = nI 2
  · rw [if_pos e2, if_pos e2, h8, h6]
    cases fa with
    | none => rfl
    | some k => exact if_neg (nI_m1 (hfa k rfl))
  rw [if_neg e2, if_neg e2, h10, h11, nI_toInt hca, nI_toInt hcf, h8, h9]
  by_cases e3 : cf < ca
  · rw [if_pos e3, if_pos (by omega)]
  · rw [if_neg e3, if_neg (by omega)]
def chk (b : Bool) (A : Nat → Nat → Int32) : Nat → Nat → Int32 := if b = true then A else bump 0 A
def askOK (T : Nat) (tw ac dd dy sh : Int32) : Bool := pTown T tw && (pIn 0 5 ac && (pIn 0 59 dd && (pIn 0 1 dy && pIn 0 1 sh)))
def ofOK (C : Nat) (x w : Int32) : Bool := pTown C x && pIn 0 6 w
def ofR (n : Nat → Int32) (C : Nat) (x w : Int32) : Int32 := if ofOK C x w = true then if w = nI 5 then bI (alw (n (46 + 5 * rc x + 0))) else if w = nI 6 then spD n (rc x) else n (46 + 5 * rc x + rc w) else (-2)
def allowedR (n : Nat → Int32) (T C : Nat) (tw ac dd dy sh w : Int32) : Int32 := if (askOK T tw ac dd dy sh && pIn 0 1 w) = true then if w = nI 1 then oI (decN n C (rc tw) ac dd dy sh 0) else bI (isA n C (rc tw) ac dd dy sh 0) else (-10)
theorem bits_lt {d j : Nat} (h : j < 2 ^ d) (h0 : 0 < j) : j / 2 < 2 ^ (d - 1) := by
  cases d with
  | zero => simp at h; omega
  | succ d => rw [Nat.add_sub_cancel]; rw [Nat.pow_succ] at h; omega
theorem bits_st {i d j N : Nat} (hp : i + popF d j = N) (h : j < 2 ^ d) (h0 : 0 < j) : i + j % 2 + popF (d - 1) (j / 2) = N := by
  cases d with
  | zero => simp at h; omega
  | succ d => rw [Nat.add_sub_cancel]; simp only [popF] at hp; omega
theorem n54 : ¬ nI 5 = nI 4 := by decide
theorem n45 : ¬ nI 4 = nI 5 := by decide
theorem n35 : ¬ nI 3 = nI 5 := by decide
theorem n53 : ¬ nI 5 = nI 3 := by decide
