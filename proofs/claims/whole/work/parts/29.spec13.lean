/-! What a clause answers. -/
def endV (k : Nat) (F E : Int32) : Int32 := F + (if nI k = nI 2 then (E - F + nI 1) / nI 2 else E - F)
def spIn (k : Nat) (w pl : Int32) : Bool := !(decide (nI k = nI 3) || decide (nI k = nI 5)) || decide (w = pl)
def spTo (k w : Nat) : Bool := (!decide (nI k = nI 4) || decide (nI (w / 2) = nI 1)) && (!decide (nI k = nI 5) || decide (nI (w % 2) = nI 1))
theorem spk_of {n : Nat → Int32} {c k w : Nat} {tw ac dd : Int32} (h : n (46 + 5 * c + 0) = nI k) : spk n c tw ac dd (nI (w / 2)) (nI (w % 2)) = (decide (n (46 + 5 * c + 1) = ac) && (spIn k (n (46 + 5 * c + 4)) tw && ((decide ((n (46 + 5 * c + 2)).toInt ≤ dd.toInt) && decide (dd.toInt < (endV k (n (46 + 5 * c + 2)) (n (46 + 5 * c + 3))).toInt)) && spTo k w))) := by
  unfold spk spH spW spT spD spIn endV spTo
  rw [h]
theorem endV_n {k : Nat} {F E : Int32} (h : ¬ nI k = nI 2) : E = endV k F E := by
  unfold endV
  rw [if_neg h, Int32.add_comm, Int32.sub_add_cancel]
theorem endV_2 {F E : Int32} : F + (E - F + nI 1) / nI 2 = endV 2 F E := by
  unfold endV
  rw [if_pos rfl]
theorem and2_nI : ∀ w, w < 4 → nI w &&& nI 2 = nI (2 * (w / 2)) := by decide +kernel
theorem and1_4 : ∀ w, w < 4 → nI w &&& nI 1 = nI (w % 2) := by decide +kernel
theorem spTo_4 : ∀ w, w < 4 → spTo 4 w = decide (2 * (w / 2) ≠ 0) := by decide +kernel
theorem spTo_5 : ∀ w, w < 4 → spTo 5 w = decide (w % 2 ≠ 0) := by decide +kernel
theorem spTo_n : ∀ k, k < 4 → ∀ w, w < 4 → spTo k w = true := by decide +kernel
theorem spIn_3 {w pl : Int32} : spIn 3 w pl = decide (w = pl) := by unfold spIn; simp
theorem spIn_5 {w pl : Int32} : spIn 5 w pl = decide (w = pl) := by unfold spIn; simp
theorem spIn_n {k : Nat} {w pl : Int32} (h3 : ¬ nI k = nI 3) (h5 : ¬ nI k = nI 5) : spIn k w pl = true := by unfold spIn; simp [h3, h5]
