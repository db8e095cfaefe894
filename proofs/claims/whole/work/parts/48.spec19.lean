/-! The reader's tokens against the text's. -/
theorem ch_all : ∀ i, i < 4 → ∀ j, j < wdL.getD i 0 → ((((wdB.getD i []).getD j 0) &&& nI 255).toUInt32 % 65536).toInt32 = (wdB.getD i []).getD j 0 := by decide +kernel
theorem ch_nar : ∀ i, i < 4 → ∀ j, j < wdL.getD i 0 → narrow .char (.int ((wdB.getD i []).getD j 0)) = .int ((wdB.getD i []).getD j 0) := by decide +kernel
theorem len_all : ∀ i, i < 4 → nI (wdL.getD i 0) >>> (nI 0 &&& 31) = nI (wdL.getD i 0) := by decide +kernel
theorem len_7 : ∀ i, i < 4 → wdL.getD i 0 < 7 := by decide +kernel
