/-! What is asked of the object: steps of its loops. -/
theorem endV_sub {k : Nat} {F E : Int32} : endV k F E - F = (if nI k = nI 2 then (E - F + nI 1) / nI 2 else E - F) := by
  unfold endV
  rw [Int32.add_comm, Int32.add_sub_cancel]
theorem spD_k {n : Nat → Int32} {c k : Nat} (h : n (46 + 5 * c + 0) = nI k) : endV k (n (46 + 5 * c + 2)) (n (46 + 5 * c + 3)) - n (46 + 5 * c + 2) = spD n c := by
  rw [endV_sub]
  unfold spD
  rw [h]
/-- once the pair is found, it stays -/
theorem cd_s1 {al : Nat → Bool} {i : Int32} {a m0 k : Nat} {x : Nat × Int32} {v : Int32} (hi : i = nI m0) (h1 : m0 < (cdB al i a x k).1) (h2 : (cdB al i a x k).2 = v) (hx : x.1 ≤ 1000) : ∀ j, k ≤ j → j ≤ 1000 → m0 < (cdB al i a x j).1 ∧ (cdB al i a x j).2 = v := by
  subst hi
  intro j
  induction j with
  | zero => intro h _; have : k = 0 := by omega
            subst this; exact ⟨h1, h2⟩
  | succ j ih =>
    intro h h9
    by_cases e : k = j + 1
    · subst e; exact ⟨h1, h2⟩
    · have h8 := ih (by omega) (by omega)
      have h7 := cdB_le (al := al) (i := nI m0) (a := a) (x := x) j
      simp only [cdB]
      split
      · exact h8
      · refine ⟨by show m0 < (cdB al (nI m0) a x j).1 + 1; omega, ?_⟩
        show (if nI (cdB al (nI m0) a x j).1 = nI m0 then _ else _) = v
        rw [if_neg]
        · exact h8.2
        · intro z
          have := nI_inj z (by omega) (by omega)
          omega
theorem cd_s2 {al : Nat → Bool} {T : Nat} {i : Int32} {m0 a : Nat} {v : Int32} (hi : i = nI m0) (hT : T ≤ 6) (h1 : m0 < (cdA al T i a).1) (h2 : (cdA al T i a).2 = v) : ∀ b, a ≤ b → b ≤ T → m0 < (cdA al T i b).1 ∧ (cdA al T i b).2 = v := by
  intro b
  induction b with
  | zero => intro h _; have : a = 0 := by omega
            subst this; exact ⟨h1, h2⟩
  | succ b ih =>
    intro h h9
    by_cases e : a = b + 1
    · subst e; exact ⟨h1, h2⟩
    · have h8 := ih (by omega) (by omega)
      have h7 := cdA_le (al := al) (T := T) (i := i) b
      have h6 : b * T ≤ 6 * 6 := Nat.mul_le_mul (by omega) hT
      simp only [cdA]
      exact cd_s1 (k := 0) hi h8.1 h8.2 (by omega) _ (Nat.zero_le _) (by omega)
theorem cd_found {al : Nat → Bool} {T : Nat} {i : Int32} {a k m : Nat} {f : Int32} (hm : (m, f) = cdB al i a (cdA al T i a) k) (hne : ¬ al a = al (a + 1 + k)) (hi : nI m = i) (hT : T ≤ 6) (ha : a < T) (hk : a + 1 + k < T) : (cdA al T i T).2 = nI (10 * a + (a + 1 + k)) ∧ ¬ i = (-1) := by
  have h7 := cdA_le (al := al) (T := T) (i := i) a
  have h6 : a * T ≤ 6 * 6 := Nat.mul_le_mul (by omega) hT
  have h5 := cdA_bd hm hT ha (by omega)
  have h4 := cdB_eq hm hne hi
  have h3 := cd_s1 (k := k + 1) hi.symm (m0 := m) (by rw [← h4]; exact Nat.lt_succ_self m) (congrArg Prod.snd h4).symm (by omega) (T - (a + 1)) (by omega) (by omega)
  have h2 := cd_s2 (a := a + 1) hi.symm (m0 := m) hT (v := nI (10 * a + (a + 1 + k))) (by simp only [cdA]; exact h3.1) (by simp only [cdA]; exact h3.2) T (by omega) (Nat.le_refl _)
  refine ⟨h2.2, fun z => ?_⟩
  rw [z] at hi
  exact nI_m1 (by omega) hi
theorem pop_all : ∀ C, C ≤ 8 → ∀ b, b < 2 ^ C → pop b ≤ pop (2 ^ C - 1) := by decide +kernel
theorem stl_all {ag : Nat → Bool} {C : Nat} (h : C ≤ 8) : stl ag (2 ^ C - 1) (2 ^ C) = stl ag (2 ^ C - 1) (2 ^ C - 1) := by
  have h1 := (pow_C h).1
  have h2 := stl_lt (ag := ag) (all := 2 ^ C - 1) (2 ^ C - 1) (by omega)
  have h3 := pop_all C h _ (show stl ag (2 ^ C - 1) (2 ^ C - 1) < 2 ^ C by omega)
  have h4 : stl ag (2 ^ C - 1) ((2 ^ C - 1) + 1) = stl ag (2 ^ C - 1) (2 ^ C - 1) := by
    simp only [stl]
    rw [if_neg (fun z => absurd z.1 (by omega))]
  rw [← h4, show 2 ^ C - 1 + 1 = 2 ^ C by omega]
/-- who gives in -/
theorem giv_ge {pr : Nat → Nat} {T : Nat} : ∀ {r d : Nat} {K P : Int} {e w : Nat}, giv pr T r d K P = some (e, w) → d ≤ e := by
  intro r
  induction r with
  | zero => intro d K P e w h; cases h
  | succ r ih =>
    intro d K P e w h
    simp only [giv] at h
    split at h
    · cases h; exact Nat.le_refl _
    · have := ih h; omega
theorem giv_at {pr : Nat → Nat} {T d e w : Nat} {K P : Int} (h : giv pr T (60 - d) d K P = some (e, w)) (hd : d < 60) : (d < e → giv pr T (60 - (d + 1)) (d + 1) (K - pr d) (P - (T - pr d : Nat)) = some (e, w)) ∧ (d = e → w = if 0 < K - pr d then 1 else if 0 < P - (T - pr d : Nat) then 0 else 2) := by
  rw [show 60 - d = (60 - (d + 1)) + 1 by omega] at h
  simp only [giv] at h
  split at h
  · cases h
    exact ⟨fun z => absurd z (by omega), fun _ => rfl⟩
  · have := giv_ge h
    exact ⟨fun _ => h, fun z => absurd z (by omega)⟩
theorem gE_s {x : Option (Nat × Nat)} (h : gE x < 60) : ∃ e w, x = some (e, w) := by
  cases x with
  | none => exact absurd h (by decide)
  | some y => exact ⟨y.1, y.2, rfl⟩
theorem gE_n {n : Nat → Int32} {T C k p ac S : Nat} (h : ¬ gE (giR n T C k p ac S) < 60) : giR n T C k p ac S = none := by
  cases hx : giR n T C k p ac S with
  | none => rfl
  | some y =>
    obtain ⟨e, w⟩ := y
    rw [hx] at h
    exact absurd (giR_lt hx) h
theorem gE_60 {n : Nat → Int32} {T C k p ac S : Nat} : gE (giR n T C k p ac S) ≤ 60 := by
  cases hx : giR n T C k p ac S with
  | none => exact Nat.le_refl _
  | some y =>
    obtain ⟨e, w⟩ := y
    exact Nat.le_of_lt (giR_lt hx)
theorem pat_i {k p ac : Int32} (h : patOK k p ac = true) : ∃ k1 p1 a1 : Nat, k1 ≤ 99 ∧ p1 ≤ 99 ∧ a1 ≤ 63 ∧ k = nI k1 ∧ p = nI p1 ∧ ac = nI a1 := by
  unfold patOK at h
  simp only [Bool.and_eq_true] at h
  obtain ⟨h1, h2, h3⟩ := h
  obtain ⟨k1, a1, b1⟩ := pIn_nI (hi := 99) h1 (by omega)
  obtain ⟨p1, a2, b2⟩ := pIn_nI (hi := 99) h2 (by omega)
  obtain ⟨x1, a3, b3⟩ := pIn_nI (hi := 63) h3 (by omega)
  exact ⟨k1, p1, x1, a1, a2, a3, b1, b2, b3⟩
/-- on how many days the hardest pressed is -/
def prM (x : Option (Nat × Nat)) : Nat := match x with
  | none => 0
  | some y => y.2
theorem pr_n {ct : Nat → Nat} {t : Nat} {x : Option (Nat × Nat)} (hx : x = prs ct t) (ht : t ≤ 6) (h : oI (x.map Prod.fst) = (-1)) : some (t, ct t) = prs ct (t + 1) := by
  refine (prs_yes fun b m hbm => ?_).symm
  rw [hx, hbm] at h
  exact absurd h (nI_m1 (by have := (prs_lt hbm).1; omega))
theorem pr_y {ct : Nat → Nat} {t m : Nat} {x : Option (Nat × Nat)} (hx : x = prs ct t) (hm : m = prM x) (h : m < ct t) : some (t, ct t) = prs ct (t + 1) := by
  refine (prs_yes fun b m' hbm => ?_).symm
  rw [hx, hbm] at hm
  have : m = m' := hm
  omega
theorem pr_o {ct : Nat → Nat} {t m : Nat} {x : Option (Nat × Nat)} (hx : x = prs ct t) (hm : m = prM x) (h : ¬ m < ct t) (h2 : ¬ oI (x.map Prod.fst) = (-1)) : x = prs ct (t + 1) := by
  cases hxx : x with
  | none => rw [hxx] at h2; exact absurd rfl h2
  | some y =>
    obtain ⟨b, m'⟩ := y
    rw [hxx] at hm hx
    have e : m = m' := hm
    exact (prs_no hx.symm (by omega)).symm
theorem pr_end {n : Nat → Int32} {T C a : Nat} {w : Int32} {x : Option (Nat × Nat)} (hx : x = prs (prsC n C a) T) (ha : a ≤ 63) (ok : (pIn 0 63 (nI a) && pIn 0 1 w) = true) : pressesR n T C (nI a) w = if w = 0 then oI (x.map Prod.fst) else nI (prM x) := by
  unfold pressesR
  rw [if_pos ok, rc_i (by omega), ← hx]
  cases x with
  | none => rfl
  | some y => rfl
theorem drX_lt {s : Nat} (h : s ≤ 999999) : ∀ i, drX s i < 2147483648 := by
  intro i
  cases i with
  | zero => show s < _; omega
  | succ i => exact nxt_lt _
def oddsA (n : Nat → Int32) (ab : Int32) (T C : Nat) (tw ac a b dy sh : Int32) : Int32 := if oddsOK T tw ac a b dy sh = true then nI (oddsN n C tw ac a b dy sh) else ab
def oddsB (n : Nat → Int32) (be : Int32) (T C : Nat) (tw ac a b dy sh : Int32) : Int32 := if oddsOK T tw ac a b dy sh = true then nI (oddsM n C tw ac a b dy sh) else be
theorem odV_le {n : Nat → Int32} {C : Nat} {tw ac a b dy sh : Int32} : odV n C tw ac a b dy sh ≤ rc b + 1 - rc a := cn_le _ _
theorem odds_l {n : Nat → Int32} {L : Nat → Int64} {T C : Nat} {ab be tw ac a b dy sh : Int32} (h4 : L 4 = ab.toInt64) (h5 : L 5 = be.toInt64) : oddsL n L T C tw ac a b dy sh 4 = (oddsA n ab T C tw ac a b dy sh).toInt64 ∧ oddsL n L T C tw ac a b dy sh 5 = (oddsB n be T C tw ac a b dy sh).toInt64 := by
  unfold oddsL oddsA oddsB
  split
  · next h =>
    have hb : rc b ≤ 59 := by
      rw [od_ok] at h
      have h9 := of_decide_eq_true (Bool.and_eq_true_iff.mp h).2
      unfold rc
      omega
    have h1 : odV n C tw ac a b dy sh ≤ _ := odV_le
    have h2 := Nat.div_le_self (odV n C tw ac a b dy sh) (Nat.gcd (odV n C tw ac a b dy sh) (rc b + 1 - rc a))
    have h3 := Nat.div_le_self (rc b + 1 - rc a) (Nat.gcd (odV n C tw ac a b dy sh) (rc b + 1 - rc a))
    unfold oddsN oddsM
    refine ⟨?_, ?_⟩
    · rw [nI_l (by omega)]
      rfl
    · rw [nI_l (by omega)]
      rfl
  · exact ⟨h4, h5⟩
