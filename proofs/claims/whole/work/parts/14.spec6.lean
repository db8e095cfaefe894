theorem bI_inj {a b : Bool} (h : bI a = bI b) : a = b := by
  cases a <;> cases b <;> first | rfl | exact absurd h (by decide)
theorem cdB_no {al : Nat → Bool} {i : Int32} {a k many : Nat} {found : Int32} {x : Nat × Int32} (hx : (many, found) = cdB al i a x k) (h : al a = al (a + 1 + k)) : (many, found) = cdB al i a x (k + 1) := by
  simp only [cdB]
  rw [if_pos h]
  exact hx
theorem cdB_eq {al : Nat → Bool} {i : Int32} {a k many : Nat} {found : Int32} {x : Nat × Int32} (hx : (many, found) = cdB al i a x k) (h : ¬ al a = al (a + 1 + k)) (hm : nI many = i) : (many + 1, nI (10 * a + (a + 1 + k))) = cdB al i a x (k + 1) := by
  simp only [cdB]
  rw [if_neg h, ← hx]
  simp only
  rw [if_pos hm]
theorem cdB_ne {al : Nat → Bool} {i : Int32} {a k many : Nat} {found : Int32} {x : Nat × Int32} (hx : (many, found) = cdB al i a x k) (h : ¬ al a = al (a + 1 + k)) (hm : ¬ nI many = i) : (many + 1, found) = cdB al i a x (k + 1) := by
  simp only [cdB]
  rw [if_neg h, ← hx]
  simp only
  rw [if_neg hm]
theorem cdA_bd {al : Nat → Bool} {T : Nat} {i : Int32} {a k many : Nat} {found : Int32} (hx : (many, found) = cdB al i a (cdA al T i a) k) (hT : T ≤ 6) (ha : a < T) (hk : k ≤ T) : many ≤ 42 := by
  have h1 := cdB_le (al := al) (i := i) (a := a) (x := cdA al T i a) k
  have h2 := cdA_le (al := al) (T := T) (i := i) a
  rw [← hx] at h1
  simp only at h1
  have h3 : a * T ≤ 5 * 6 := Nat.mul_le_mul (by omega) hT
  omega
/-- agreement, by its steps -/
theorem agP_0 {al : Nat → Nat → Bool} {T acts : Nat} : agP al T acts 0 := fun a h => absurd h (Nat.not_lt_zero a)
theorem agP_mono {al : Nat → Nat → Bool} {T acts k : Nat} (h : agP al T acts 6) (hk : k ≤ 6) : agP al T acts k := fun a ha => h a (Nat.lt_of_lt_of_le ha hk)
theorem agP_succ {al : Nat → Nat → Bool} {T acts k : Nat} : agP al T acts (k + 1) ↔ (agP al T acts k ∧ (acts / 2 ^ k % 2 = 1 → ∀ t, 1 ≤ t → t < T → al k t = al k 0)) := by
  constructor
  · intro h
    exact ⟨fun a ha => h a (Nat.lt_succ_of_lt ha), h k (Nat.lt_succ_self k)⟩
  · intro h a ha
    rcases Nat.lt_or_ge a k with q | q
    · exact h.1 a q
    · rw [show a = k by omega]
      exact h.2
theorem ag_out {al : Nat → Nat → Bool} {T acts k t : Nat} {ag : Bool} (h : ag = true ↔ (agP al T acts k ∧ (acts / 2 ^ k % 2 = 1 → ∀ t', 1 ≤ t' → t' < t → al k t' = al k 0))) (ht : t ≤ T ∨ t = 1) (ho : T ≤ t ∨ ag = false ∨ ¬ acts / 2 ^ k % 2 = 1) : ag = true ↔ agP al T acts (k + 1) := by
  rw [agP_succ]
  constructor
  · intro h1
    obtain ⟨g1, g2⟩ := h.mp h1
    refine ⟨g1, fun hb t' h2 h3 => ?_⟩
    rcases ho with q | q | q
    · exact g2 hb t' h2 (by omega)
    · rw [q] at h1; cases h1
    · exact absurd hb q
  · intro h1
    exact h.mpr ⟨h1.1, fun hb t' h2 h3 => h1.2 hb t' h2 (by omega)⟩
theorem ag_st {al : Nat → Nat → Bool} {T acts k t : Nat} {ag b : Bool} (h : ag = true ↔ (agP al T acts k ∧ (acts / 2 ^ k % 2 = 1 → ∀ t', 1 ≤ t' → t' < t → al k t' = al k 0))) (ht : 1 ≤ t) (ha : ag = true) (hb : acts / 2 ^ k % 2 = 1) (hq : b = true ↔ al k t = al k 0) : b = true ↔ (agP al T acts k ∧ (acts / 2 ^ k % 2 = 1 → ∀ t', 1 ≤ t' → t' < t + 1 → al k t' = al k 0)) := by
  obtain ⟨g1, g2⟩ := h.mp ha
  constructor
  · intro h1
    refine ⟨g1, fun _ t' h2 h3 => ?_⟩
    rcases Nat.lt_or_ge t' t with q | q
    · exact g2 hb t' h2 q
    · rw [show t' = t by omega]; exact hq.mp h1
  · intro h1
    exact hq.mpr (h1.2 hb t ht (Nat.lt_succ_self t))
theorem agB_iff {al : Nat → Nat → Bool} {T acts : Nat} {ag : Bool} (h : ag = true ↔ agP al T acts 6) : ag = agB al T acts := by
  cases hag : ag
  · rw [agB_f (fun z => by rw [h.mpr z] at hag; cases hag)]
  · rw [agB_t (h.mp hag)]
theorem pow_C {C : Nat} (h : C ≤ 8) : 1 ≤ 2 ^ C ∧ 2 ^ C ≤ 256 := ⟨Nat.one_le_two_pow, Nat.pow_le_pow_right (n := 2) (by omega) h⟩
theorem stl_yes {ag : Nat → Bool} {all k b : Nat} (hb : b = stl ag all k) (h1 : pop k < pop b) (h2 : ag k = true) : k = stl ag all (k + 1) := by
  simp only [stl]
  rw [← hb, if_pos ⟨h1, h2⟩]
theorem stl_no {ag : Nat → Bool} {all k b : Nat} (hb : b = stl ag all k) (h : ¬ pop k < pop b ∨ ag k = false) : b = stl ag all (k + 1) := by
  simp only [stl]
  rw [← hb, if_neg]
  intro z
  rcases h with h | h
  · exact h z.1
  · rw [h] at z; exact absurd z.2 (by decide)
theorem pop_8 (k : Nat) : pop k ≤ 8 := popF_le 8 k
theorem rdB_y {P : Nat → Bool} {r b : Nat} (hb : b = rdB P r) (h : P r = true) : b ||| 2 ^ r = rdB P (r + 1) := by simp only [rdB]; rw [if_pos h, hb]
theorem rdB_n {P : Nat → Bool} {r b : Nat} (hb : b = rdB P r) (h : ¬ P r = true) : b ||| 0 = rdB P (r + 1) := by simp only [rdB]; rw [if_neg h, hb]
theorem shl_8 : ∀ k, k < 8 → nI 1 <<< (nI k &&& 31) = nI (2 ^ k) := shl1_nI
/-- of the acts one that is forbidden, by its steps -/
theorem fbP_0 {al : Nat → Nat → Bool} {acts t : Nat} : false = true ↔ fbP al acts t 0 := ⟨fun h => (by cases h), fun ⟨a, h, _⟩ => absurd h (Nat.not_lt_zero a)⟩
theorem fb_st {al : Nat → Nat → Bool} {acts t k : Nat} {f f' : Bool} (h : f = true ↔ fbP al acts t k) (hf : f = false) (h' : f' = true ↔ (acts / 2 ^ k % 2 = 1 ∧ al k t = false)) : f' = true ↔ fbP al acts t (k + 1) := by
  rw [h']
  constructor
  · intro z; exact ⟨k, Nat.lt_succ_self k, z⟩
  · rintro ⟨a, h1, h2⟩
    rcases Nat.lt_or_ge a k with q | q
    · exfalso
      have := h.mpr ⟨a, q, h2⟩
      rw [hf] at this; cases this
    · rw [show k = a by omega]; exact h2
theorem fb_out {al : Nat → Nat → Bool} {acts t k : Nat} {f : Bool} (h : f = true ↔ fbP al acts t k) (hk : k ≤ 6) (ho : k = 6 ∨ f = true) : f = fbB al acts t := by
  cases hf : f
  · rcases ho with q | q
    · subst q
      rw [fbB_f (fun z => by rw [h.mpr z] at hf; cases hf)]
    · rw [hf] at q; cases q
  · obtain ⟨a, h1, h2⟩ := h.mp hf
    rw [fbB_t ⟨a, by omega, h2⟩]
/-- who gives in: from day d on, r days -/
def giv (pr : Nat → Nat) (T : Nat) : Nat → Nat → Int → Int → Option (Nat × Nat)
  | 0, _, _, _ => none
  | r + 1, d, K, P => if K - pr d ≤ 0 ∨ P - (T - pr d : Nat) ≤ 0 then some (d, if 0 < K - pr d then 1 else if 0 < P - (T - pr d : Nat) then 0 else 2) else giv pr T r (d + 1) (K - pr d) (P - (T - pr d : Nat))
theorem giv_yes {pr : Nat → Nat} {T r d w : Nat} {K P : Int} (h : 0 < r) (hg : K - pr d ≤ 0 ∨ P - (T - pr d : Nat) ≤ 0) (hw : w = if 0 < K - pr d then 1 else if 0 < P - (T - pr d : Nat) then 0 else 2) : giv pr T r d K P = some (d, w) := by
  cases r with
  | zero => omega
  | succ r => simp only [giv]; rw [if_pos hg, hw]
theorem giv_no {pr : Nat → Nat} {T d : Nat} {K P : Int} (h : d < 60) (hg : ¬ (K - pr d ≤ 0 ∨ P - (T - pr d : Nat) ≤ 0)) : giv pr T (60 - d) d K P = giv pr T (60 - (d + 1)) (d + 1) (K - pr d) (P - (T - pr d : Nat)) := by
  rw [show 60 - d = (60 - (d + 1)) + 1 by omega]
  simp only [giv]
  rw [if_neg hg]
noncomputable def prsD (n : Nat → Int32) (T C ac S : Nat) (d : Nat) : Nat := cn (fun t => fbB (acAl n C (nI d) S) ac t) T
noncomputable def giR (n : Nat → Int32) (T C k p ac S : Nat) : Option (Nat × Nat) := giv (prsD n T C ac S) T 60 0 k p
noncomputable def gD1 (x : Option (Nat × Nat)) : Option Nat := x.map Prod.fst
noncomputable def gW1 (x : Option (Nat × Nat)) : Option Nat := x.map Prod.snd
def patOK (k p ac : Int32) : Bool := pIn 0 99 k && (pIn 0 99 p && pIn 0 63 ac)
noncomputable def patienceR (n : Nat → Int32) (T C : Nat) (k p ac w : Int32) : Int32 := if (patOK k p ac && pIn 0 1 w) = true then (if w = 0 then oI (gD1 (giR n T C (rc k) (rc p) (rc ac) 0)) else oI (gW1 (giR n T C (rc k) (rc p) (rc ac) 0))) else (-2)
def orNv (x : Int32) : Int32 := if x = (-1) then nI 60 else x
noncomputable def gE (x : Option (Nat × Nat)) : Nat := match x with
  | none => 60
  | some (d, _) => d
theorem giv_lt {pr : Nat → Nat} {T : Nat} : ∀ {r d : Nat} {K P : Int} {e w : Nat}, giv pr T r d K P = some (e, w) → e < d + r := by
  intro r
  induction r with
  | zero => intro d K P e w h; cases h
  | succ r ih =>
    intro d K P e w h
    simp only [giv] at h
    split at h
    · cases h; omega
    · have := ih h; omega
theorem giR_lt {n : Nat → Int32} {T C k p ac S e w : Nat} (h : giR n T C k p ac S = some (e, w)) : e < 60 := by have := giv_lt h; omega
theorem orNv_g {n : Nat → Int32} {T C k p ac S : Nat} : orNv (oI (gD1 (giR n T C k p ac S))) = nI (gE (giR n T C k p ac S)) := by
  unfold orNv gE gD1
  cases h : giR n T C k p ac S with
  | none => rfl
  | some x =>
    obtain ⟨d, w⟩ := x
    have := giR_lt h
    exact if_neg (nI_m1 (by omega))
def concedeOK (C : Nat) (x k p ac : Int32) : Bool := pTown C x && patOK k p ac
noncomputable def concedeR (n : Nat → Int32) (T C : Nat) (x k p ac : Int32) : Int32 := if concedeOK C x k p ac = true then nI (gE (giR n T C (rc k) (rc p) (rc ac) (2 ^ rc x))) - nI (gE (giR n T C (rc k) (rc p) (rc ac) 0)) else (-100)
/-- the town that is pressed on most days -/
def prs (ct : Nat → Nat) : Nat → Option (Nat × Nat)
  | 0 => none
  | t + 1 => match prs ct t with
    | none => some (t, ct t)
    | some (b, m) => if m < ct t then some (t, ct t) else some (b, m)
theorem prs_yes {ct : Nat → Nat} {t : Nat} (h : ∀ b m, prs ct t = some (b, m) → m < ct t) : prs ct (t + 1) = some (t, ct t) := by
  simp only [prs]
  cases h2 : prs ct t with
  | none => rfl
  | some x =>
    obtain ⟨b, m⟩ := x
    simp only
    rw [if_pos (h b m h2)]
theorem prs_no {ct : Nat → Nat} {t b m : Nat} (h2 : prs ct t = some (b, m)) (h : ¬ m < ct t) : prs ct (t + 1) = some (b, m) := by
  simp only [prs, h2]
  rw [if_neg h]
theorem prs_lt {ct : Nat → Nat} : ∀ {t b m : Nat}, prs ct t = some (b, m) → b < t ∧ m = ct b := by
  intro t
  induction t with
  | zero => intro b m h; cases h
  | succ t ih =>
    intro b m h
    simp only [prs] at h
    cases h2 : prs ct t with
    | none => rw [h2] at h; cases h; exact ⟨Nat.lt_succ_self _, rfl⟩
    | some x =>
      obtain ⟨c, q⟩ := x
      rw [h2] at h
      simp only at h
      split at h
      · cases h; exact ⟨Nat.lt_succ_self _, rfl⟩
      · cases h; exact ⟨Nat.lt_succ_of_lt (ih h2).1, (ih h2).2⟩
noncomputable def prsC (n : Nat → Int32) (C ac : Nat) (t : Nat) : Nat := cn (fun d => fbB (acAl n C (nI d) 0) ac t) 60
noncomputable def pressesR (n : Nat → Int32) (T C : Nat) (ac w : Int32) : Int32 := if (pIn 0 63 ac && pIn 0 1 w) = true then (match prs (prsC n C (rc ac)) T with
  | none => if w = 0 then (-1) else nI 0
  | some (b, m) => if w = 0 then nI b else nI m) else (-2)
theorem sub_toInt {x : Int32} {K : Int} {k : Nat} (hx : x.toInt = K) (h1 : -1000 ≤ K) (h2 : K ≤ 1000) (hk : k ≤ 1000) : (x - nI k).toInt = K - k := by
  rw [Int32.toInt_sub, hx, nI_toInt (by omega)]
  have : (K - (k : Int)).bmod (2 ^ 32) = K - k := by
    rw [Int.bmod_eq_of_le] <;> omega
  exact this
