/-! The class's cells: a land (lW), the object (xW), the reader (rW), clauses (bE); what ties a land to a row of told things (relL). -/
def lW (g : zG) (b : Nat) (a : Nat → Nat) (T C U V : Int32) (rd ro : Nat → Int32) (lw pl : Nat → Option Nat) (pc gv aw nt : Nat → Int32) : va_W := [(b, .inr (4, [.int T, .int C, .int U, .int V, .ref (a 0), .ref (a 1), .ref (a 2), .ref (a 3), .ref (a 4), .ref (a 5), .ref (a 6), .ref (a 7)])), (a 0, .inl (gI g, 6, .inl rd)), (a 1, .inl (gI g, 36, .inl ro)), (a 2, .inl (gN g, 8, .inr (.inr (.inr (.inr lw))))), (a 3, .inl (gN g, 64, .inr (.inr (.inr (.inr pl))))), (a 4, .inl (gI g, 8, .inl pc)), (a 5, .inl (gI g, 40, .inl gv)), (a 6, .inl (gI g, 6, .inl aw)), (a 7, .inl (gI g, 36, .inl nt))]
def xW (g : zG) (x d r im tx : Nat) (ln ab be bd no fu : Int32) (tb : Nat → Int32) (ib : Nat → Option Nat) : va_W := [(x, .inr (8, [.ref d, .ref r, .ref im, .ref tx, .int ln, .int ab, .int be, .int bd, .int no, .int fu])), (tx, .inl (gB g, 150, .inl tb)), (im, .inl (gL g, 2, .inr (.inr (.inr (.inr ib)))))]
def rW (r tx : Nat) (sz : Int32) (tg : Nat) (st en tk nu : Int32) : va_W := [(r, .inr (6, [.ref tx, .int sz, .ref tg, .int st, .int en, .int tk, .int nu]))]
/-- the class of a clause of a kind -/
def cix : Nat → Nat
  | 1 => 2
  | 2 => 5
  | 3 => 3
  | 4 => 1
  | 5 => 7
  | _ => 0
def bE (k : Nat) (A F E W : Int32) : va_E := .inr (cix k, [.int (nI k), .int A, .int F, .int E, .int W])
def bAt (n : Nat → Int32) (e : Nat) (q : Option Nat) (B : va_W) : Prop := ∃ q' k, q = some q' ∧ k ≤ 5 ∧ n (e + 0) = nI k ∧ (q', bE k (n (e + 1)) (n (e + 2)) (n (e + 3)) (n (e + 4))) ∈ B
def bN (f : Nat → Option Nat) (N : Nat) (B : va_W) : Prop := ∀ x, x < N → ∀ q, f x = some q → ∃ k A F E W, k ≤ 5 ∧ (q, bE k A F E W) ∈ B
def relL (n : Nat → Int32) (T C U V : Nat) (rd ro : Nat → Int32) (lw pl : Nat → Option Nat) (pc gv : Nat → Int32) (B : va_W) : Prop :=
  (∀ t, t < T → rd t = n (4 + t)) ∧ (∀ i, i < 36 → ro i = n (10 + i)) ∧ (∀ c, c < C → bAt n (46 + 5 * c) (lw c) B) ∧ (∀ k, k < 5 * V → gv k = n (86 + k)) ∧
  (∀ j, j < U → pc j = n (126 + 41 * j + 40) ∧ ∀ c, c < rc (n (126 + 41 * j + 40)) → bAt n (126 + 41 * j + 5 * c) (pl (8 * j + c)) B) ∧ bN lw 8 B ∧ bN pl 64 B
theorem rdB_tb (P : Nat → Bool) : ∀ C i, (rdB P C).testBit i = (decide (i < C) && P i) := by
  intro C
  induction C with
  | zero => intro i; simp [rdB]
  | succ C ih =>
    intro i
    simp only [rdB, Nat.testBit_or, ih]
    by_cases hp : P C = true
    · rw [if_pos hp, Nat.testBit_two_pow]
      by_cases hi : C = i
      · subst hi; simp [hp]
      · rw [decide_eq_false hi, Bool.or_false, show decide (i < C + 1) = decide (i < C) from decide_eq_decide.mpr (by omega)]
    · rw [if_neg hp, Nat.zero_testBit, Bool.or_false]
      by_cases hi : C = i
      · subst hi; simp [hp]
      · rw [show decide (i < C + 1) = decide (i < C) from decide_eq_decide.mpr (by omega)]
theorem rdB_lt (P : Nat → Bool) : ∀ C, rdB P C < 2 ^ C := by
  intro C
  induction C with
  | zero => simp [rdB]
  | succ C ih =>
    simp only [rdB]
    refine Nat.or_lt_two_pow (Nat.lt_of_lt_of_le ih (Nat.pow_le_pow_right (by omega) (Nat.le_succ _))) ?_
    split
    · exact Nat.pow_lt_pow_right (by omega) (Nat.lt_succ_self _)
    · exact Nat.two_pow_pos _
theorem rdB_256 {P : Nat → Bool} {C : Nat} (h : C ≤ 8) : rdB P C < 256 := Nat.lt_of_lt_of_le (rdB_lt P C) (Nat.le_trans (Nat.pow_le_pow_right (by omega) h) (by decide))
theorem rdB_at {P : Nat → Bool} {C i : Nat} : rdB P C / 2 ^ i % 2 = if i < C ∧ P i = true then 1 else 0 := by
  have h := rdB_tb P C i
  rw [Nat.testBit_eq_decide_div_mod_eq] at h
  split
  · next h2 => rw [decide_eq_true h2.1, h2.2] at h; exact of_decide_eq_true h
  · next h2 =>
    have h3 : ¬ rdB P C / 2 ^ i % 2 = 1 := by
      intro z
      rw [decide_eq_true z] at h
      exact h2 ⟨of_decide_eq_true (Bool.and_eq_true_iff.mp h.symm).1, (Bool.and_eq_true_iff.mp h.symm).2⟩
    have := Nat.mod_lt (rdB P C / 2 ^ i) (show 0 < 2 by omega)
    omega
theorem rdB_ext {P Q : Nat → Bool} {C : Nat} (h : ∀ c, c < C → P c = Q c) : rdB P C = rdB Q C := by
  apply Nat.eq_of_testBit_eq
  intro i
  rw [rdB_tb, rdB_tb]
  by_cases hi : i < C
  · rw [h i hi]
  · rw [decide_eq_false hi, Bool.false_and, Bool.false_and]
theorem and_nI (a b : Nat) : nI a &&& nI b = nI (a &&& b) := by
  apply Int32.toBitVec_inj.mp
  show BitVec.ofNat 32 a &&& BitVec.ofNat 32 b = BitVec.ofNat 32 (a &&& b)
  apply BitVec.eq_of_toNat_eq
  simp [Nat.and_mod_two_pow]
theorem andn_nI {a b c : Nat} (h : ∀ i, c.testBit i = (a.testBit i && !b.testBit i)) : nI a &&& (nI b ^^^ (-1)) = nI c := by
  apply Int32.toBitVec_inj.mp
  show BitVec.ofNat 32 a &&& (BitVec.ofNat 32 b ^^^ (-1 : Int32).toBitVec) = BitVec.ofNat 32 c
  rw [show (-1 : Int32).toBitVec = BitVec.allOnes 32 from by decide]
  apply BitVec.eq_of_getLsbD_eq
  intro i hi
  simp only [BitVec.getLsbD_and, BitVec.getLsbD_xor, BitVec.getLsbD_ofNat, BitVec.getLsbD_allOnes, hi, decide_true, Bool.true_and, Bool.xor_true, h i]
theorem rdB_and {P Q : Nat → Bool} {C : Nat} : nI (rdB P C) &&& nI (rdB Q C) = nI (rdB (fun c => P c && Q c) C) := by
  rw [and_nI]
  congr 1
  apply Nat.eq_of_testBit_eq
  intro i
  rw [Nat.testBit_and, rdB_tb, rdB_tb, rdB_tb]
  cases decide (i < C) <;> simp
theorem rdB_andn {P Q : Nat → Bool} {C : Nat} : nI (rdB P C) &&& (nI (rdB Q C) ^^^ (-1)) = nI (rdB (fun c => P c && !Q c) C) := by
  refine andn_nI fun i => ?_
  rw [rdB_tb, rdB_tb, rdB_tb]
  cases decide (i < C) <;> simp
theorem rdB_str {n : Nat → Int32} {C S : Nat} {tw ac dd dy sh : Int32} : nI (rdB (hP n 0 tw ac dd dy sh) C) &&& (nI S ^^^ (-1)) = nI (rdB (hP n S tw ac dd dy sh) C) := by
  refine andn_nI fun i => ?_
  rw [rdB_tb, rdB_tb, Nat.testBit_eq_decide_div_mod_eq (x := S)]
  unfold hP
  have h0 : decide (0 / 2 ^ i % 2 = 0) = true := by simp
  have h1 := Nat.mod_lt (S / 2 ^ i) (show 0 < 2 by omega)
  have h2 : decide (S / 2 ^ i % 2 = 0) = !decide (S / 2 ^ i % 2 = 1) := by
    by_cases h3 : S / 2 ^ i % 2 = 1
    · rw [decide_eq_true h3, decide_eq_false (by omega)]; rfl
    · rw [decide_eq_false h3, decide_eq_true (by omega)]; rfl
  rw [h0, h2]
  cases decide (i < C) <;> cases decide (S / 2 ^ i % 2 = 1) <;> simp
/-- as bits: of eight, of C -/
theorem hF_8 {P : Nat → Bool} {C : Nat} (h : C ≤ 8) : hF (fun c => decide (c < C) && P c) 8 = hF P C := by
  have e : ∀ k, C ≤ k → hF (fun c => decide (c < C) && P c) k = hF P C := by
    intro k
    induction k with
    | zero => intro h2; have : C = 0 := by omega
              subst this; rfl
    | succ k ih =>
      intro h2
      by_cases h3 : C = k + 1
      · rw [h3]; exact hF_ext _ fun j hj => by simp [show j < k + 1 from hj]
      · rw [hF_f (by simp; omega)]; exact ih (by omega)
  exact e 8 h
theorem hL_8 {P : Nat → Bool} {C : Nat} (h : C ≤ 8) : hL (fun c => decide (c < C) && P c) 8 = hL P C := by
  have e : ∀ k, C ≤ k → hL (fun c => decide (c < C) && P c) k = hL P C := by
    intro k
    induction k with
    | zero => intro h2; have : C = 0 := by omega
              subst this; rfl
    | succ k ih =>
      intro h2
      by_cases h3 : C = k + 1
      · rw [h3]; exact hL_ext _ fun j hj => by simp [show j < k + 1 from hj]
      · rw [hL_f (by simp; omega)]; exact ih (by omega)
  exact e 8 h
theorem rdB_8 {P : Nat → Bool} {C : Nat} (h : C ≤ 8) : rdB P C = rdB (fun c => decide (c < C) && P c) 8 := by
  apply Nat.eq_of_testBit_eq
  intro i
  rw [rdB_tb, rdB_tb]
  by_cases hi : i < C
  · rw [decide_eq_true hi, decide_eq_true (show i < 8 by omega)]; simp
  · rw [decide_eq_false hi]; simp
/-- how many bits -/
theorem pop_rdB {P : Nat → Bool} : ∀ C, C ≤ 8 → pop (rdB P C) = cn P C := by
  have step : ∀ c, c < 8 → ∀ b, b < 2 ^ c → pop (b ||| 2 ^ c) = pop b + 1 := by decide +kernel
  intro C
  induction C with
  | zero => intro _; exact popF_0 8
  | succ C ih =>
    intro h
    simp only [rdB, cn]
    by_cases hp : P C = true
    · rw [if_pos hp, if_pos hp, step C (by omega) _ (rdB_lt P C), ih (by omega)]
    · rw [if_neg hp, if_neg hp, Nat.or_zero, ih (by omega)]; rfl
/-- the one that decides, of those that speak (P), some of whom allow (A) -/
def decQ (Q : Nat → Bool) (C : Nat) (rd : Int32) (P : Nat → Bool) : Option Nat := dec rd (hF P C) (hL P C) (hF (fun c => P c && Q c) C) (hF (fun c => P c && !Q c) C) (cn (fun c => P c && Q c) C) (cn (fun c => P c && !Q c) C)
def frbQ (Q : Nat → Bool) (C : Nat) (rd : Int32) (P : Nat → Bool) : Bool := match decQ Q C rd P with
  | none => false
  | some k => !Q k
theorem decQ_P {n : Nat → Int32} {C : Nat} {rd : Int32} {P : Nat → Bool} : decQ (fun c => alw (n (46 + 5 * c + 0))) C rd P = decP n C rd P := rfl
theorem frbQ_P {n : Nat → Int32} {C : Nat} {rd : Int32} {P : Nat → Bool} : frbQ (fun c => alw (n (46 + 5 * c + 0))) C rd P = !alO n (decP n C rd P) := by
  unfold frbQ alO
  rw [decQ_P]
  cases decP n C rd P <;> rfl
theorem decQ_lt {Q : Nat → Bool} {C : Nat} {rd : Int32} {P : Nat → Bool} {k : Nat} (h : decQ Q C rd P = some k) : k < C := by
  unfold decQ dec at h
  repeat' split at h
  · exact (hF_lt h).1
  · exact (hL_lt h).1
  · next h1 => cases h; exact (hF_lt h1).1
  · exact (hF_lt h).1
  · exact (hF_lt h).1
  · exact (hF_lt h).1
section ZB2
variable {p : Program} {l : Launch} {e : Env} {R : Room} {s : State} {m : MethodId} {args : Array Value} {below : List Frame} {meth : Method} {c : Code} {H : Heap} {locs : List Loc} {cells slots : Nat} {Q : State → Prop}
variable {cc : ByteArray} {pc nL : Nat} {own : String} {ls : Array Slot} {rest st : List Value} {g : zG} {ws : va_W}
theorem z_topv {x y : Value} (h : x = y) (k : W p l e R s m args below meth c H locs cells slots Q (F0 m pc ls (y :: rest))) : W p l e R s m args below meth c H locs cells slots Q (F0 m pc ls (x :: rest)) := by rw [h]; exact k
theorem z_getb {a k : Nat} {A F E W' : Int32} (hE : zE g p s m args c cc own nL meth) (hB : zB g s ws H locs) (hk : k ≤ 5) (he : (a, bE k A F E W') ∈ ws) {ref : String} {index : Nat} (j : Nat) (hj : j < 5) (hw : Cond.fieldLink own index ref (TX0 j).2.1 (TX0 j).2.2.1 ∈ TBL) (hsame : ∀ x, s.fieldFound? (TX0 j).1 (TX0 j).2.1 (TX0 j).2.2.1 = some x → s.fieldFound? ref (TX0 j).2.1 (TX0 j).2.2.1 = some x) {v : Value} (hv : [Value.int (nI k), .int A, .int F, .int E, .int W'][j]? = some v) (hdg : decode cc pc = .ok (.getfield index, 3))
    (kk : W p l e R s m args below meth c H locs cells slots Q (F0 m (pc + 3) ls (v :: rest))) : W p l e R s m args below meth c H locs cells slots Q (F0 m pc ls (.ref a :: rest)) := by
  match k, hk with
  | 0, _ => exact z_getm hE hB inX0 he rfl j hj hw hsame hv hdg kk
  | 1, _ => exact z_getm hE hB inX2 he rfl j hj hw hsame hv hdg kk
  | 2, _ => exact z_getm hE hB inX5 he rfl j hj hw hsame hv hdg kk
  | 3, _ => exact z_getm hE hB inX3 he rfl j hj hw hsame hv hdg kk
  | 4, _ => exact z_getm hE hB inX1 he rfl j hj hw hsame hv hdg kk
  | 5, _ => exact z_getm hE hB inX7 he rfl j hj hw hsame hv hdg kk
  | n + 6, h => omega
theorem z_putb {a k : Nat} (hE : zE g p s m args c cc own nL meth) (hB : zB g s ws H locs) (hk : k ≤ 5) (q0 : Nat) {fs : List Value} (he : ws[q0]? = some (a, .inr (cix k, fs))) {index : Nat} (j : Nat) (hj : j < 5) (hw : Cond.fieldLink own index RX0 (TX0 j).2.1 (TX0 j).2.2.1 ∈ TBL) (hin2 : meth.name = "<init>") (hdecl : (TX0 j).1 = own) {v : Int32} (hl : j < fs.length) {ws' : va_W} (hws : ws.set q0 (a, .inr (cix k, fs.set j (.int v))) = ws')
    (hdg : decode cc pc = .ok (.putfield index, 3)) (kk : ∀ (H1 : Heap) (locs1 : List Loc), zB g s ws' H1 locs1 → W p l e R s m args below meth c H1 locs1 cells slots Q (F0 m (pc + 3) ls rest)) : W p l e R s m args below meth c H locs cells slots Q (F0 m pc ls (.int v :: .ref a :: rest)) := by
  have hf : (TX0 j).2.2.2 = true := by
    match j, hj with
    | 0, _ => rfl
    | 1, _ => rfl
    | 2, _ => rfl
    | 3, _ => rfl
    | 4, _ => rfl
    | n + 5, h => omega
  have hd : parseFieldDescriptor (TX0 j).2.2.1 = some .int := by
    rw [tyX0_ok j hj]
    match j, hj with
    | 0, _ => rfl
    | 1, _ => rfl
    | 2, _ => rfl
    | 3, _ => rfl
    | 4, _ => rfl
    | n + 5, h => omega
  have hr : (TX0 j).1 = RX0 := by
    match j, hj with
    | 0, _ => rfl
    | 1, _ => rfl
    | 2, _ => rfl
    | 3, _ => rfl
    | 4, _ => rfl
    | n + 5, h => omega
  have hs : ∀ x, s.fieldFound? (TX0 j).1 (TX0 j).2.1 (TX0 j).2.2.1 = some x → s.fieldFound? RX0 (TX0 j).2.1 (TX0 j).2.2.1 = some x := by rw [hr]; exact fun _ h => h
  match k, hk with
  | 0, _ => exact z_putF hE hB inX0 tyX0 tyX0_ok nmX0 q0 he rfl j hj hw hs hf hin2 hdecl hd rfl rfl hl hws hdg kk
  | 1, _ => exact z_putF hE hB inX2 tyX2 tyX2_ok nmX2 q0 he rfl j hj hw hs hf hin2 hdecl hd rfl rfl hl hws hdg kk
  | 2, _ => exact z_putF hE hB inX5 tyX5 tyX5_ok nmX5 q0 he rfl j hj hw hs hf hin2 hdecl hd rfl rfl hl hws hdg kk
  | 3, _ => exact z_putF hE hB inX3 tyX3 tyX3_ok nmX3 q0 he rfl j hj hw hs hf hin2 hdecl hd rfl rfl hl hws hdg kk
  | 4, _ => exact z_putF hE hB inX1 tyX1 tyX1_ok nmX1 q0 he rfl j hj hw hs hf hin2 hdecl hd rfl rfl hl hws hdg kk
  | 5, _ => exact z_putF hE hB inX7 tyX7 tyX7_ok nmX7 q0 he rfl j hj hw hs hf hin2 hdecl hd rfl rfl hl hws hdg kk
  | n + 6, h => omega
/-- a clause or none into a row of clauses -/
theorem z_nast {a n k : Nat} {f : Nat → Option Nat} {v : Option Nat} (hE : zE g p s m args c cc own nL meth) (hB : zB g s ws H locs) (q0 : Nat) (ha : ws[q0]? = some (a, .inl (gN g, n, .inr (.inr (.inr (.inr f)))))) (hk : k < n) (hn : n < 2 ^ 31) (hv : ∀ q, v = some q → ∃ k A F E W, k ≤ 5 ∧ (q, bE k A F E W) ∈ ws) {ws' : va_W} (hws : ws.set q0 (a, .inl (gN g, n, .inr (.inr (.inr (.inr (va_up f k v)))))) = ws') (hdg : decode cc pc = .ok (.aastore, 1))
    (kk : ∀ (H1 : Heap) (locs1 : List Loc), zB g s ws' H1 locs1 → W p l e R s m args below meth c H1 locs1 cells slots Q (F0 m (pc + 1) ls rest)) : W p l e R s m args below meth c H locs cells slots Q (F0 m pc ls (va_rf v :: .int (nI k) :: .ref a :: rest)) := by
  subst hws
  cases v with
  | none =>
    refine va_astqN (C := RX0) hE.x hE.b hE.K hB.1 hB.2.1 hB.2.2 q0 3 ha rfl (vp_in_nI hk hn) hdg fun H1 l1 h1 h2 h3 => kk H1 l1 ?_
    rw [nI_clamp (Nat.lt_trans hk hn)] at h1 h2
    exact ⟨h1, h2, h3⟩
  | some q =>
    obtain ⟨kd, A, F, E, W', hkd, hm⟩ := hv q rfl
    obtain ⟨i, hi⟩ := List.getElem?_of_mem hm
    have h9 : ∀ (H1 : Heap) (l1 : List Loc), va_P (gD g) vwCl (ws.set q0 (a, .inl (gN g, n, .inr (.inr (.inr (.inr (va_up f (nI k).toNatClampNeg (some q)))))))) H1 → va_D (zA (gz g)) (ws.set q0 (a, .inl (gN g, n, .inr (.inr (.inr (.inr (va_up f (nI k).toNatClampNeg (some q)))))))) → va_S (zA (gz g)) s.heap H1 l1 → W p l e R s m args below meth c H1 l1 cells slots Q (F0 m (pc + 1) ls rest) := by
      intro H1 l1 h1 h2 h3
      rw [nI_clamp (Nat.lt_trans hk hn)] at h1 h2
      exact kk H1 l1 ⟨h1, h2, h3⟩
    match kd, hkd with
    | 0, _ => exact va_astq (r := (RX0, TX0, 5)) hE.x hE.b hE.K hB.1 hB.2.1 hB.2.2 q0 3 i 0 ha rfl hi rfl (vp_in_nI hk hn) hdg h9
    | 1, _ => exact va_astqO (r := (RX2, TX2, 5)) (E := RX0) hE.x hE.b hE.K hB.1 hB.2.1 hB.2.2 q0 3 i 2 ha rfl hE.2.1.2.2.2.2.2.1 hi rfl (vp_in_nI hk hn) hdg h9
    | 2, _ => exact va_astqO (r := (RX5, TX5, 5)) (E := RX0) hE.x hE.b hE.K hB.1 hB.2.1 hB.2.2 q0 3 i 5 ha rfl hE.2.1.2.2.2.2.2.2.1 hi rfl (vp_in_nI hk hn) hdg h9
    | 3, _ => exact va_astqO (r := (RX3, TX3, 5)) (E := RX0) hE.x hE.b hE.K hB.1 hB.2.1 hB.2.2 q0 3 i 3 ha rfl hE.2.1.2.2.2.2.2.2.2.1 hi rfl (vp_in_nI hk hn) hdg h9
    | 4, _ => exact va_astqO (r := (RX1, TX1, 5)) (E := RX0) hE.x hE.b hE.K hB.1 hB.2.1 hB.2.2 q0 3 i 1 ha rfl hE.2.1.2.2.2.2.2.2.2.2.1 hi rfl (vp_in_nI hk hn) hdg h9
    | 5, _ => exact va_astqO (r := (RX7, TX7, 5)) (E := RX0) hE.x hE.b hE.K hB.1 hB.2.1 hB.2.2 q0 3 i 7 ha rfl hE.2.1.2.2.2.2.2.2.2.2.2 hi rfl (vp_in_nI hk hn) hdg h9
    | n + 6, h => omega
/-- a land into a row of lands -/
theorem z_mast {a n k v : Nat} {f : Nat → Option Nat} {fs : List Value} (hE : zE g p s m args c cc own nL meth) (hB : zB g s ws H locs) (q0 : Nat) (ha : ws[q0]? = some (a, .inl (gL g, n, .inr (.inr (.inr (.inr f)))))) (hk : k < n) (hn : n < 2 ^ 31) (qk : Nat) (hv : ws[qk]? = some (v, .inr (4, fs))) {ws' : va_W} (hws : ws.set q0 (a, .inl (gL g, n, .inr (.inr (.inr (.inr (va_up f k (some v))))))) = ws') (hdg : decode cc pc = .ok (.aastore, 1))
    (kk : ∀ (H1 : Heap) (locs1 : List Loc), zB g s ws' H1 locs1 → W p l e R s m args below meth c H1 locs1 cells slots Q (F0 m (pc + 1) ls rest)) : W p l e R s m args below meth c H locs cells slots Q (F0 m pc ls (.ref v :: .int (nI k) :: .ref a :: rest)) := by
  subst hws
  refine va_astq (r := (RX4, TX4, 12)) hE.x hE.b hE.K hB.1 hB.2.1 hB.2.2 q0 4 qk 4 ha rfl hv rfl (vp_in_nI hk hn) hdg fun H1 l1 h1 h2 h3 => kk H1 l1 ?_
  rw [nI_clamp (Nat.lt_trans hk hn)] at h1 h2
  exact ⟨h1, h2, h3⟩
/-- numbers copied from a row into a row -/
theorem z_copy {a a0 n0 n1 : Nat} {index : Nat} {f h : Nat → Int32} {sp dp n : Nat} (hE : zE g p s m args c cc own nL meth) (hB : zB g s ws H locs) (hsz : ls.size = nL) (hlink : Cond.methodLink own index arraycopyName ∈ TBL) (q0 q1 : Nat) (ha0 : ws[q0]? = some (a0, .inl (gI g, n0, .inl f))) (ha1 : ws[q1]? = some (a, .inl (gI g, n1, .inl h))) (hb : n0 < 1000 ∧ n1 < 1000) (h4 : sp + n ≤ n0) (h5 : dp + n ≤ n1)
    (hframes : 1 ≤ R.frames) (hlocals : (rest.map fun v => v.category).sum + (nativeFrameWords "java/lang/System" "arraycopy" 5 + 11) ≤ R.locals) {ws' : va_W} (hws : ws.set q1 (a, .inl (gI g, n1, .inl (va_cpy f h sp dp n))) = ws') (hdg : decode cc pc = .ok (.invokestatic index, 3))
    (kk : ∀ (H1 : Heap) (locs1 : List Loc), zB g s ws' H1 locs1 → W p l e R s m args below meth c H1 locs1 cells slots Q (F0 m (pc + 3) ls rest)) : W p l e R s m args below meth c H locs cells slots Q (F0 m pc ls (.int (nI n) :: .int (nI dp) :: .ref a :: .int (nI sp) :: .ref a0 :: rest)) := by
  subst hws
  have e1 : (nI sp).toNatClampNeg = sp := nI_clamp (by omega)
  have e2 : (nI dp).toNatClampNeg = dp := nI_clamp (by omega)
  have e3 : (nI n).toNatClampNeg = n := nI_clamp (by omega)
  refine va_copyi hE.x hE.b (by rw [hE.ml]; exact hsz.symm) hE.o (hE.t _ hlink) (hE.t _ q1_167) (hE.t _ q1_166) (hE.t _ q1_4) hE.K hB.1 hB.2.1 hB.2.2 q0 q1 1 1 ha0 ha1 rfl rfl rfl (nI_pos (by omega)) (nI_pos (by omega)) (nI_pos (by omega)) (by rw [e1, e3]; exact h4) (by rw [e2, e3]; exact h5) (fun _ _ => rfl) hframes hlocals hdg fun H1 l1 h1 h2 h3 => kk H1 l1 ?_
  rw [e1, e2, e3] at h1 h2
  exact ⟨h1, h2, h3⟩
end ZB2
