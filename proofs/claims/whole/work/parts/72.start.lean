/-! The start: what the Statement gives. -/
theorem arr_prim {s : State} {args : Array Value} {ty : FieldType} (h : (Cond.arrayClass ty).before args s = true) : ∃ cA : ClassId, ArrOfT s cA ty ∧ s.vm.findClass ("[" ++ ty.toString) = some cA := by
  obtain ⟨cA, k, comp, h1, h2, h3⟩ := Cond.arrayClass_spec h
  exact ⟨cA, fun n z => ⟨fun k h => (by cases h), k, h2, comp, h3⟩, h1⟩
theorem arr_obj {s : State} {args : Array Value} {C : String} (h : (Cond.arrayOver (.object C)).before args s = true) : ∃ cA : ClassId, ArrOfT s cA (.object C) ∧ va_RA s cA (.object C) := by
  obtain ⟨comp, c, k, h1, h2, h3, h4, h5⟩ := Cond.arrayOver_spec h
  exact ⟨c, fun n z => ⟨fun k h => (by cases h), k, h3, comp, h4⟩, k, comp, h3, h4, h1, h5⟩
def tmS (i : Nat) : Term := .string RX6 ([38, 51, 56, 61].getD i 0)
section ZST
variable {s : State} {b : Nat}
theorem st_ex (hgv : (Jvm.Cond.and given_1 narrow_1).before #[Value.ref b] s = true) : ∀ i : Nat, i < 4 → (Cond.exactly (tmS i) "java/lang/String").before #[Value.ref b] s = true := by
  have hs := flat_of_before _ hgv
  intro i hi
  match i, hi with
  | 0, _ => exact hs _ (by decide +kernel)
  | 1, _ => exact hs _ (by decide +kernel)
  | 2, _ => exact hs _ (by decide +kernel)
  | 3, _ => exact hs _ (by decide +kernel)
  | n + 4, h => omega
theorem st_co (hgv : (Jvm.Cond.and given_1 narrow_1).before #[Value.ref b] s = true) : ∀ i : Nat, i < 4 → (Cond.eq (.field (tmS i) "java/lang/String" "coder" "B") (.int 0)).before #[Value.ref b] s = true := by
  have hs := flat_of_before _ hgv
  intro i hi
  match i, hi with
  | 0, _ => exact hs _ (by decide +kernel)
  | 1, _ => exact hs _ (by decide +kernel)
  | 2, _ => exact hs _ (by decide +kernel)
  | 3, _ => exact hs _ (by decide +kernel)
  | n + 4, h => omega
theorem st_ar (hgv : (Jvm.Cond.and given_1 narrow_1).before #[Value.ref b] s = true) : ∀ i : Nat, i < 4 → (Cond.arrayOf (.field (tmS i) "java/lang/String" "value" "[B") .byte).before #[Value.ref b] s = true := by
  have hs := flat_of_before _ hgv
  intro i hi
  match i, hi with
  | 0, _ => exact hs _ (by decide +kernel)
  | 1, _ => exact hs _ (by decide +kernel)
  | 2, _ => exact hs _ (by decide +kernel)
  | 3, _ => exact hs _ (by decide +kernel)
  | n + 4, h => omega
theorem st_le (hgv : (Jvm.Cond.and given_1 narrow_1).before #[Value.ref b] s = true) : ∀ i : Nat, i < 4 → (Cond.eq (.length (.field (tmS i) "java/lang/String" "value" "[B")) (.int (Int32.ofNat (wdL.getD i 0)))).before #[Value.ref b] s = true := by
  have hs := flat_of_before _ hgv
  intro i hi
  match i, hi with
  | 0, _ => exact hs _ (by decide +kernel)
  | 1, _ => exact hs _ (by decide +kernel)
  | 2, _ => exact hs _ (by decide +kernel)
  | 3, _ => exact hs _ (by decide +kernel)
  | n + 4, h => omega
theorem st_el (hgv : (Jvm.Cond.and given_1 narrow_1).before #[Value.ref b] s = true) : ∀ i : Nat, i < 4 → ∀ j : Nat, j < wdL.getD i 0 → (Cond.eq (.elem (.field (tmS i) "java/lang/String" "value" "[B") (.int (Int32.ofNat j))) (.int ((wdB.getD i []).getD j 0))).before #[Value.ref b] s = true := by
  have hs := flat_of_before _ hgv
  intro i hi j hj
  match i, hi, j, hj with
  | 0, _, 0, _ => exact hs _ (by decide +kernel)
  | 0, _, 1, _ => exact hs _ (by decide +kernel)
  | 0, _, 2, _ => exact hs _ (by decide +kernel)
  | 0, _, 3, _ => exact hs _ (by decide +kernel)
  | 0, _, j + 4, h => exact absurd (show j + 4 < 4 from h) (by omega)
  | 1, _, 0, _ => exact hs _ (by decide +kernel)
  | 1, _, 1, _ => exact hs _ (by decide +kernel)
  | 1, _, 2, _ => exact hs _ (by decide +kernel)
  | 1, _, 3, _ => exact hs _ (by decide +kernel)
  | 1, _, j + 4, h => exact absurd (show j + 4 < 4 from h) (by omega)
  | 2, _, 0, _ => exact hs _ (by decide +kernel)
  | 2, _, 1, _ => exact hs _ (by decide +kernel)
  | 2, _, 2, _ => exact hs _ (by decide +kernel)
  | 2, _, 3, _ => exact hs _ (by decide +kernel)
  | 2, _, j + 4, h => exact absurd (show j + 4 < 4 from h) (by omega)
  | 3, _, 0, _ => exact hs _ (by decide +kernel)
  | 3, _, 1, _ => exact hs _ (by decide +kernel)
  | 3, _, 2, _ => exact hs _ (by decide +kernel)
  | 3, _, 3, _ => exact hs _ (by decide +kernel)
  | 3, _, 4, _ => exact hs _ (by decide +kernel)
  | 3, _, 5, _ => exact hs _ (by decide +kernel)
  | 3, _, j + 6, h => exact absurd (show j + 6 < 6 from h) (by omega)
  | i + 4, h, _, _ => omega
theorem st_ne (hgv : (Jvm.Cond.and given_1 narrow_1).before #[Value.ref b] s = true) : ∀ i j : Nat, i < 4 → j < 4 → i ≠ j → (Cond.not (Cond.eq (tmS i) (tmS j))).before #[Value.ref b] s = true ∨ (Cond.not (Cond.eq (tmS j) (tmS i))).before #[Value.ref b] s = true := by
  have hs := flat_of_before _ hgv
  intro i j hi hj hij
  match i, hi, j, hj with
  | 0, _, 0, _ => exact absurd rfl hij
  | 0, _, 1, _ => exact Or.inl (hs _ (by decide +kernel))
  | 0, _, 2, _ => exact Or.inl (hs _ (by decide +kernel))
  | 0, _, 3, _ => exact Or.inl (hs _ (by decide +kernel))
  | 1, _, 0, _ => exact Or.inr (hs _ (by decide +kernel))
  | 1, _, 1, _ => exact absurd rfl hij
  | 1, _, 2, _ => exact Or.inl (hs _ (by decide +kernel))
  | 1, _, 3, _ => exact Or.inl (hs _ (by decide +kernel))
  | 2, _, 0, _ => exact Or.inr (hs _ (by decide +kernel))
  | 2, _, 1, _ => exact Or.inr (hs _ (by decide +kernel))
  | 2, _, 2, _ => exact absurd rfl hij
  | 2, _, 3, _ => exact Or.inl (hs _ (by decide +kernel))
  | 3, _, 0, _ => exact Or.inr (hs _ (by decide +kernel))
  | 3, _, 1, _ => exact Or.inr (hs _ (by decide +kernel))
  | 3, _, 2, _ => exact Or.inr (hs _ (by decide +kernel))
  | 3, _, 3, _ => exact absurd rfl hij
  | i + 4, h, _, _ => omega
  | 0, _, j + 4, h => omega
  | 1, _, j + 4, h => omega
  | 2, _, j + 4, h => omega
  | 3, _, j + 4, h => omega
theorem start_GK (hts : ∀ w ∈ lw_tbl, w.before #[Value.ref b] s = true) (hgv : (Jvm.Cond.and given_1 narrow_1).before #[Value.ref b] s = true) : ∃ g : zG, gz g = s.heap.size ∧ GK g s := by
  have hs := flat_of_before _ hgv
  have hT : ∀ w ∈ TBL, w.before #[Value.ref b] s = true := fun w hw => hts w (TBL_lw hw)
  have hA : ∀ a : Nat, a < s.heap.size → ¬ zA s.heap.size a := fun a h z => absurd (show s.heap.size ≤ a from z) (by omega)
  obtain ⟨c0, i0, k0⟩ := u_known (C := RX0) (T := TX0) (N := 5) (n := 5) hT inX0 (hT _ q2_21)
  obtain ⟨c1, i1, k1⟩ := u_known (C := RX1) (T := TX1) (N := 5) (n := 5) hT inX1 (hT _ q1_237)
  obtain ⟨c2, i2, k2⟩ := u_known (C := RX2) (T := TX2) (N := 5) (n := 5) hT inX2 (hT _ q1_172)
  obtain ⟨c3, i3, k3⟩ := u_known (C := RX3) (T := TX3) (N := 5) (n := 5) hT inX3 (hT _ q1_225)
  obtain ⟨c4, i4, k4⟩ := u_known (C := RX4) (T := TX4) (N := 12) (n := 12) hT inX4 (hT _ q1_26)
  obtain ⟨c5, i5, k5⟩ := u_known (C := RX5) (T := TX5) (N := 5) (n := 5) hT inX5 (hT _ q1_213)
  obtain ⟨c6, i6, k6⟩ := u_known (C := RX6) (T := TX6) (N := 7) (n := 7) hT inX6 (hT _ q2_66)
  obtain ⟨c7, i7, k7⟩ := u_known (C := RX7) (T := TX7) (N := 5) (n := 5) hT inX7 (hT _ q2_9)
  obtain ⟨c8, i8, k8⟩ := u_known (C := RX8) (T := TX8) (N := 10) (n := 10) hT inX8 (hT _ q1_18)
  obtain ⟨c9, i9, k9⟩ := u_known (C := RX9) (T := TX9) (N := 23) (n := 23) hT inX9 (hT _ q3_236)
  obtain ⟨aB, B1, B2⟩ := arr_prim (hT _ q1_110)
  obtain ⟨aI, I1, I2⟩ := arr_prim (hT _ q1_77)
  obtain ⟨aZ, Z1, Z2⟩ := arr_prim (hT _ q4_71)
  obtain ⟨aN, N1, N2⟩ := arr_obj (hts _ q1_32)
  obtain ⟨aL, L1, L2⟩ := arr_obj (hts _ q1_78)
  obtain ⟨adK, adV, hV, hev⟩ := vk_Sof (N := 4) (tm := tmS) (len := wdL) (byt := wdB) (A := zA s.heap.size) (by decide) (st_ex hgv) (st_co hgv) (st_ar hgv) (st_le hgv) (st_el hgv) (st_ne hgv) hA
  refine ⟨((fun k => match k with | 0 => c0 | 1 => c1 | 2 => c2 | 3 => c3 | 4 => c4 | 5 => c5 | 6 => c6 | 7 => c7 | 8 => c8 | _ => c9, fun k => match k with | 0 => i0 | 1 => i1 | 2 => i2 | 3 => i3 | 4 => i4 | 5 => i5 | 6 => i6 | 7 => i7 | 8 => i8 | _ => i9), (aB, aI, aZ, aN, aL), adK, adV, s.heap.size), rfl, ⟨fun c q hq => ?_, fun k q hq => ?_⟩, ?_, ⟨hV, ⟨vk_R.of (hts _ q2_108) (hev 0 (by decide)), vk_R.of (hts _ q2_169) (hev 1 (by decide)), vk_R.of (hts _ q2_180) (hev 2 (by decide)), vk_R.of (hts _ q2_186) (hev 3 (by decide))⟩, va_Zof (hts _ q2_122) (hT _ q1_12) (va_eqt (hs _ (by decide +kernel))) hA, va_Zqof (hts _ q2_138) (hT _ q1_14) (hs _ (by decide +kernel)) hA⟩, va_AO.of (hts _ q1_32), va_AO.of (hts _ q1_78), ?_⟩
  · match c, hq with
    | 0, hq => cases hq; exact k0
    | 1, hq => cases hq; exact k1
    | 2, hq => cases hq; exact k2
    | 3, hq => cases hq; exact k3
    | 4, hq => cases hq; exact k4
    | 5, hq => cases hq; exact k5
    | 6, hq => cases hq; exact k6
    | 7, hq => cases hq; exact k7
    | 8, hq => cases hq; exact k8
    | 9, hq => cases hq; exact k9
    | n + 10, hq => simp [vwCl] at hq
  · match k, hq with
    | 0, hq => cases hq; exact ⟨B1, B2⟩
    | 1, hq => cases hq; exact ⟨I1, I2⟩
    | 2, hq => cases hq; exact ⟨Z1, Z2⟩
    | 3, hq => cases hq; exact ⟨N1, N2⟩
    | 4, hq => cases hq; exact ⟨L1, L2⟩
    | n + 5, hq => simp at hq
  · exact ⟨va_Nw.of rfl (hts _ q1_27), va_Nw.of rfl (hts _ q2_178), va_Nw.of rfl (hts _ q2_191), va_Nw.of rfl (hts _ q3_49), va_Nw.of rfl (hts _ q3_68), va_Nw.of rfl (hts _ q3_163), va_Nw.of rfl (hts _ q3_231)⟩
  · exact ⟨va_Nw.of rfl (hts _ q5_149), va_Nw.of rfl (hts _ q5_150), va_Nw.of rfl (hts _ q5_151), va_Nw.of rfl (hts _ q5_152), va_Nw.of rfl (hts _ q5_153)⟩
end ZST
theorem pm_st {z a b c : va_W} : (z ++ (a ++ (b ++ (c ++ [])))).Perm (a ++ (b ++ (c ++ ([] ++ ([] ++ ([] ++ z)))))) := by
  have h := List.perm_append_comm (l₁ := z) (l₂ := a ++ (b ++ c))
  simp only [List.append_assoc] at h
  simp only [List.append_nil, List.nil_append]
  exact h
theorem nOK_st : nOK (fun _ => 0) 0 0 0 0 := ⟨⟨rfl, by omega⟩, ⟨rfl, by omega⟩, ⟨rfl, by omega⟩, ⟨rfl, by omega⟩, fun i _ => ⟨0, by omega, rfl⟩, fun k hk => absurd hk (by omega), fun j hj => absurd hj (by omega)⟩
theorem bN_st {N : Nat} {B : va_W} : bN (fun _ => none) N B := fun x _ q hq => (by cases hq)
theorem relL_st {B : va_W} : relL (fun _ => 0) 0 0 0 0 (fun _ => 0) (fun _ => 0) (fun _ => none) (fun _ => none) (fun _ => 0) (fun _ => 0) B := ⟨fun t ht => absurd ht (by omega), fun i _ => rfl, fun c hc => absurd hc (by omega), fun k hk => absurd hk (by omega), fun j hj => absurd hj (by omega), bN_st, bN_st⟩
theorem LI_st {g : zG} {x9 o d r im tx : Nat} {a a1 a2 : Nat → Nat} : LI g x9 o a (mW g o a (fun _ => 0) (vp_updL (fun _ => 0) 5 (lN 1)) (fun _ _ => 0) ++ (xW g x9 d r im tx (nI 0) (nI 0) (nI 1) (nI 0) (nI 0) (nI 0) (fun _ => 0) (fun _ => none) ++ (lW g d a1 (nI 0) (nI 0) (nI 0) (nI 0) (fun _ => 0) (fun _ => 0) (fun _ => none) (fun _ => none) (fun _ => 0) (fun _ => 0) (fun _ => 0) (fun _ => 0) ++ (lW g r a2 (nI 0) (nI 0) (nI 0) (nI 0) (fun _ => 0) (fun _ => 0) (fun _ => none) (fun _ => none) (fun _ => 0) (fun _ => 0) (fun _ => 0) (fun _ => 0) ++ [])))) := by
  refine ⟨fun _ => 0, vp_updL (fun _ => 0) 5 (lN 1), fun _ _ => 0, 0, 0, 0, 0, 0, rfl, im, tx, nI 0, nI 1, fun _ => 0, fun _ => none, [], [], d, r, a1, a2, fun _ => 0, fun _ => 0, fun _ => none, fun _ => none, fun _ => 0, fun _ => 0, fun _ => 0, fun _ => 0, 0, 0, 0, 0, fun _ => 0, fun _ => 0, fun _ => none, fun _ => none, fun _ => 0, fun _ => 0, fun _ => 0, fun _ => 0, [], pm_st, nOK_st, relL_st, ⟨bN_st, bN_st⟩, Or.inl ⟨rfl, rfl, rfl⟩, Or.inl ⟨rfl, rfl, rfl⟩, ?_, ?_, fun i hi => absurd hi (by omega), by omega, fun k hk => absurd hk (by omega)⟩
  · show (0 : Int64) = (nI 0).toInt64
    decide
  · show lN 1 = (nI 1).toInt64
    exact (nI_l (by omega)).symm
