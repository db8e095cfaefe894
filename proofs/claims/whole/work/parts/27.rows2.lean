/-! Worlds in another order; new cells; cells by membership; calls by the receiver's class. -/
theorem zD_iff {A : Nat → Prop} {ws : va_W} : va_D A ws ↔ ((ws.map Prod.fst).Nodup ∧ ∀ x ∈ ws, A x.1) := by
  constructor
  · rintro ⟨h1, h2⟩
    refine ⟨?_, fun x hx => ?_⟩
    · rw [List.nodup_iff_pairwise_ne] at *
      rw [List.pairwise_iff_getElem]
      intro i j hi hj hij h
      simp only [List.length_map] at hi hj
      have := h1 i j ws[i] ws[j] (List.getElem?_eq_getElem hi) (List.getElem?_eq_getElem hj) (by simpa using h)
      omega
    · obtain ⟨i, hi⟩ := List.getElem?_of_mem hx
      exact h2 i x hi
  · rintro ⟨h1, h2⟩
    refine ⟨fun i j p q hp hq e => ?_, fun k q hq => h2 q (List.mem_of_getElem? hq)⟩
    rw [List.nodup_iff_pairwise_ne, List.pairwise_iff_getElem] at h1
    obtain ⟨hi, ei⟩ := List.getElem?_eq_some_iff.mp hp
    obtain ⟨hj, ej⟩ := List.getElem?_eq_some_iff.mp hq
    rcases Nat.lt_trichotomy i j with h | h | h
    · have k : (ws.map Prod.fst)[i]'(by simpa using hi) = (ws.map Prod.fst)[j]'(by simpa using hj) := by
        simp only [List.getElem_map]; rw [ei, ej]; exact e
      exact absurd k (h1 i j (by simpa using hi) (by simpa using hj) h)
    · exact h
    · have k : (ws.map Prod.fst)[j]'(by simpa using hj) = (ws.map Prod.fst)[i]'(by simpa using hi) := by
        simp only [List.getElem_map]; rw [ei, ej]; exact e.symm
      exact absurd k (h1 j i (by simpa using hj) (by simpa using hi) h)
theorem zP_iff {D : va_G} {cl : List vw_C} {ws : va_W} {H : Heap} : va_P D cl ws H ↔ ∀ x ∈ ws, va_at D cl x H := by
  constructor
  · intro h x hx
    obtain ⟨i, hi⟩ := List.getElem?_of_mem hx
    exact h i x hi
  · intro h k q hq
    exact h q (List.mem_of_getElem? hq)
theorem zB_perm {g : zG} {s : State} {ws ws' : va_W} {H : Heap} {locs : List Loc} (hB : zB g s ws H locs) (h : ws.Perm ws') : zB g s ws' H locs := by
  obtain ⟨h1, h2, h3⟩ := hB
  refine ⟨zP_iff.mpr fun x hx => zP_iff.mp h1 x (h.mem_iff.mpr hx), zD_iff.mpr ⟨?_, fun x hx => (zD_iff.mp h2).2 x (h.mem_iff.mpr hx)⟩, h3⟩
  exact (List.Perm.nodup_iff (h.map Prod.fst)).mp (zD_iff.mp h2).1
theorem zB_sub {g : zG} {s : State} {ws ws' : va_W} {H : Heap} {locs : List Loc} (hB : zB g s ws H locs) (h : ws'.Sublist ws) : zB g s ws' H locs := by
  obtain ⟨h1, h2, h3⟩ := hB
  exact ⟨zP_iff.mpr fun x hx => zP_iff.mp h1 x (h.subset hx), zD_iff.mpr ⟨(zD_iff.mp h2).1.sublist (h.map Prod.fst), fun x hx => (zD_iff.mp h2).2 x (h.subset hx)⟩, h3⟩
section ZN
variable {p : Program} {l : Launch} {e : Env} {R : Room} {s : State} {m : MethodId} {args : Array Value} {below : List Frame} {meth : Method} {c : Code} {H : Heap} {locs : List Loc} {cells slots : Nat} {Q : State → Prop}
variable {cc : ByteArray} {pc nL : Nat} {own : String} {ls : Array Slot} {rest st : List Value} {g : zG} {ws : va_W}
theorem zB_front {x : Nat × va_E} (h1 : va_P (gD g) vwCl (ws ++ [x]) H) (h2 : va_D (zA (gz g)) (ws ++ [x])) (h3 : va_S (zA (gz g)) s.heap H locs) : zB g s ([x] ++ ws) H locs := zB_perm ⟨h1, h2, h3⟩ List.perm_append_comm
theorem z_newI {n : Nat} (hE : zE g p s m args c cc own nL meth) (hB : zB g s ws H locs) (w : Cond.arrayClass .int ∈ TBL) (hn : n < 1000) (hc : cells + 1 ≤ R.cells) (hs : slots + n ≤ R.slots) (hdg : decode cc pc = .ok (.newarray .int, 2))
    (kk : ∀ (q : Nat) (H1 : Heap), zB g s ([(q, .inl (gI g, n, .inl (fun _ => 0)))] ++ ws) H1 locs → W p l e R s m args below meth c H1 locs (cells + 1) (slots + n) Q (F0 m (pc + 2) ls (.ref q :: rest))) : W p l e R s m args below meth c H locs cells slots Q (F0 m pc ls (.int (nI n) :: rest)) := by
  refine va_newa (atype := .int) (ty := .int) (N' := n) (a0 := (n, .inl (fun _ => 0))) hE.x hE.b (hE.t _ w) rfl hE.K hB.1 hB.2.1 hB.2.2 hE.A (fun cA => rfl) (nI_pos (by omega)) (nI_clamp (by omega)) (by show n * 4 ≤ _; omega) hc hs hdg fun q cA H1 hK h1 h2 h3 => ?_
  have e : cA = gI g := by
    have a1 := (hK.2 5 (cA, .int) rfl).2
    have a2 := (hE.K.2 1 (gI g, .int) rfl).2
    exact Option.some.inj (a1.symm.trans a2)
  subst e
  exact kk q H1 (zB_front h1 h2 h3)
theorem z_newB {n : Nat} (hE : zE g p s m args c cc own nL meth) (hB : zB g s ws H locs) (w : Cond.arrayClass .byte ∈ TBL) (hn : n < 1000) (hc : cells + 1 ≤ R.cells) (hs : slots + n ≤ R.slots) (hdg : decode cc pc = .ok (.newarray .byte, 2))
    (kk : ∀ (q : Nat) (H1 : Heap), zB g s ([(q, .inl (gB g, n, .inl (fun _ => 0)))] ++ ws) H1 locs → W p l e R s m args below meth c H1 locs (cells + 1) (slots + n) Q (F0 m (pc + 2) ls (.ref q :: rest))) : W p l e R s m args below meth c H locs cells slots Q (F0 m pc ls (.int (nI n) :: rest)) := by
  refine va_newa (atype := .byte) (ty := .byte) (N' := n) (a0 := (n, .inl (fun _ => 0))) hE.x hE.b (hE.t _ w) rfl hE.K hB.1 hB.2.1 hB.2.2 hE.A (fun cA => rfl) (nI_pos (by omega)) (nI_clamp (by omega)) (by show n * 1 ≤ _; omega) hc hs hdg fun q cA H1 hK h1 h2 h3 => ?_
  have e : cA = gB g := by
    have a1 := (hK.2 5 (cA, .byte) rfl).2
    have a2 := (hE.K.2 0 (gB g, .byte) rfl).2
    exact Option.some.inj (a1.symm.trans a2)
  subst e
  exact kk q H1 (zB_front h1 h2 h3)
theorem z_newZ {n : Nat} (hE : zE g p s m args c cc own nL meth) (hB : zB g s ws H locs) (w : Cond.arrayClass .boolean ∈ TBL) (hn : n < 1000) (hc : cells + 1 ≤ R.cells) (hs : slots + n ≤ R.slots) (hdg : decode cc pc = .ok (.newarray .boolean, 2))
    (kk : ∀ (q : Nat) (H1 : Heap), zB g s ([(q, .inl (gZ g, n, .inl (fun _ => 0)))] ++ ws) H1 locs → W p l e R s m args below meth c H1 locs (cells + 1) (slots + n) Q (F0 m (pc + 2) ls (.ref q :: rest))) : W p l e R s m args below meth c H locs cells slots Q (F0 m pc ls (.int (nI n) :: rest)) := by
  refine va_newa (atype := .boolean) (ty := .boolean) (N' := n) (a0 := (n, .inl (fun _ => 0))) hE.x hE.b (hE.t _ w) rfl hE.K hB.1 hB.2.1 hB.2.2 hE.A (fun cA => rfl) (nI_pos (by omega)) (nI_clamp (by omega)) (by show n * 1 ≤ _; omega) hc hs hdg fun q cA H1 hK h1 h2 h3 => ?_
  have e : cA = gZ g := by
    have a1 := (hK.2 5 (cA, .boolean) rfl).2
    have a2 := (hE.K.2 2 (gZ g, .boolean) rfl).2
    exact Option.some.inj (a1.symm.trans a2)
  subst e
  exact kk q H1 (zB_front h1 h2 h3)
theorem z_newN {n index : Nat} (hE : zE g p s m args c cc own nL meth) (hB : zB g s ws H locs) (w : Cond.classLink own index "BanLand$Ban" ∈ TBL) (hn : n < 1000) (hc : cells + 1 ≤ R.cells) (hs : slots + n ≤ R.slots) (hdg : decode cc pc = .ok (.anewarray index, 3))
    (kk : ∀ (q : Nat) (H1 : Heap), zB g s ([(q, .inl (gN g, n, .inr (.inr (.inr (.inr (fun _ => none))))))] ++ ws) H1 locs → W p l e R s m args below meth c H1 locs (cells + 1) (slots + n) Q (F0 m (pc + 3) ls (.ref q :: rest))) : W p l e R s m args below meth c H locs cells slots Q (F0 m pc ls (.int (nI n) :: rest)) := by
  refine va_newq (C := "BanLand$Ban") (N' := n) hE.x hE.b hE.o (hE.t _ w) hE.2.1.2.2.2.1 hE.K hB.1 hB.2.1 hB.2.2 hE.A (nI_pos (by omega)) (nI_clamp (by omega)) (by omega) hc hs hdg fun q cA H1 hK h1 h2 h3 => ?_
  have e : cA = gN g := by
    obtain ⟨-, -, -, -, -, a1⟩ := (hK.2 5 (cA, .object "BanLand$Ban") rfl).2
    obtain ⟨-, -, -, -, -, a2⟩ := (hE.K.2 3 (gN g, .object "BanLand$Ban") rfl).2
    exact Option.some.inj (a1.symm.trans a2)
  subst e
  exact kk q H1 (zB_front h1 h2 h3)
theorem z_newM {n index : Nat} (hE : zE g p s m args c cc own nL meth) (hB : zB g s ws H locs) (w : Cond.classLink own index "BanLand$Land" ∈ TBL) (hn : n < 1000) (hc : cells + 1 ≤ R.cells) (hs : slots + n ≤ R.slots) (hdg : decode cc pc = .ok (.anewarray index, 3))
    (kk : ∀ (q : Nat) (H1 : Heap), zB g s ([(q, .inl (gL g, n, .inr (.inr (.inr (.inr (fun _ => none))))))] ++ ws) H1 locs → W p l e R s m args below meth c H1 locs (cells + 1) (slots + n) Q (F0 m (pc + 3) ls (.ref q :: rest))) : W p l e R s m args below meth c H locs cells slots Q (F0 m pc ls (.int (nI n) :: rest)) := by
  refine va_newq (C := "BanLand$Land") (N' := n) hE.x hE.b hE.o (hE.t _ w) hE.2.1.2.2.2.2.1 hE.K hB.1 hB.2.1 hB.2.2 hE.A (nI_pos (by omega)) (nI_clamp (by omega)) (by omega) hc hs hdg fun q cA H1 hK h1 h2 h3 => ?_
  have e : cA = gL g := by
    obtain ⟨-, -, -, -, -, a1⟩ := (hK.2 5 (cA, .object "BanLand$Land") rfl).2
    obtain ⟨-, -, -, -, -, a2⟩ := (hE.K.2 4 (gL g, .object "BanLand$Land") rfl).2
    exact Option.some.inj (a1.symm.trans a2)
  subst e
  exact kk q H1 (zB_front h1 h2 h3)
theorem z_new {C : String} {T : u_T} {N ci index : Nat} {fs : List Value} (hE : zE g p s m args c cc own nL meth) (hB : zB g s ws H locs) (hin : ∀ w ∈ u_ws C T N, w ∈ TBL) (ty : Nat → FieldType) (hty : ∀ k, k < N → parseFieldDescriptor (T k).2.2.1 = some (ty k)) (w1 : Cond.classLink own index C ∈ TBL) (w2 : Cond.instantiable C N ∈ TBL) (w3 : Cond.initialized C ∈ TBL) (hc : vwCl[ci]? = some (C, T, N)) (hfs : ∀ j, j < N → defaultValue (ty j) = vp_V fs j) (hcells : cells + 1 ≤ R.cells) (hslots : slots + N ≤ R.slots) (hdg : decode cc pc = .ok (.new index, 3))
    (kk : ∀ (q : Nat) (H1 : Heap), zB g s ([(q, .inr (ci, fs))] ++ ws) H1 locs → W p l e R s m args below meth c H1 locs (cells + 1) (slots + N) Q (F0 m (pc + 3) ls (.ref q :: rest))) : W p l e R s m args below meth c H locs cells slots Q (F0 m pc ls rest) :=
  va_new (fs := fs) hE.x hE.b hE.t hin ty hty hE.o (hE.t _ w1) (hE.t _ w2) (hE.t _ w3) hE.K hB.1 hB.2.1 hB.2.2 hE.A hc hfs hcells hslots hdg fun q H1 h1 h2 h3 => kk q H1 (zB_front h1 h2 h3)
/-- a field of a cell of the world, wherever it stands -/
theorem z_getm {a : Nat} (hE : zE g p s m args c cc own nL meth) (hB : zB g s ws H locs) {ref C : String} {T : u_T} {N ci index : Nat} (hin : ∀ w ∈ u_ws C T N, w ∈ TBL) {fs : List Value} (he : (a, .inr (ci, fs)) ∈ ws) (hc : vwCl[ci]? = some (C, T, N)) (k : Nat) (hk : k < N) (hw : Cond.fieldLink own index ref (T k).2.1 (T k).2.2.1 ∈ TBL) (hsame : ∀ x, s.fieldFound? (T k).1 (T k).2.1 (T k).2.2.1 = some x → s.fieldFound? ref (T k).2.1 (T k).2.2.1 = some x) {v : Value} (hv : fs[k]? = some v) (hdg : decode cc pc = .ok (.getfield index, 3))
    (kk : W p l e R s m args below meth c H locs cells slots Q (F0 m (pc + 3) ls (v :: rest))) : W p l e R s m args below meth c H locs cells slots Q (F0 m pc ls (.ref a :: rest)) := by
  obtain ⟨i, hi⟩ := List.getElem?_of_mem he
  exact z_get hE hB hin i hi hc k hk hw hsame hv hdg kk
theorem z_cU {x y : MethodName} {C owner : String} {T : u_T} {bytes : ByteArray} {maxL mc ms n index ci N b : Nat} {ret : Option FieldType} {rm : Room} {Qc : Array Value → State → Outcome → State → Prop} {As : List Value} {fs : List Value} (hE : zE g p s m args c cc own nL meth) (hB : zB g s ws H locs)
    (hM : Met l y (Cond.code y bytes maxL ret :: TBL) rm (zPc (.ref b :: As) g ws) Qc mc ms (zA (gz g))) (w1 : Cond.methodLink own index x ∈ TBL) (w2 : Cond.sameMethod x.cls owner x.name x.desc ∈ TBL) (w3 : Cond.selects C x y ∈ TBL) (w4 : Cond.instanceMethod y ∈ TBL) (w5 : Cond.initialized y.cls ∈ TBL) (w6 : Cond.code y bytes maxL ret ∈ TBL) (hyx : y = ⟨owner, x.name, x.desc⟩) (hd : owner ≠ "java/lang/invoke/MethodHandle" ∧ owner ≠ "java/lang/invoke/VarHandle" ∧ (parseMethodDescriptor x.desc).map (fun d => d.parameters.length) = some n) (hrm : rm.cells = mc ∧ rm.slots = ms) (hR : rm.frames + 1 ≤ R.frames ∧ 8 + (maxL + 11) + rm.locals ≤ R.locals) (he : (b, .inr (ci, fs)) ∈ ws) (hc : vwCl[ci]? = some (C, T, N)) (hn : As.length = n) (hsize : ls.size = nL) (hst : st = As.reverse ++ .ref b :: rest) (hW : (rest.map fun v => v.category).sum ≤ 8) (hdg : decode cc pc = .ok (.invokevirtual index, 3)) (hf : cells + mc ≤ R.cells ∧ slots + ms ≤ R.slots) :
    va_Run p l e R s m args below meth c H locs cells slots mc ms (F0 m pc ls st) rest (Qc (Value.ref b :: As).toArray) (zA (gz g)) := by
  obtain ⟨i, hi⟩ := List.getElem?_of_mem he
  refine va_runU (Ts := TBL) (own := own) (C := C) (owner := owner) (x := x) hE.1 hM (va_cwU n hE.t (fun w hw => ?_) rfl hrm.1 hrm.2 hyx hd hR) ⟨zPc_blind, va_recv hE.K hB.1 hc hi, fun U hU hW => ⟨rfl, hB.in hE U hU hW⟩⟩ rfl hn hsize hst (lv_room (ls := ls) hW) hdg hf
  unfold va_wsU at hw
  rcases List.mem_append.mp hw with h | h
  · rcases List.mem_cons.mp h with rfl | h
    · exact TBL_good _ w1
    rcases List.mem_cons.mp h with rfl | h
    · exact TBL_good _ w2
    rcases List.mem_cons.mp h with rfl | h
    · exact TBL_good _ w3
    rcases List.mem_cons.mp h with rfl | h
    · exact TBL_good _ w4
    rcases List.mem_cons.mp h with rfl | h
    · exact TBL_good _ w5
    · cases h
  · exact TBL_cons w6 w h
theorem z_cO {x y : MethodName} {C owner : String} {T : u_T} {bytes : ByteArray} {maxL mc ms n index ci N b : Nat} {ret : Option FieldType} {rm : Room} {Qc : Array Value → State → Outcome → State → Prop} {As : List Value} {fs : List Value} {b0 : ByteArray} {m0 : Nat} {r0 : Option FieldType} (hE : zE g p s m args c cc own nL meth) (hB : zB g s ws H locs)
    (hM : Met l y (Cond.code y bytes maxL ret :: TBL) rm (zPc (.ref b :: As) g ws) Qc mc ms (zA (gz g))) (w1 : Cond.methodLink own index x ∈ TBL) (w2 : Cond.sameMethod x.cls owner x.name x.desc ∈ TBL) (w0 : Cond.instanceMethod ⟨owner, x.name, x.desc⟩ ∈ TBL) (w3 : Cond.selects C x y ∈ TBL) (w4 : Cond.instanceMethod y ∈ TBL) (w5 : Cond.initialized y.cls ∈ TBL) (w6 : Cond.code y bytes maxL ret ∈ TBL) (w7 : Cond.code ⟨owner, x.name, x.desc⟩ b0 m0 r0 ∈ TBL) (hd : owner ≠ "java/lang/invoke/MethodHandle" ∧ owner ≠ "java/lang/invoke/VarHandle" ∧ (parseMethodDescriptor x.desc).map (fun d => d.parameters.length) = some n) (hrm : rm.cells = mc ∧ rm.slots = ms) (hR : rm.frames + 1 ≤ R.frames ∧ 8 + (maxL + 11) + rm.locals ≤ R.locals) (he : (b, .inr (ci, fs)) ∈ ws) (hc : vwCl[ci]? = some (C, T, N)) (hn : As.length = n) (hsize : ls.size = nL) (hst : st = As.reverse ++ .ref b :: rest) (hW : (rest.map fun v => v.category).sum ≤ 8) (hdg : decode cc pc = .ok (.invokevirtual index, 3)) (hf : cells + mc ≤ R.cells ∧ slots + ms ≤ R.slots) :
    va_Run p l e R s m args below meth c H locs cells slots mc ms (F0 m pc ls st) rest (Qc (Value.ref b :: As).toArray) (zA (gz g)) := by
  obtain ⟨i, hi⟩ := List.getElem?_of_mem he
  refine va_runU (Ts := TBL) (own := own) (C := C) (owner := owner) (x := x) hE.1 hM (va_cwO n hE.t (fun w hw => ?_) rfl hrm.1 hrm.2 w7 hd hR) ⟨zPc_blind, va_recv hE.K hB.1 hc hi, fun U hU hW => ⟨rfl, hB.in hE U hU hW⟩⟩ rfl hn hsize hst (lv_room (ls := ls) hW) hdg hf
  unfold va_wsO at hw
  rcases List.mem_append.mp hw with h | h
  · rcases List.mem_cons.mp h with rfl | h
    · exact TBL_good _ w1
    rcases List.mem_cons.mp h with rfl | h
    · exact TBL_good _ w2
    rcases List.mem_cons.mp h with rfl | h
    · exact TBL_good _ w0
    rcases List.mem_cons.mp h with rfl | h
    · exact TBL_good _ w3
    rcases List.mem_cons.mp h with rfl | h
    · exact TBL_good _ w4
    rcases List.mem_cons.mp h with rfl | h
    · exact TBL_good _ w5
    · cases h
  · exact TBL_cons w6 w h
theorem z_cVm {y : MethodName} {C : String} {T : u_T} {bytes : ByteArray} {maxL mc ms n index ci N b : Nat} {ret : Option FieldType} {rm : Room} {Qc : Array Value → State → Outcome → State → Prop} {As : List Value} {fs : List Value} (hE : zE g p s m args c cc own nL meth) (hB : zB g s ws H locs)
    (hM : Met l y (Cond.code y bytes maxL ret :: TBL) rm (zPc (.ref b :: As) g ws) Qc mc ms (zA (gz g))) (w1 : Cond.methodLink own index y ∈ TBL) (kC : zCV y C bytes maxL ret n) (hrm : rm.cells = mc ∧ rm.slots = ms) (hR : rm.frames + 1 ≤ R.frames ∧ 8 + (maxL + 11) + rm.locals ≤ R.locals) (he : (b, .inr (ci, fs)) ∈ ws) (hc : vwCl[ci]? = some (C, T, N)) (hn : As.length = n) (hsize : ls.size = nL) (hst : st = As.reverse ++ .ref b :: rest) (hW : (rest.map fun v => v.category).sum ≤ 8) (hdg : decode cc pc = .ok (.invokevirtual index, 3)) (hf : cells + mc ≤ R.cells ∧ slots + ms ≤ R.slots) :
    va_Run p l e R s m args below meth c H locs cells slots mc ms (F0 m pc ls st) rest (Qc (Value.ref b :: As).toArray) (zA (gz g)) := by
  obtain ⟨i, hi⟩ := List.getElem?_of_mem he
  exact z_cV hE hB hM w1 kC hrm hR i hi hc hn hsize hst hW hdg hf
end ZN
