/-! What every method's proof shares: the world's words (zG), a method's start (zE), the cells as they move (zB), contracts (zPc, zQi ..), rows. -/
abbrev zG : Type := va_G × (ClassId × ClassId × ClassId × ClassId × ClassId) × (Nat → Nat) × (Nat → Nat) × Nat
abbrev gD (g : zG) : va_G := g.1
abbrev gB (g : zG) : ClassId := g.2.1.1
abbrev gI (g : zG) : ClassId := g.2.1.2.1
abbrev gZ (g : zG) : ClassId := g.2.1.2.2.1
abbrev gN (g : zG) : ClassId := g.2.1.2.2.2.1
abbrev gL (g : zG) : ClassId := g.2.1.2.2.2.2
abbrev gAK (g : zG) : Nat → Nat := g.2.2.1
abbrev gAV (g : zG) : Nat → Nat := g.2.2.2.1
abbrev gz (g : zG) : Nat := g.2.2.2.2
abbrev gT (g : zG) : List (ClassId × FieldType) := [(gB g, .byte), (gI g, .int), (gZ g, .boolean), (gN g, .object "BanLand$Ban"), (gL g, .object "BanLand$Land")]
def zA (z : Nat) : Nat → Prop := fun q => z ≤ q
def bI (b : Bool) : Int32 := if b then 1 else 0
theorem bI_t : bI true = 1 := rfl
theorem bI_f : bI false = 0 := rfl
/-- the links between nest mates -/
def NW (U : State) : Prop := va_Nw (Cond.methodLinkNest RX8 9 yX4_init RX8) U ∧ va_Nw (Cond.methodLinkNest RX6 94 yX8_within RX8) U ∧ va_Nw (Cond.methodLinkNest RX6 86 yX8_told RX8) U ∧ va_Nw (Cond.methodLinkNest RX4 105 yX8_deciding RX8) U ∧ va_Nw (Cond.methodLinkNest RX4 109 yX8_forbidden RX8) U ∧ va_Nw (Cond.methodLinkNest RX4 66 yX8_asker RX8) U ∧ va_Nw (Cond.methodLinkNest RX4 119 yX8_mixed RX8) U
theorem NW.warm {s U : State} (hW : s.WarmedH U.vm) (h : NW s) : NW U := ⟨va_Nw.warmM hW h.1, va_Nw.warmM hW h.2.1, va_Nw.warmM hW h.2.2.1, va_Nw.warmM hW h.2.2.2.1, va_Nw.warmM hW h.2.2.2.2.1, va_Nw.warmM hW h.2.2.2.2.2.1, va_Nw.warmM hW h.2.2.2.2.2.2⟩
theorem NW.same {u U : State} (hv : u.vm = U.vm) (h : NW u) : NW U := ⟨va_Nw.same rfl hv h.1, va_Nw.same rfl hv h.2.1, va_Nw.same rfl hv h.2.2.1, va_Nw.same rfl hv h.2.2.2.1, va_Nw.same rfl hv h.2.2.2.2.1, va_Nw.same rfl hv h.2.2.2.2.2.1, va_Nw.same rfl hv h.2.2.2.2.2.2⟩
/-- the words of the language, as bytes -/
def wdL : List Nat := [4, 4, 4, 6]
def wdB : List (List Int32) := [[108, 97, 110, 100], [116, 111, 119, 110], [114, 111, 97, 100], [99, 108, 97, 117, 115, 101]]
/-- strings, and the statics that their methods read -/
def SK (g : zG) (U : State) : Prop := vk_S 4 wdL wdB (gAK g) (gAV g) (zA (gz g)) U U.heap ∧ (vk_R RX6 38 "land" (gAK g 0) U ∧ vk_R RX6 51 "town" (gAK g 1) U ∧ vk_R RX6 56 "road" (gAK g 2) U ∧ vk_R RX6 61 "clause" (gAK g 3) U) ∧ va_Z "java/lang/String" "COMPACT_STRINGS" "Z" (.int 1) (zA (gz g)) U U.heap ∧ va_Zq "jdk/internal/util/Preconditions" "SIOOBE_FORMATTER" "Ljava/util/function/BiFunction;" (zA (gz g)) U U.heap
/-- every clause's class fits where a clause stands -/
def CW (U : State) : Prop := va_Nw (Cond.castable RX2 RX0) U ∧ va_Nw (Cond.castable RX5 RX0) U ∧ va_Nw (Cond.castable RX3 RX0) U ∧ va_Nw (Cond.castable RX1 RX0) U ∧ va_Nw (Cond.castable RX7 RX0) U
theorem CW.warm {s U : State} (hW : s.WarmedH U.vm) (h : CW s) : CW U := ⟨va_Nw.warmC hW h.1, va_Nw.warmC hW h.2.1, va_Nw.warmC hW h.2.2.1, va_Nw.warmC hW h.2.2.2.1, va_Nw.warmC hW h.2.2.2.2⟩
theorem CW.same {u U : State} (hv : u.vm = U.vm) (h : CW u) : CW U := ⟨va_Nw.same rfl hv h.1, va_Nw.same rfl hv h.2.1, va_Nw.same rfl hv h.2.2.1, va_Nw.same rfl hv h.2.2.2.1, va_Nw.same rfl hv h.2.2.2.2⟩
def GK (g : zG) (U : State) : Prop := va_K (gD g) vwCl (gT g) U ∧ NW U ∧ SK g U ∧ va_AO "BanLand$Ban" U ∧ va_AO "BanLand$Land" U ∧ CW U
theorem GK.at {g : zG} {s U : State} (h : GK g s) (hW : s.WarmedH U.vm) (hh : ∀ a : Nat, a < s.heap.size → ¬ zA (gz g) a → U.heap[a]? = s.heap[a]?) : GK g U := by
  obtain ⟨h1, h2, ⟨h3, ⟨h4, h5, h6, h7⟩, h8, h9⟩, h10, h11, h12⟩ := h
  exact ⟨va_K.moved hW.alike h1, h2.warm hW, ⟨(h3.moved hW.alike).kept hh, ⟨h4.warm hW, h5.warm hW, h6.warm hW, h7.warm hW⟩, (h8.moved hW.alike).kept hh, (h9.moved hW.alike).kept hh⟩, h10.moved hW.alike, h11.moved hW.alike, h12.warm hW⟩
theorem GK.same {g : zG} {u U : State} (h : GK g u) (hv : u.vm = U.vm) (hh : U.heap = u.heap) : GK g U := by
  obtain ⟨h1, h2, ⟨h3, ⟨h4, h5, h6, h7⟩, h8, h9⟩, h10, h11, h12⟩ := h
  have ha : u.vm.Alike U.vm := hv ▸ Vm.Alike.refl u.vm
  have hq : ∀ a : Nat, a < u.heap.size → ¬ zA (gz g) a → U.heap[a]? = u.heap[a]? := fun a _ _ => by rw [hh]
  exact ⟨va_K.moved ha h1, h2.same hv, ⟨(h3.moved ha).kept hq, ⟨h4.same hv.symm, h5.same hv.symm, h6.same hv.symm, h7.same hv.symm⟩, (h8.moved ha).kept hq, (h9.moved ha).kept hq⟩, h10.moved ha, h11.moved ha, h12.same hv⟩
def zIn (g : zG) (ws : va_W) (U : State) : Prop := va_P (gD g) vwCl ws U.heap ∧ va_D (zA (gz g)) ws ∧ gz g ≤ U.heap.size ∧ GK g U
def zPc (av : List Value) (g : zG) (ws : va_W) : Array Value → State → Prop := va_Pc av (zIn g ws)
theorem zPc_blind {av : List Value} {g : zG} {ws : va_W} : FrameBlind (zPc av g ws) := by
  intro a U gf mk q
  obtain ⟨q0, qP, qD, qz, qK⟩ := q
  exact ⟨q0, qP, qD, qz, qK.same (U := U.calling gf mk a) rfl rfl⟩
def zO (g : zG) (ws : va_W) (st t : State) : Prop := va_P (gD g) vwCl ws t.heap ∧ va_D (zA (gz g)) ws ∧ va_F (zA (gz g)) st t
def zQi (g : zG) (post : Int32 → va_W → Prop) : Array Value → State → Outcome → State → Prop := fun _ st oc t => ∃ (r : Int32) (ws : va_W), oc = .returned (some (.int r)) ∧ post r ws ∧ zO g ws st t
def zQl (g : zG) (post : Int64 → va_W → Prop) : Array Value → State → Outcome → State → Prop := fun _ st oc t => ∃ (r : Int64) (ws : va_W), oc = .returned (some (.long r)) ∧ post r ws ∧ zO g ws st t
def zQv (g : zG) (post : va_W → Prop) : Array Value → State → Outcome → State → Prop := fun _ st oc t => ∃ (ws : va_W), oc = .returned none ∧ post ws ∧ zO g ws st t
def zQq (g : zG) (post : Option Nat → va_W → Prop) : Array Value → State → Outcome → State → Prop := fun _ st oc t => ∃ (r : Option Nat) (ws : va_W), oc = .returned (some (va_rf r)) ∧ post r ws ∧ zO g ws st t
def zE (g : zG) (p : Program) (s : State) (m : MethodId) (args : Array Value) (c : Code) (cc : ByteArray) (own : String) (nL : Nat) (meth : Method) : Prop :=
  CallFix p m c cc nL s args TBL own ∧ GK g s ∧ meth.locks = false ∧ gz g ≤ s.heap.size
def zB (g : zG) (s : State) (ws : va_W) (H : Heap) (locs : List Loc) : Prop := va_P (gD g) vwCl ws H ∧ va_D (zA (gz g)) ws ∧ va_S (zA (gz g)) s.heap H locs
/-- a method's words -/
def zCV (y : MethodName) (C : String) (bytes : ByteArray) (maxL : Nat) (ret : Option FieldType) (n : Nat) : Prop := Cond.instanceMethod y ∈ TBL ∧ Cond.selects C y y ∈ TBL ∧ Cond.initialized C ∈ TBL ∧ Cond.code y bytes maxL ret ∈ TBL ∧ y.cls = C ∧ y.cls ≠ "java/lang/invoke/MethodHandle" ∧ y.cls ≠ "java/lang/invoke/VarHandle" ∧ (parseMethodDescriptor y.desc).map (fun d => d.parameters.length) = some n
def zCS (y : MethodName) (bytes : ByteArray) (maxL : Nat) (ret : Option FieldType) (n : Nat) : Prop := Cond.static y ∈ TBL ∧ Cond.initialized y.cls ∈ TBL ∧ Cond.code y bytes maxL ret ∈ TBL ∧ y.cls ≠ "java/lang/invoke/MethodHandle" ∧ y.cls ≠ "java/lang/invoke/VarHandle" ∧ (parseMethodDescriptor y.desc).map (fun d => d.parameters.length) = some n
def zCI (y : MethodName) (bytes : ByteArray) (maxL : Nat) (n : Nat) : Prop := Cond.instanceMethod y ∈ TBL ∧ Cond.initialized y.cls ∈ TBL ∧ Cond.code y bytes maxL none ∈ TBL ∧ y.name = "<init>" ∧ y.cls ≠ "java/lang/invoke/MethodHandle" ∧ y.cls ≠ "java/lang/invoke/VarHandle" ∧ (parseMethodDescriptor y.desc).map (fun d => d.parameters.length) = some n
theorem TBL_cons {w : Cond} (h : w ∈ TBL) : GoodIn TBL (w :: TBL) := fun v hv => by
  rcases List.mem_cons.mp hv with rfl | h2
  · exact TBL_good _ h
  · exact TBL_good _ h2
section ZR
variable {p : Program} {l : Launch} {e : Env} {R : Room} {s : State} {m : MethodId} {args : Array Value} {below : List Frame} {meth : Method} {c : Code} {H : Heap} {locs : List Loc} {cells slots : Nat} {Q : State → Prop}
variable {cc : ByteArray} {pc nL : Nat} {own : String} {ls : Array Slot} {rest st : List Value} {g : zG} {ws : va_W}
theorem zE.x (h : zE g p s m args c cc own nL meth) : p.tables.exec = Jvm.exec := h.1.1
theorem zE.b (h : zE g p s m args c cc own nL meth) : c.code = cc := h.1.2.1
theorem zE.ml (h : zE g p s m args c cc own nL meth) : c.maxLocals = nL := h.1.2.2.1
theorem zE.o (h : zE g p s m args c cc own nL meth) : s.vm.findClass own = some m.cls := h.1.2.2.2.1
theorem zE.t (h : zE g p s m args c cc own nL meth) : ∀ w ∈ TBL, w.before args s = true := h.1.2.2.2.2
theorem zE.K (h : zE g p s m args c cc own nL meth) : va_K (gD g) vwCl (gT g) s := h.2.1.1
theorem zE.A (h : zE g p s m args c cc own nL meth) : ∀ q, s.heap.size ≤ q → zA (gz g) q := fun _ hq => Nat.le_trans h.2.2.2 hq
theorem zB.in (hE : zE g p s m args c cc own nL meth) (hB : zB g s ws H locs) : ∀ U : State, U.heap = H → s.WarmedH U.vm → zIn g ws U := by
  intro U hU hW
  refine ⟨by rw [hU]; exact hB.1, hB.2.1, by rw [hU]; exact Nat.le_trans hE.2.2.2 hB.2.2.1, hE.2.1.at hW fun a h1 h2 => by rw [hU]; exact hB.2.2.2.1 a h1 h2⟩
/-- a method's start -/
theorem z_start {y : MethodName} {cc : ByteArray} {maxL : Nat} {ret : Option FieldType} {rm : Room} {av : List Value} {Qc : Array Value → State → Outcome → State → Prop} {mc ms : Nat} {own : String} (hy : plainName y.cls = true) (ho : y.cls = own) (hn : (lg_sl av).length ≤ maxL)
    (body : ∀ (p : Program) (e : Env) (s : State) (m : MethodId) (args : Array Value) (below : List Frame) (meth : Method) (c : Code) (ls : Array Slot), zE g p s m args c cc own maxL meth → meth.sig.returnType = ret → meth.name = y.name → zB g s ws s.heap [] → lv_has ls maxL (lv_args 0 av) →
      W p l e rm s m args below meth c s.heap [] 0 0 (MQ below Qc args s mc ms (zA (gz g))) (F0 m 0 ls [])) : Met l y (Cond.code y cc maxL ret :: TBL) rm (zPc av g ws) Qc mc ms (zA (gz g)) := by
  refine Met.ofW (cc := cc) (maxL := maxL) (ret := ret) hy rfl ?_
  intro p e s m args below meth c s₁ B hml hv
  obtain ⟨rfl, hP, hD, hz, hK⟩ := hv
  have hts := atoms_spec (ws := Cond.code y cc maxL ret :: TBL) B.pre
  have hown : s.vm.findClass own = some m.cls := by rw [← ho]; exact findClass_of_methodNamed B.named
  have hl := lv_entry av hn
  rw [lg_entry_eq]
  generalize (lg_sl av ++ List.replicate (maxL - (lg_sl av).length) Slot.unset).toArray = ls at hl ⊢
  exact body p e s m _ below meth c ls ⟨⟨B.exec, B.bytes, hml, hown, fun w h => hts w (List.mem_cons_of_mem _ h)⟩, hK, B.notSynchronized, hz⟩ B.returns (name_of_methodNamed B.named B.method).1 ⟨hP, hD, va_S.rf⟩ hl
/-- ends -/
theorem z_out (hB : zB g s ws H locs) : ∀ t : State, t.heap = H → zO g ws s t := fun t ht => ⟨by rw [ht]; exact hB.1, hB.2.1, hB.2.2.F ht⟩
theorem z_iret {post : Int32 → va_W → Prop} {v : Int32} (hE : zE g p s m args c cc own nL meth) (hB : zB g s ws H locs) (hr : meth.sig.returnType = some .int) (hp : post v ws) (hdg : decode cc pc = .ok (.ireturn, 1)) : W p l e R s m args below meth c H locs cells slots (MQ below (zQi g post) args s cells slots (zA (gz g))) (F0 m pc ls [.int v]) :=
  W.iret hE.x hE.b hr (fun t ht _ => ⟨v, ws, rfl, hp, z_out hB t ht⟩) hB.2.2.2.2 hdg hE.2.2.1
theorem nar_bI (b : Bool) : narrow .boolean (.int (bI b)) = .int (bI b) := by cases b <;> rfl
theorem z_bret {post : Int32 → va_W → Prop} {b : Bool} (hE : zE g p s m args c cc own nL meth) (hB : zB g s ws H locs) (hr : meth.sig.returnType = some .boolean) (hp : post (bI b) ws) (hdg : decode cc pc = .ok (.ireturn, 1)) : W p l e R s m args below meth c H locs cells slots (MQ below (zQi g post) args s cells slots (zA (gz g))) (F0 m pc ls [.int (bI b)]) :=
  W.zret hE.x hE.b hr (nar_bI b) (fun t ht _ => ⟨_, ws, rfl, hp, z_out hB t ht⟩) hB.2.2.2.2 hdg hE.2.2.1
theorem z_lret {post : Int64 → va_W → Prop} {v : Int64} (hE : zE g p s m args c cc own nL meth) (hB : zB g s ws H locs) (hr : meth.sig.returnType = some .long) (hp : post v ws) (hdg : decode cc pc = .ok (.lreturn, 1)) : W p l e R s m args below meth c H locs cells slots (MQ below (zQl g post) args s cells slots (zA (gz g))) (F0 m pc ls [.long v]) :=
  W.lret hE.x hE.b hr (fun t ht _ => ⟨v, ws, rfl, hp, z_out hB t ht⟩) hB.2.2.2.2 hdg hE.2.2.1
theorem z_vret {post : va_W → Prop} (hE : zE g p s m args c cc own nL meth) (hB : zB g s ws H locs) (hr : meth.sig.returnType = none) (hp : post ws) (hdg : decode cc pc = .ok (.return_, 1)) : W p l e R s m args below meth c H locs cells slots (MQ below (zQv g post) args s cells slots (zA (gz g))) (F0 m pc ls []) :=
  W.vret hE.x hE.b hr (fun t ht _ => ⟨ws, rfl, hp, z_out hB t ht⟩) hB.2.2.2.2 hdg hE.2.2.1
theorem z_qret {post : Option Nat → va_W → Prop} {v : Option Nat} {rt : FieldType} (hE : zE g p s m args c cc own nL meth) (hB : zB g s ws H locs) (hr : meth.sig.returnType = some rt) (hrt : (∃ n, rt = .object n) ∨ ∃ t, rt = .array t) (hp : post v ws) (hdg : decode cc pc = .ok (.areturn, 1)) : W p l e R s m args below meth c H locs cells slots (MQ below (zQq g post) args s cells slots (zA (gz g))) (F0 m pc ls [va_rf v]) :=
  W.aret hE.x hE.b hr hrt (by cases v <;> simp [va_rf]) (fun t ht _ => ⟨v, ws, rfl, hp, z_out hB t ht⟩) hB.2.2.2.2 hdg hE.2.2.1
/-- reads and writes of cells -/
theorem z_get {a : Nat} (hE : zE g p s m args c cc own nL meth) (hB : zB g s ws H locs) {ref C : String} {T : u_T} {N ci index : Nat} (hin : ∀ w ∈ u_ws C T N, w ∈ TBL) (q0 : Nat) {fs : List Value} (he : ws[q0]? = some (a, .inr (ci, fs))) (hc : vwCl[ci]? = some (C, T, N)) (k : Nat) (hk : k < N) (hw : Cond.fieldLink own index ref (T k).2.1 (T k).2.2.1 ∈ TBL) (hsame : ∀ x, s.fieldFound? (T k).1 (T k).2.1 (T k).2.2.1 = some x → s.fieldFound? ref (T k).2.1 (T k).2.2.1 = some x) {v : Value} (hv : fs[k]? = some v) (hdg : decode cc pc = .ok (.getfield index, 3))
    (kk : W p l e R s m args below meth c H locs cells slots Q (F0 m (pc + 3) ls (v :: rest))) : W p l e R s m args below meth c H locs cells slots Q (F0 m pc ls (.ref a :: rest)) :=
  va_get hE.x hE.b hE.t hin hE.o hE.K hB.1 q0 he hc k hk (hE.t _ hw) hsame hv hdg kk
theorem z_put {a : Nat} (hE : zE g p s m args c cc own nL meth) (hB : zB g s ws H locs) {ref C : String} {T : u_T} {N ci index : Nat} (hin : ∀ w ∈ u_ws C T N, w ∈ TBL) (ty0 : Nat → FieldType) (hty : ∀ k, k < N → parseFieldDescriptor (T k).2.2.1 = some (ty0 k)) (hnm : ∀ a, a < N → ∀ b, b < N → a ≠ b → (T a).2.1 ≠ (T b).2.1) (q0 : Nat) {fs : List Value} (he : ws[q0]? = some (a, .inr (ci, fs))) (hc : vwCl[ci]? = some (C, T, N)) (k : Nat) (hk : k < N) (hw : Cond.fieldLink own index ref (T k).2.1 (T k).2.2.1 ∈ TBL) (hsame : ∀ x, s.fieldFound? (T k).1 (T k).2.1 (T k).2.2.1 = some x → s.fieldFound? ref (T k).2.1 (T k).2.2.1 = some x) (hfin : (T k).2.2.2 = false) {ty : FieldType} {v : Value} (hd : parseFieldDescriptor (T k).2.2.1 = some ty) (hn : narrow ty v = v) (hfit : fits ty v = true) (hl : k < fs.length) {ws' : va_W} (hws : ws.set q0 (a, .inr (ci, fs.set k v)) = ws')
    (hdg : decode cc pc = .ok (.putfield index, 3)) (kk : ∀ (H1 : Heap) (locs1 : List Loc), zB g s ws' H1 locs1 → W p l e R s m args below meth c H1 locs1 cells slots Q (F0 m (pc + 3) ls rest)) : W p l e R s m args below meth c H locs cells slots Q (F0 m pc ls (v :: .ref a :: rest)) := by
  subst hws
  exact va_put hE.x hE.b hE.t hin ty0 hty hnm hE.o hE.K hB.1 hB.2.1 hB.2.2 q0 he hc k hk (hE.t _ hw) hsame hfin hd hn hfit hl hdg fun H1 l1 h1 h2 h3 => kk H1 l1 ⟨h1, h2, h3⟩
theorem z_putF {a : Nat} (hE : zE g p s m args c cc own nL meth) (hB : zB g s ws H locs) {ref C : String} {T : u_T} {N ci index : Nat} (hin : ∀ w ∈ u_ws C T N, w ∈ TBL) (ty0 : Nat → FieldType) (hty : ∀ k, k < N → parseFieldDescriptor (T k).2.2.1 = some (ty0 k)) (hnm : ∀ a, a < N → ∀ b, b < N → a ≠ b → (T a).2.1 ≠ (T b).2.1) (q0 : Nat) {fs : List Value} (he : ws[q0]? = some (a, .inr (ci, fs))) (hc : vwCl[ci]? = some (C, T, N)) (k : Nat) (hk : k < N) (hw : Cond.fieldLink own index ref (T k).2.1 (T k).2.2.1 ∈ TBL) (hsame : ∀ x, s.fieldFound? (T k).1 (T k).2.1 (T k).2.2.1 = some x → s.fieldFound? ref (T k).2.1 (T k).2.2.1 = some x) (hfin : (T k).2.2.2 = true) (hin2 : meth.name = "<init>") (hdecl : (T k).1 = own) {ty : FieldType} {v : Value} (hd : parseFieldDescriptor (T k).2.2.1 = some ty) (hn : narrow ty v = v) (hfit : fits ty v = true) (hl : k < fs.length) {ws' : va_W} (hws : ws.set q0 (a, .inr (ci, fs.set k v)) = ws')
    (hdg : decode cc pc = .ok (.putfield index, 3)) (kk : ∀ (H1 : Heap) (locs1 : List Loc), zB g s ws' H1 locs1 → W p l e R s m args below meth c H1 locs1 cells slots Q (F0 m (pc + 3) ls rest)) : W p l e R s m args below meth c H locs cells slots Q (F0 m pc ls (v :: .ref a :: rest)) := by
  subst hws
  exact va_putF hE.x hE.b hE.t hin ty0 hty hnm hE.o hE.K hB.1 hB.2.1 hB.2.2 q0 he hc k hk (hE.t _ hw) hsame hfin hin2 hdecl hd hn hfit hl hdg fun H1 l1 h1 h2 h3 => kk H1 l1 ⟨h1, h2, h3⟩
theorem z_iald {a n : Nat} {f : Nat → Int32} {k : Nat} (hE : zE g p s m args c cc own nL meth) (hB : zB g s ws H locs) (q0 : Nat) (ha : ws[q0]? = some (a, .inl (gI g, n, .inl f))) (hk : k < n) (hn : n < 2 ^ 31) (hdg : decode cc pc = .ok (.iaload, 1))
    (kk : W p l e R s m args below meth c H locs cells slots Q (F0 m (pc + 1) ls (.int (f k) :: rest))) : W p l e R s m args below meth c H locs cells slots Q (F0 m pc ls (.int (nI k) :: .ref a :: rest)) := by
  refine va_iald hE.x hE.b hE.K hB.1 q0 1 ha rfl (vp_in_nI hk hn) hdg ?_
  rw [nI_clamp (Nat.lt_trans hk hn)]
  exact kk
theorem z_iast {a n : Nat} {f : Nat → Int32} {k : Nat} {x : Int32} (hE : zE g p s m args c cc own nL meth) (hB : zB g s ws H locs) (q0 : Nat) (ha : ws[q0]? = some (a, .inl (gI g, n, .inl f))) (hk : k < n) (hn : n < 2 ^ 31) {ws' : va_W} (hws : ws.set q0 (a, .inl (gI g, n, .inl (upd f k x))) = ws') (hdg : decode cc pc = .ok (.iastore, 1))
    (kk : ∀ (H1 : Heap) (locs1 : List Loc), zB g s ws' H1 locs1 → W p l e R s m args below meth c H1 locs1 cells slots Q (F0 m (pc + 1) ls rest)) : W p l e R s m args below meth c H locs cells slots Q (F0 m pc ls (.int x :: .int (nI k) :: .ref a :: rest)) := by
  subst hws
  refine va_iast hE.x hE.b hE.K hB.1 hB.2.1 hB.2.2 q0 1 ha rfl (vp_in_nI hk hn) hdg fun H1 l1 h1 h2 h3 => kk H1 l1 ?_
  rw [nI_clamp (Nat.lt_trans hk hn)] at h1 h2
  exact ⟨h1, h2, h3⟩
theorem z_bald {a n : Nat} {f : Nat → Int32} {k : Nat} (hE : zE g p s m args c cc own nL meth) (hB : zB g s ws H locs) (q0 : Nat) (ha : ws[q0]? = some (a, .inl (gB g, n, .inl f))) (hk : k < n) (hn : n < 2 ^ 31) (hdg : decode cc pc = .ok (.baload, 1))
    (kk : W p l e R s m args below meth c H locs cells slots Q (F0 m (pc + 1) ls (.int (f k) :: rest))) : W p l e R s m args below meth c H locs cells slots Q (F0 m pc ls (.int (nI k) :: .ref a :: rest)) := by
  refine va_bald hE.x hE.b hE.K hB.1 q0 0 ha rfl (vp_in_nI hk hn) hdg ?_
  rw [nI_clamp (Nat.lt_trans hk hn)]
  exact kk
theorem z_bast {a n : Nat} {f : Nat → Int32} {k : Nat} {x : Int32} (hE : zE g p s m args c cc own nL meth) (hB : zB g s ws H locs) (q0 : Nat) (ha : ws[q0]? = some (a, .inl (gB g, n, .inl f))) (hk : k < n) (hn : n < 2 ^ 31) (hx : vp_nar .byte x = x) {ws' : va_W} (hws : ws.set q0 (a, .inl (gB g, n, .inl (upd f k x))) = ws') (hdg : decode cc pc = .ok (.bastore, 1))
    (kk : ∀ (H1 : Heap) (locs1 : List Loc), zB g s ws' H1 locs1 → W p l e R s m args below meth c H1 locs1 cells slots Q (F0 m (pc + 1) ls rest)) : W p l e R s m args below meth c H locs cells slots Q (F0 m pc ls (.int x :: .int (nI k) :: .ref a :: rest)) := by
  subst hws
  refine va_bast hE.x hE.b hE.K hB.1 hB.2.1 hB.2.2 q0 0 ha rfl (vp_in_nI hk hn) hdg fun H1 l1 h1 h2 h3 => kk H1 l1 ?_
  rw [nI_clamp (Nat.lt_trans hk hn), hx] at h1 h2
  exact ⟨h1, h2, h3⟩
theorem z_zald {a n : Nat} {f : Nat → Int32} {k : Nat} (hE : zE g p s m args c cc own nL meth) (hB : zB g s ws H locs) (q0 : Nat) (ha : ws[q0]? = some (a, .inl (gZ g, n, .inl f))) (hk : k < n) (hn : n < 2 ^ 31) (hdg : decode cc pc = .ok (.baload, 1))
    (kk : W p l e R s m args below meth c H locs cells slots Q (F0 m (pc + 1) ls (.int (f k) :: rest))) : W p l e R s m args below meth c H locs cells slots Q (F0 m pc ls (.int (nI k) :: .ref a :: rest)) := by
  refine va_zald hE.x hE.b hE.K hB.1 q0 2 ha rfl (vp_in_nI hk hn) hdg ?_
  rw [nI_clamp (Nat.lt_trans hk hn)]
  exact kk
theorem z_nald {a n : Nat} {f : Nat → Option Nat} {k : Nat} (hE : zE g p s m args c cc own nL meth) (hB : zB g s ws H locs) (q0 : Nat) (ha : ws[q0]? = some (a, .inl (gN g, n, .inr (.inr (.inr (.inr f)))))) (hk : k < n) (hn : n < 2 ^ 31) (hdg : decode cc pc = .ok (.aaload, 1))
    (kk : W p l e R s m args below meth c H locs cells slots Q (F0 m (pc + 1) ls (va_rf (f k) :: rest))) : W p l e R s m args below meth c H locs cells slots Q (F0 m pc ls (.int (nI k) :: .ref a :: rest)) := by
  refine va_aldq hE.x hE.b hE.K hB.1 q0 3 ha rfl (vp_in_nI hk hn) hdg ?_
  rw [nI_clamp (Nat.lt_trans hk hn)]
  exact kk
theorem z_mald {a n : Nat} {f : Nat → Option Nat} {k : Nat} (hE : zE g p s m args c cc own nL meth) (hB : zB g s ws H locs) (q0 : Nat) (ha : ws[q0]? = some (a, .inl (gL g, n, .inr (.inr (.inr (.inr f)))))) (hk : k < n) (hn : n < 2 ^ 31) (hdg : decode cc pc = .ok (.aaload, 1))
    (kk : W p l e R s m args below meth c H locs cells slots Q (F0 m (pc + 1) ls (va_rf (f k) :: rest))) : W p l e R s m args below meth c H locs cells slots Q (F0 m pc ls (.int (nI k) :: .ref a :: rest)) := by
  refine va_aldq hE.x hE.b hE.K hB.1 q0 4 ha rfl (vp_in_nI hk hn) hdg ?_
  rw [nI_clamp (Nat.lt_trans hk hn)]
  exact kk
theorem z_alen {a n : Nat} {x : vp_A} {cA : ClassId} (hE : zE g p s m args c cc own nL meth) (hB : zB g s ws H locs) (q0 t0 : Nat) (ha : ws[q0]? = some (a, .inl (cA, x))) {ty : FieldType} (ht : (gT g)[t0]? = some (cA, ty)) (hv : x.1 = n) (hdg : decode cc pc = .ok (.arraylength, 1))
    (kk : W p l e R s m args below meth c H locs cells slots Q (F0 m (pc + 1) ls (.int (nI n) :: rest))) : W p l e R s m args below meth c H locs cells slots Q (F0 m pc ls (.ref a :: rest)) :=
  va_alen hE.x hE.b hE.K hB.1 q0 t0 ha ht (by rw [hv]; rfl) hdg kk
/-- calls -/
theorem z_cV {y : MethodName} {C : String} {T : u_T} {bytes : ByteArray} {maxL mc ms n index ci N b : Nat} {ret : Option FieldType} {rm : Room} {Qc : Array Value → State → Outcome → State → Prop} {As : List Value} {fs : List Value} (hE : zE g p s m args c cc own nL meth) (hB : zB g s ws H locs)
    (hM : Met l y (Cond.code y bytes maxL ret :: TBL) rm (zPc (.ref b :: As) g ws) Qc mc ms (zA (gz g))) (w1 : Cond.methodLink own index y ∈ TBL) (kC : zCV y C bytes maxL ret n) (hrm : rm.cells = mc ∧ rm.slots = ms) (hR : rm.frames + 1 ≤ R.frames ∧ 8 + (maxL + 11) + rm.locals ≤ R.locals) (q0 : Nat) (he : ws[q0]? = some (b, .inr (ci, fs))) (hc : vwCl[ci]? = some (C, T, N)) (hn : As.length = n) (hsize : ls.size = nL) (hst : st = As.reverse ++ .ref b :: rest) (hW : (rest.map fun v => v.category).sum ≤ 8) (hdg : decode cc pc = .ok (.invokevirtual index, 3)) (hf : cells + mc ≤ R.cells ∧ slots + ms ≤ R.slots) :
    va_Run p l e R s m args below meth c H locs cells slots mc ms (F0 m pc ls st) rest (Qc (Value.ref b :: As).toArray) (zA (gz g)) := by
  obtain ⟨k1, k2, k3, k4, k5, k6⟩ := kC
  refine va_runV (Ts := TBL) (own := own) (C := C) hE.1 hM (cwV n hE.t (fun w hw => ?_) rfl hrm.1 hrm.2 ⟨k5, k6⟩ hR) ⟨zPc_blind, va_recv hE.K hB.1 hc he, fun U hU hW => ⟨rfl, hB.in hE U hU hW⟩⟩ rfl hn hsize hst (lv_room (ls := ls) hW) hdg hf
  unfold wsV at hw
  rcases List.mem_append.mp hw with h | h
  · rcases List.mem_cons.mp h with rfl | h
    · exact TBL_good _ w1
    rcases List.mem_cons.mp h with rfl | h
    · exact TBL_good _ k1
    rcases List.mem_cons.mp h with rfl | h
    · exact TBL_good _ k2
    rcases List.mem_cons.mp h with rfl | h
    · exact TBL_good _ k3
    · cases h
  · exact TBL_cons k4 w h
theorem z_cS {y : MethodName} {bytes : ByteArray} {maxL mc ms n index : Nat} {ret : Option FieldType} {rm : Room} {Qc : Array Value → State → Outcome → State → Prop} {As : List Value} (hE : zE g p s m args c cc own nL meth) (hB : zB g s ws H locs)
    (hM : Met l y (Cond.code y bytes maxL ret :: TBL) rm (zPc As g ws) Qc mc ms (zA (gz g))) (w1 : Cond.methodLink own index y ∈ TBL) (kC : zCS y bytes maxL ret n) (hrm : rm.cells = mc ∧ rm.slots = ms) (hR : rm.frames + 1 ≤ R.frames ∧ 8 + (maxL + 11) + rm.locals ≤ R.locals) (hn : As.length = n) (hsize : ls.size = nL) (hst : st = As.reverse ++ rest) (hW : (rest.map fun v => v.category).sum ≤ 8) (hdg : decode cc pc = .ok (.invokestatic index, 3)) (hf : cells + mc ≤ R.cells ∧ slots + ms ≤ R.slots) :
    va_Run p l e R s m args below meth c H locs cells slots mc ms (F0 m pc ls st) rest (Qc As.toArray) (zA (gz g)) := by
  obtain ⟨k1, k3, k4, k6⟩ := kC
  refine va_runS (Ts := TBL) (own := own) hE.1 hM (va_cwS n hE.t (fun w hw => ?_) rfl hrm.1 hrm.2 k6 hR) ⟨zPc_blind, fun U hU hW => ⟨rfl, hB.in hE U hU hW⟩⟩ rfl hn hsize hst (lv_room (ls := ls) hW) hdg hf
  unfold va_wsS at hw
  rcases List.mem_append.mp hw with h | h
  · rcases List.mem_cons.mp h with rfl | h
    · exact TBL_good _ w1
    rcases List.mem_cons.mp h with rfl | h
    · exact TBL_good _ k1
    rcases List.mem_cons.mp h with rfl | h
    · exact TBL_good _ k3
    · cases h
  · exact TBL_cons k4 w h
theorem z_cI {y : MethodName} {bytes : ByteArray} {maxL mc ms n index b : Nat} {rm : Room} {Qc : Array Value → State → Outcome → State → Prop} {As : List Value} (hE : zE g p s m args c cc own nL meth) (hB : zB g s ws H locs)
    (hM : Met l y (Cond.code y bytes maxL none :: TBL) rm (zPc (.ref b :: As) g ws) Qc mc ms (zA (gz g))) (w1 : Cond.methodLink own index y ∈ TBL) (kC : zCI y bytes maxL n) (hrm : rm.cells = mc ∧ rm.slots = ms) (hR : rm.frames + 1 ≤ R.frames ∧ 8 + (maxL + 11) + rm.locals ≤ R.locals) (hn : As.length = n) (hsize : ls.size = nL) (hst : st = As.reverse ++ .ref b :: rest) (hW : (rest.map fun v => v.category).sum ≤ 8) (hdg : decode cc pc = .ok (.invokespecial index, 3)) (hf : cells + mc ≤ R.cells ∧ slots + ms ≤ R.slots) :
    va_Run p l e R s m args below meth c H locs cells slots mc ms (F0 m pc ls st) rest (Qc (Value.ref b :: As).toArray) (zA (gz g)) := by
  obtain ⟨k1, k3, k4, k5, k6⟩ := kC
  exact va_runI (Ts := TBL) (own := own) hE.1 hM (cwI n hE.t (TBL_cons k4) rfl hrm.1 hrm.2 (hE.t _ k3) (hE.t _ w1) (hE.t _ k1) k5 k6 hR) ⟨zPc_blind, fun U hU hW => ⟨rfl, hB.in hE U hU hW⟩⟩ rfl hn hsize hst (lv_room (ls := ls) hW) hdg hf
theorem z_cSN {y : MethodName} {host : String} {bytes : ByteArray} {maxL mc ms n index : Nat} {ret : Option FieldType} {rm : Room} {Qc : Array Value → State → Outcome → State → Prop} {As : List Value} (hE : zE g p s m args c cc own nL meth) (hB : zB g s ws H locs)
    (hM : Met l y (Cond.code y bytes maxL ret :: TBL) rm (zPc As g ws) Qc mc ms (zA (gz g))) (w1 : va_Nw (Cond.methodLinkNest own index y host) s) (kC : zCS y bytes maxL ret n) (hrm : rm.cells = mc ∧ rm.slots = ms) (hR : rm.frames + 1 ≤ R.frames ∧ 8 + (maxL + 11) + rm.locals ≤ R.locals) (hn : As.length = n) (hsize : ls.size = nL) (hst : st = As.reverse ++ rest) (hW : (rest.map fun v => v.category).sum ≤ 8) (hdg : decode cc pc = .ok (.invokestatic index, 3)) (hf : cells + mc ≤ R.cells ∧ slots + ms ≤ R.slots) :
    va_Run p l e R s m args below meth c H locs cells slots mc ms (F0 m pc ls st) rest (Qc As.toArray) (zA (gz g)) := by
  obtain ⟨k1, k3, k4, k6⟩ := kC
  exact va_runSN (Ts := TBL) (own := own) (host := host) hE.1 hM ⟨va_cnB n hE.t (TBL_cons k4) rfl hrm.1 hrm.2 w1 (hE.t _ k3) k6 hR, hE.t _ k1, trivial⟩ ⟨zPc_blind, fun U hU hW => ⟨rfl, hB.in hE U hU hW⟩⟩ rfl hn hsize hst (lv_room (ls := ls) hW) hdg hf
theorem z_cIN {y : MethodName} {host : String} {bytes : ByteArray} {maxL mc ms n index b : Nat} {rm : Room} {Qc : Array Value → State → Outcome → State → Prop} {As : List Value} (hE : zE g p s m args c cc own nL meth) (hB : zB g s ws H locs)
    (hM : Met l y (Cond.code y bytes maxL none :: TBL) rm (zPc (.ref b :: As) g ws) Qc mc ms (zA (gz g))) (w1 : va_Nw (Cond.methodLinkNest own index y host) s) (kC : zCI y bytes maxL n) (hrm : rm.cells = mc ∧ rm.slots = ms) (hR : rm.frames + 1 ≤ R.frames ∧ 8 + (maxL + 11) + rm.locals ≤ R.locals) (hn : As.length = n) (hsize : ls.size = nL) (hst : st = As.reverse ++ .ref b :: rest) (hW : (rest.map fun v => v.category).sum ≤ 8) (hdg : decode cc pc = .ok (.invokespecial index, 3)) (hf : cells + mc ≤ R.cells ∧ slots + ms ≤ R.slots) :
    va_Run p l e R s m args below meth c H locs cells slots mc ms (F0 m pc ls st) rest (Qc (Value.ref b :: As).toArray) (zA (gz g)) := by
  obtain ⟨k1, k3, k4, k5, k6⟩ := kC
  exact va_runIN (Ts := TBL) (own := own) (host := host) hE.1 hM ⟨va_cnB n hE.t (TBL_cons k4) rfl hrm.1 hrm.2 w1 (hE.t _ k3) k6 hR, k5, hE.t _ k1⟩ ⟨zPc_blind, fun U hU hW => ⟨rfl, hB.in hE U hU hW⟩⟩ rfl hn hsize hst (lv_room (ls := ls) hW) hdg hf
theorem zO_S {st t : State} {T' : State} {L : List Loc} (hB : zB g s ws H locs) {ws1 : va_W} (h0 : st.heap = H) (e1 : T'.heap = t.heap) (hL : ∀ q ∈ L, zA (gz g) q.base) (h : zO g ws1 st t) : zB g s ws1 T'.heap (locs ++ L) := by
  obtain ⟨h1, h2, h3, h4⟩ := h
  rw [h0] at h3 h4
  refine ⟨by rw [e1]; exact h1, h2, Nat.le_trans hB.2.2.1 (by rw [e1]; exact h3), fun q hq1 hq2 => ?_, fun q hq => ?_⟩
  · rw [e1, h4 q (Nat.lt_of_lt_of_le hq1 hB.2.2.1) hq2]
    exact hB.2.2.2.1 q hq1 hq2
  · rcases List.mem_append.mp hq with h | h
    · exact hB.2.2.2.2 q h
    · exact hL q h
theorem z_qi {mc ms : Nat} {a : Array Value} {post : Int32 → va_W → Prop} (hB : zB g s ws H locs) (hr : va_Run p l e R s m args below meth c H locs cells slots mc ms (F0 m pc ls st) rest (zQi g post a) (zA (gz g)))
    (kk : ∀ (r : Int32) (ws1 : va_W) (H1 : Heap) (locs1 : List Loc), post r ws1 → zB g s ws1 H1 locs1 → W p l e R s m args below meth c H1 locs1 (cells + mc) (slots + ms) Q (F0 m (pc + 3) ls (.int r :: rest))) : W p l e R s m args below meth c H locs cells slots Q (F0 m pc ls st) := by
  intro T hT X
  obtain ⟨v, st₀, t, T', L, h0, X', hL, e1, e2, ⟨r, ws1, hv, hp, hO⟩, st⟩ := hr T hT X
  cases hv
  obtain ⟨t2, a1, b1⟩ := kk r ws1 T'.heap (locs ++ L) hp (zO_S hB h0 e1 hL hO) T' rfl X'
  exact ⟨t2, st t2 a1, b1⟩
theorem z_ql {mc ms : Nat} {a : Array Value} {post : Int64 → va_W → Prop} (hB : zB g s ws H locs) (hr : va_Run p l e R s m args below meth c H locs cells slots mc ms (F0 m pc ls st) rest (zQl g post a) (zA (gz g)))
    (kk : ∀ (r : Int64) (ws1 : va_W) (H1 : Heap) (locs1 : List Loc), post r ws1 → zB g s ws1 H1 locs1 → W p l e R s m args below meth c H1 locs1 (cells + mc) (slots + ms) Q (F0 m (pc + 3) ls (.long r :: rest))) : W p l e R s m args below meth c H locs cells slots Q (F0 m pc ls st) := by
  intro T hT X
  obtain ⟨v, st₀, t, T', L, h0, X', hL, e1, e2, ⟨r, ws1, hv, hp, hO⟩, st⟩ := hr T hT X
  cases hv
  obtain ⟨t2, a1, b1⟩ := kk r ws1 T'.heap (locs ++ L) hp (zO_S hB h0 e1 hL hO) T' rfl X'
  exact ⟨t2, st t2 a1, b1⟩
theorem z_qv {mc ms : Nat} {a : Array Value} {post : va_W → Prop} (hB : zB g s ws H locs) (hr : va_Run p l e R s m args below meth c H locs cells slots mc ms (F0 m pc ls st) rest (zQv g post a) (zA (gz g)))
    (kk : ∀ (ws1 : va_W) (H1 : Heap) (locs1 : List Loc), post ws1 → zB g s ws1 H1 locs1 → W p l e R s m args below meth c H1 locs1 (cells + mc) (slots + ms) Q (F0 m (pc + 3) ls rest)) : W p l e R s m args below meth c H locs cells slots Q (F0 m pc ls st) := by
  intro T hT X
  obtain ⟨v, st₀, t, T', L, h0, X', hL, e1, e2, ⟨ws1, hv, hp, hO⟩, st⟩ := hr T hT X
  cases hv
  obtain ⟨t2, a1, b1⟩ := kk ws1 T'.heap (locs ++ L) hp (zO_S hB h0 e1 hL hO) T' rfl X'
  exact ⟨t2, st t2 a1, b1⟩
theorem z_qq {mc ms : Nat} {a : Array Value} {post : Option Nat → va_W → Prop} (hB : zB g s ws H locs) (hr : va_Run p l e R s m args below meth c H locs cells slots mc ms (F0 m pc ls st) rest (zQq g post a) (zA (gz g)))
    (kk : ∀ (r : Option Nat) (ws1 : va_W) (H1 : Heap) (locs1 : List Loc), post r ws1 → zB g s ws1 H1 locs1 → W p l e R s m args below meth c H1 locs1 (cells + mc) (slots + ms) Q (F0 m (pc + 3) ls (va_rf r :: rest))) : W p l e R s m args below meth c H locs cells slots Q (F0 m pc ls st) := by
  intro T hT X
  obtain ⟨v, st₀, t, T', L, h0, X', hL, e1, e2, ⟨r, ws1, hv, hp, hO⟩, st⟩ := hr T hT X
  cases hv
  obtain ⟨t2, a1, b1⟩ := kk r ws1 T'.heap (locs ++ L) hp (zO_S hB h0 e1 hL hO) T' rfl X'
  exact ⟨t2, st t2 a1, b1⟩
/-- numbers -/
theorem z_iaddN {a b : Nat} (hE : zE g p s m args c cc own nL meth) (hdg : decode cc pc = .ok (.iadd, 1)) (k : W p l e R s m args below meth c H locs cells slots Q (F0 m (pc + 1) ls (.int (nI (a + b)) :: rest))) : W p l e R s m args below meth c H locs cells slots Q (F0 m pc ls (.int (nI b) :: .int (nI a) :: rest)) :=
  lv_iadd hE.x hE.b hdg (by rw [nI_add]; exact k)
theorem z_imulN {a b : Nat} (hE : zE g p s m args c cc own nL meth) (hdg : decode cc pc = .ok (.imul, 1)) (k : W p l e R s m args below meth c H locs cells slots Q (F0 m (pc + 1) ls (.int (nI (a * b)) :: rest))) : W p l e R s m args below meth c H locs cells slots Q (F0 m pc ls (.int (nI b) :: .int (nI a) :: rest)) :=
  lv_imul hE.x hE.b hdg (by rw [pk_mul]; exact k)
theorem z_isubN {a b : Nat} (hE : zE g p s m args c cc own nL meth) (h : b ≤ a) (hdg : decode cc pc = .ok (.isub, 1)) (k : W p l e R s m args below meth c H locs cells slots Q (F0 m (pc + 1) ls (.int (nI (a - b)) :: rest))) : W p l e R s m args below meth c H locs cells slots Q (F0 m pc ls (.int (nI b) :: .int (nI a) :: rest)) :=
  lv_isub hE.x hE.b hdg (by rw [pk_sub h]; exact k)
end ZR
section ZC
variable {p : Program} {l : Launch} {e : Env} {R : Room} {s : State} {m : MethodId} {args : Array Value} {below : List Frame} {meth : Method} {c : Code} {H : Heap} {locs : List Loc} {cells slots : Nat} {Q : State → Prop}
variable {cc : ByteArray} {pc nL tgt : Nat} {off : Int} {own : String} {ls : Array Slot} {rest st : List Value} {g : zG} {ws : va_W} {x y : Int32} {X Y : Int}
theorem z_lt (hE : zE g p s m args c cc own nL meth) (hdg : decode cc pc = .ok (.if_icmp .lt off, 3)) (ht : (pc : Int) + off = (tgt : Int)) (hX : x.toInt = X) (hY : y.toInt = Y)
    (kt : X < Y → W p l e R s m args below meth c H locs cells slots Q (F0 m tgt ls rest)) (kf : ¬ X < Y → W p l e R s m args below meth c H locs cells slots Q (F0 m (pc + 3) ls rest)) : W p l e R s m args below meth c H locs cells slots Q (F0 m pc ls (.int y :: .int x :: rest)) := by
  subst hX; subst hY
  exact lv_icmp_lt hE.x hE.b hdg ht (fun h => kt (Int32.lt_iff_toInt_lt.mp h)) (fun h => kf (fun z => h (Int32.lt_iff_toInt_lt.mpr z)))
theorem z_ge (hE : zE g p s m args c cc own nL meth) (hdg : decode cc pc = .ok (.if_icmp .ge off, 3)) (ht : (pc : Int) + off = (tgt : Int)) (hX : x.toInt = X) (hY : y.toInt = Y)
    (kt : Y ≤ X → W p l e R s m args below meth c H locs cells slots Q (F0 m tgt ls rest)) (kf : ¬ Y ≤ X → W p l e R s m args below meth c H locs cells slots Q (F0 m (pc + 3) ls rest)) : W p l e R s m args below meth c H locs cells slots Q (F0 m pc ls (.int y :: .int x :: rest)) := by
  subst hX; subst hY
  exact lv_icmp_ge hE.x hE.b hdg ht (fun h => kt (Int32.le_iff_toInt_le.mp h)) (fun h => kf (fun z => h (Int32.le_iff_toInt_le.mpr z)))
theorem z_gt (hE : zE g p s m args c cc own nL meth) (hdg : decode cc pc = .ok (.if_icmp .gt off, 3)) (ht : (pc : Int) + off = (tgt : Int)) (hX : x.toInt = X) (hY : y.toInt = Y)
    (kt : Y < X → W p l e R s m args below meth c H locs cells slots Q (F0 m tgt ls rest)) (kf : ¬ Y < X → W p l e R s m args below meth c H locs cells slots Q (F0 m (pc + 3) ls rest)) : W p l e R s m args below meth c H locs cells slots Q (F0 m pc ls (.int y :: .int x :: rest)) := by
  subst hX; subst hY
  exact lv_icmp_gt hE.x hE.b hdg ht (fun h => kt (Int32.lt_iff_toInt_lt.mp h)) (fun h => kf (fun z => h (Int32.lt_iff_toInt_lt.mpr z)))
theorem z_le (hE : zE g p s m args c cc own nL meth) (hdg : decode cc pc = .ok (.if_icmp .le off, 3)) (ht : (pc : Int) + off = (tgt : Int)) (hX : x.toInt = X) (hY : y.toInt = Y)
    (kt : X ≤ Y → W p l e R s m args below meth c H locs cells slots Q (F0 m tgt ls rest)) (kf : ¬ X ≤ Y → W p l e R s m args below meth c H locs cells slots Q (F0 m (pc + 3) ls rest)) : W p l e R s m args below meth c H locs cells slots Q (F0 m pc ls (.int y :: .int x :: rest)) := by
  subst hX; subst hY
  exact lv_icmp_le hE.x hE.b hdg ht (fun h => kt (Int32.le_iff_toInt_le.mp h)) (fun h => kf (fun z => h (Int32.le_iff_toInt_le.mpr z)))
theorem z_eq (hE : zE g p s m args c cc own nL meth) (hdg : decode cc pc = .ok (.if_icmp .eq off, 3)) (ht : (pc : Int) + off = (tgt : Int)) (hX : x.toInt = X) (hY : y.toInt = Y)
    (kt : X = Y → W p l e R s m args below meth c H locs cells slots Q (F0 m tgt ls rest)) (kf : ¬ X = Y → W p l e R s m args below meth c H locs cells slots Q (F0 m (pc + 3) ls rest)) : W p l e R s m args below meth c H locs cells slots Q (F0 m pc ls (.int y :: .int x :: rest)) := by
  subst hX; subst hY
  exact lv_icmp_eq hE.x hE.b hdg ht (fun h => kt (by rw [h])) (fun h => kf (fun z => h (Int32.toInt_inj.mp z)))
theorem z_ne (hE : zE g p s m args c cc own nL meth) (hdg : decode cc pc = .ok (.if_icmp .ne off, 3)) (ht : (pc : Int) + off = (tgt : Int)) (hX : x.toInt = X) (hY : y.toInt = Y)
    (kt : ¬ X = Y → W p l e R s m args below meth c H locs cells slots Q (F0 m tgt ls rest)) (kf : X = Y → W p l e R s m args below meth c H locs cells slots Q (F0 m (pc + 3) ls rest)) : W p l e R s m args below meth c H locs cells slots Q (F0 m pc ls (.int y :: .int x :: rest)) := by
  subst hX; subst hY
  exact lv_icmp_ne hE.x hE.b hdg ht (fun h => kt (fun z => h (Int32.toInt_inj.mp z))) (fun h => kf (by rw [h]))
theorem z_lt0 (hE : zE g p s m args c cc own nL meth) (hdg : decode cc pc = .ok (.ifCond .lt off, 3)) (ht : (pc : Int) + off = (tgt : Int)) (hX : x.toInt = X)
    (kt : X < 0 → W p l e R s m args below meth c H locs cells slots Q (F0 m tgt ls rest)) (kf : ¬ X < 0 → W p l e R s m args below meth c H locs cells slots Q (F0 m (pc + 3) ls rest)) : W p l e R s m args below meth c H locs cells slots Q (F0 m pc ls (.int x :: rest)) := by
  subst hX
  exact lv_if_lt hE.x hE.b hdg ht (fun h => kt (Int32.lt_iff_toInt_lt.mp h)) (fun h => kf (fun z => h (Int32.lt_iff_toInt_lt.mpr z)))
theorem z_ge0 (hE : zE g p s m args c cc own nL meth) (hdg : decode cc pc = .ok (.ifCond .ge off, 3)) (ht : (pc : Int) + off = (tgt : Int)) (hX : x.toInt = X)
    (kt : 0 ≤ X → W p l e R s m args below meth c H locs cells slots Q (F0 m tgt ls rest)) (kf : ¬ 0 ≤ X → W p l e R s m args below meth c H locs cells slots Q (F0 m (pc + 3) ls rest)) : W p l e R s m args below meth c H locs cells slots Q (F0 m pc ls (.int x :: rest)) := by
  subst hX
  exact lv_if_ge hE.x hE.b hdg ht (fun h => kt (Int32.le_iff_toInt_le.mp h)) (fun h => kf (fun z => h (Int32.le_iff_toInt_le.mpr z)))
theorem z_gt0 (hE : zE g p s m args c cc own nL meth) (hdg : decode cc pc = .ok (.ifCond .gt off, 3)) (ht : (pc : Int) + off = (tgt : Int)) (hX : x.toInt = X)
    (kt : 0 < X → W p l e R s m args below meth c H locs cells slots Q (F0 m tgt ls rest)) (kf : ¬ 0 < X → W p l e R s m args below meth c H locs cells slots Q (F0 m (pc + 3) ls rest)) : W p l e R s m args below meth c H locs cells slots Q (F0 m pc ls (.int x :: rest)) := by
  subst hX
  exact lv_if_gt hE.x hE.b hdg ht (fun h => kt (Int32.lt_iff_toInt_lt.mp h)) (fun h => kf (fun z => h (Int32.lt_iff_toInt_lt.mpr z)))
theorem z_le0 (hE : zE g p s m args c cc own nL meth) (hdg : decode cc pc = .ok (.ifCond .le off, 3)) (ht : (pc : Int) + off = (tgt : Int)) (hX : x.toInt = X)
    (kt : X ≤ 0 → W p l e R s m args below meth c H locs cells slots Q (F0 m tgt ls rest)) (kf : ¬ X ≤ 0 → W p l e R s m args below meth c H locs cells slots Q (F0 m (pc + 3) ls rest)) : W p l e R s m args below meth c H locs cells slots Q (F0 m pc ls (.int x :: rest)) := by
  subst hX
  exact lv_if_le hE.x hE.b hdg ht (fun h => kt (Int32.le_iff_toInt_le.mp h)) (fun h => kf (fun z => h (Int32.le_iff_toInt_le.mpr z)))
theorem z_eq0 (hE : zE g p s m args c cc own nL meth) (hdg : decode cc pc = .ok (.ifCond .eq off, 3)) (ht : (pc : Int) + off = (tgt : Int)) (hX : x.toInt = X)
    (kt : X = 0 → W p l e R s m args below meth c H locs cells slots Q (F0 m tgt ls rest)) (kf : ¬ X = 0 → W p l e R s m args below meth c H locs cells slots Q (F0 m (pc + 3) ls rest)) : W p l e R s m args below meth c H locs cells slots Q (F0 m pc ls (.int x :: rest)) := by
  subst hX
  exact lv_if_eq hE.x hE.b hdg ht (fun h => kt (by rw [h]; rfl)) (fun h => kf (fun z => h (Int32.toInt_inj.mp z)))
theorem z_ne0 (hE : zE g p s m args c cc own nL meth) (hdg : decode cc pc = .ok (.ifCond .ne off, 3)) (ht : (pc : Int) + off = (tgt : Int)) (hX : x.toInt = X)
    (kt : ¬ X = 0 → W p l e R s m args below meth c H locs cells slots Q (F0 m tgt ls rest)) (kf : X = 0 → W p l e R s m args below meth c H locs cells slots Q (F0 m (pc + 3) ls rest)) : W p l e R s m args below meth c H locs cells slots Q (F0 m pc ls (.int x :: rest)) := by
  subst hX
  exact lv_if_ne hE.x hE.b hdg ht (fun h => kt (fun z => h (Int32.toInt_inj.mp z))) (fun h => kf (by rw [h]; rfl))
theorem z_bf {b : Bool} (hE : zE g p s m args c cc own nL meth) (hdg : decode cc pc = .ok (.ifCond .eq off, 3)) (ht : (pc : Int) + off = (tgt : Int))
    (kt : b = false → W p l e R s m args below meth c H locs cells slots Q (F0 m tgt ls rest)) (kf : b = true → W p l e R s m args below meth c H locs cells slots Q (F0 m (pc + 3) ls rest)) : W p l e R s m args below meth c H locs cells slots Q (F0 m pc ls (.int (bI b) :: rest)) := by
  refine lv_if_eq hE.x hE.b hdg ht (fun h => kt ?_) (fun h => kf ?_)
  · cases b
    · rfl
    · exact absurd h (by decide)
  · cases b
    · exact absurd rfl h
    · rfl
theorem z_bt {b : Bool} (hE : zE g p s m args c cc own nL meth) (hdg : decode cc pc = .ok (.ifCond .ne off, 3)) (ht : (pc : Int) + off = (tgt : Int))
    (kt : b = true → W p l e R s m args below meth c H locs cells slots Q (F0 m tgt ls rest)) (kf : b = false → W p l e R s m args below meth c H locs cells slots Q (F0 m (pc + 3) ls rest)) : W p l e R s m args below meth c H locs cells slots Q (F0 m pc ls (.int (bI b) :: rest)) := by
  refine lv_if_ne hE.x hE.b hdg ht (fun h => kt ?_) (fun h => kf ?_)
  · cases b
    · exact absurd rfl h
    · rfl
  · cases b
    · rfl
    · exact absurd h (by decide)
end ZC
