/-! The four words of the language: string constants. -/
section ZK
variable {p : Program} {l : Launch} {e : Env} {R : Room} {s : State} {m : MethodId} {args : Array Value} {below : List Frame} {meth : Method} {c : Code} {H : Heap} {locs : List Loc} {cells slots : Nat} {Q : State → Prop}
variable {cc : ByteArray} {pc nL : Nat} {own : String} {ls : Array Slot} {rest st : List Value} {g : zG} {ws : va_W}
theorem z_tret {post : Int32 → va_W → Prop} {v : Int32} {ty : FieldType} (hE : zE g p s m args c cc own nL meth) (hB : zB g s ws H locs) (hr : meth.sig.returnType = some ty) (hn : narrow ty (.int v) = .int v) (hp : post v ws) (hdg : decode cc pc = .ok (.ireturn, 1)) : W p l e R s m args below meth c H locs cells slots (MQ below (zQi g post) args s cells slots (zA (gz g))) (F0 m pc ls [.int v]) :=
  W.zret hE.x hE.b hr hn (fun t ht _ => ⟨_, ws, rfl, hp, z_out hB t ht⟩) hB.2.2.2.2 hdg hE.2.2.1
theorem z_kval {i index : Nat} (hi : i < 4) (hE : zE g p s m args c cc own nL meth) (hB : zB g s ws H locs) (hw : Cond.fieldLink own index "java/lang/String" "value" "[B" ∈ TBL) (hdg : decode cc pc = .ok (.getfield index, 3))
    (kk : W p l e R s m args below meth c H locs cells slots Q (F0 m (pc + 3) ls (.ref (gAV g i) :: rest))) : W p l e R s m args below meth c H locs cells slots Q (F0 m pc ls (.ref (gAK g i) :: rest)) :=
  vk_getf hE.x hE.b (hE.2.1.2.2.1.1.1 i hi).2.2.1 hB.2.2 hE.o (hE.t _ hw) (fun _ h => h) hdg kk
theorem z_kcod {i index : Nat} (hi : i < 4) (hE : zE g p s m args c cc own nL meth) (hB : zB g s ws H locs) (hw : Cond.fieldLink own index "java/lang/String" "coder" "B" ∈ TBL) (hdg : decode cc pc = .ok (.getfield index, 3))
    (kk : W p l e R s m args below meth c H locs cells slots Q (F0 m (pc + 3) ls (.int (nI 0) :: rest))) : W p l e R s m args below meth c H locs cells slots Q (F0 m pc ls (.ref (gAK g i) :: rest)) :=
  vk_getf (v := .int 0) hE.x hE.b (hE.2.1.2.2.1.1.1 i hi).2.1 hB.2.2 hE.o (hE.t _ hw) (fun _ h => h) hdg kk
theorem z_klen {i : Nat} (hi : i < 4) (hE : zE g p s m args c cc own nL meth) (hB : zB g s ws H locs) (hdg : decode cc pc = .ok (.arraylength, 1))
    (kk : W p l e R s m args below meth c H locs cells slots Q (F0 m (pc + 1) ls (.int (nI (wdL.getD i 0)) :: rest))) : W p l e R s m args below meth c H locs cells slots Q (F0 m pc ls (.ref (gAV g i) :: rest)) :=
  va_tlen hE.x hE.b (hE.2.1.2.2.1.1.1 i hi).2.2.2 hB.2.2 (v := nI (wdL.getD i 0)) rfl hdg kk
theorem z_kald {i j : Nat} (hi : i < 4) (hE : zE g p s m args c cc own nL meth) (hB : zB g s ws H locs) (hj : j < wdL.getD i 0) (hdg : decode cc pc = .ok (.baload, 1))
    (kk : W p l e R s m args below meth c H locs cells slots Q (F0 m (pc + 1) ls (.int ((wdB.getD i []).getD j 0) :: rest))) : W p l e R s m args below meth c H locs cells slots Q (F0 m pc ls (.int (nI j) :: .ref (gAV g i) :: rest)) := by
  have h6 : ∀ i, i < 4 → wdL.getD i 0 < 7 := by decide
  have := h6 i hi
  exact va_tb hE.x hE.b (hE.2.1.2.2.1.1.1 i hi).2.2.2 hB.2.2 (vp_in_nI hj (by omega)) (v := .int ((wdB.getD i []).getD j 0)) (by rw [nI_clamp (by omega)]) hdg kk
theorem z_kcs {index : Nat} (hE : zE g p s m args c cc own nL meth) (hB : zB g s ws H locs) (hw : Cond.fieldLink own index "java/lang/String" "COMPACT_STRINGS" "Z" ∈ TBL) (hdg : decode cc pc = .ok (.getstatic index, 3))
    (kk : W p l e R s m args below meth c H locs cells slots Q (F0 m (pc + 3) ls (.int (nI 1) :: rest))) : W p l e R s m args below meth c H locs cells slots Q (F0 m pc ls rest) :=
  va_gets (v := .int 1) hE.x hE.b hE.2.1.2.2.1.2.2.1 hB.2.2 hE.o (hE.t _ hw) (fun _ h => h) hdg kk
theorem z_kfm {index : Nat} (hE : zE g p s m args c cc own nL meth) (hB : zB g s ws H locs) (hw : Cond.fieldLink own index "jdk/internal/util/Preconditions" "SIOOBE_FORMATTER" "Ljava/util/function/BiFunction;" ∈ TBL) (hdg : decode cc pc = .ok (.getstatic index, 3))
    (kn : W p l e R s m args below meth c H locs cells slots Q (F0 m (pc + 3) ls (.null :: rest))) (kk : ∀ t : Nat, W p l e R s m args below meth c H locs cells slots Q (F0 m (pc + 3) ls (.ref t :: rest))) : W p l e R s m args below meth c H locs cells slots Q (F0 m pc ls rest) := by
  rcases hE.2.1.2.2.1.2.2.2 with h | ⟨t, h⟩
  · exact va_gets (v := .null) hE.x hE.b h hB.2.2 hE.o (hE.t _ hw) (fun _ h => h) hdg kn
  · exact va_gets (v := .ref t) hE.x hE.b h hB.2.2 hE.o (hE.t _ hw) (fun _ h => h) hdg (kk t)
theorem z_cK {y : MethodName} {C : String} {bytes : ByteArray} {maxL mc ms n index i : Nat} {ret : Option FieldType} {rm : Room} {Qc : Array Value → State → Outcome → State → Prop} {As : List Value} (hE : zE g p s m args c cc own nL meth) (hB : zB g s ws H locs)
    (hM : Met l y (Cond.code y bytes maxL ret :: TBL) rm (zPc (.ref (gAK g i) :: As) g ws) Qc mc ms (zA (gz g))) (w1 : Cond.methodLink own index y ∈ TBL) (kC : zCV y C bytes maxL ret n) (hrm : rm.cells = mc ∧ rm.slots = ms) (hR : rm.frames + 1 ≤ R.frames ∧ 8 + (maxL + 11) + rm.locals ≤ R.locals) (hi : i < 4) (hn : As.length = n) (hsize : ls.size = nL) (hst : st = As.reverse ++ .ref (gAK g i) :: rest) (hW : (rest.map fun v => v.category).sum ≤ 8) (hdg : decode cc pc = .ok (.invokevirtual index, 3)) (hf : cells + mc ≤ R.cells ∧ slots + ms ≤ R.slots) (hC : C = "java/lang/String" := by rfl) :
    va_Run p l e R s m args below meth c H locs cells slots mc ms (F0 m pc ls st) rest (Qc (Value.ref (gAK g i) :: As).toArray) (zA (gz g)) := by
  obtain ⟨k1, k2, k3, k4, k5, k6⟩ := kC
  subst hC
  refine va_runV (Ts := TBL) (own := own) (C := "java/lang/String") hE.1 hM (cwV n hE.t (fun w hw => ?_) rfl hrm.1 hrm.2 ⟨k5, k6⟩ hR) ⟨zPc_blind, vk_recv hE.2.1.2.2.1.1 hi hB.2.2, fun U hU hW => ⟨rfl, hB.in hE U hU hW⟩⟩ rfl hn hsize hst (lv_room (ls := ls) hW) hdg hf
  unfold wsV at hw
  rcases List.mem_append.mp hw with h | h
  · rcases List.mem_cons.mp h with rfl | h
    · exact TBL_good _ w1
    rcases List.mem_cons.mp h with rfl | h
    · exact TBL_good _ k1
    rcases List.mem_cons.mp h with rfl | h
    · exact TBL_good _ k2
    rcases List.mem_cons.mp h with rfl | h
    · exact TBL_good _ k3
    · cases h
  · exact TBL_cons k4 w h
end ZK
