/-! The law's frame: the script. -/
theorem lgc (x : Int64) : lg_cmp x x = nI 0 := by
  unfold lg_cmp
  rw [if_neg (Int64.lt_irrefl (a := x)), if_pos rfl]
  rfl
theorem sub7_toInt {L : Nat} (h : L ≤ 3584) : (nI L - nI 7).toInt = (L : Int) - 7 := by
  rw [Int32.toInt_sub, nI_toInt (by omega), nI_toInt (by decide)]
  rw [Int.bmod_eq_of_le] <;> omega
theorem typF {F : Nat → Int32} {ln : Nat} {x : Int32} (h : F 16 = nI ln) : typeF F ln x 16 = nI (typeN ln x) := by
  unfold typeF typeN
  split
  · split
    · exact h
    · rfl
  · exact h
section ZS
variable {p : Program} {l : Launch} {e : Env} {R : Room} {s : State} {m : MethodId} {args : Array Value} {below : List Frame} {meth : Method} {c : Code} {H : Heap} {locs : List Loc} {cells slots : Nat} {Q : State → Prop}
variable {cc : ByteArray} {pc nL : Nat} {own : String} {ls : Array Slot} {rest : List Value} {g : zG} {ws : va_W}
theorem z_sld {b L9 k : Nat} {xs : Nat → Int32} (hE : zE g p s m args c cc own nL meth) (hB : zB g s ws H locs) (hX : va_X b L9 xs s s.heap) (hbl : b < s.heap.size) (hg : gz g = s.heap.size) (hL : L9 ≤ 3584) (hk : k < L9) (hdg : decode cc pc = .ok (.iaload, 1))
    (kk : W p l e R s m args below meth c H locs cells slots Q (F0 m (pc + 1) ls (.int (xs k) :: rest))) : W p l e R s m args below meth c H locs cells slots Q (F0 m pc ls (.int (nI k) :: .ref b :: rest)) := by
  refine va_sld hE.x hE.b hX hbl (A := zA (gz g)) (fun z => ?_) hB.2.2 (vp_in_nI hk (by omega)) hdg ?_
  · have : gz g ≤ b := z
    omega
  · rw [nI_clamp (by omega)]
    exact kk
theorem z_slen {b L9 : Nat} {xs : Nat → Int32} (hE : zE g p s m args c cc own nL meth) (hB : zB g s ws H locs) (hX : va_X b L9 xs s s.heap) (hbl : b < s.heap.size) (hg : gz g = s.heap.size) (hdg : decode cc pc = .ok (.arraylength, 1))
    (kk : W p l e R s m args below meth c H locs cells slots Q (F0 m (pc + 1) ls (.int (nI L9) :: rest))) : W p l e R s m args below meth c H locs cells slots Q (F0 m pc ls (.ref b :: rest)) := by
  refine va_slen hE.x hE.b hX hbl (A := zA (gz g)) (fun z => ?_) hB.2.2 hdg kk
  have : gz g ≤ b := z
  omega
end ZS
