

theorem N_land {p : Program} {l : Launch} {e : Env} {R : Room} {s : State} {m : MethodId} {args : Array Value} {below : List Frame} {meth : Method} {c : Code} {H : Heap} {locs : List Loc} {cells slots : Nat} {Q : State → Prop} {cc : ByteArray} {pc0 nL index : Nat} {own : String} {ls : Array Slot} {rest : List Value} {g : zG} {x9 o : Nat} {a : Nat → Nat} {F : Nat → Int32} {A : Nat → Nat → Int32} {L : Nat → Int64} {ln T C V U : Nat} {W0 : va_W} (hE : zE g p s m args c cc own nL meth) (hB : zB g s W0 H locs) (h16 : F 16 = nI ln) (hk : nOK (A 0) T C V U ∧ ln ≤ 150 ∧ byOK (A 5) ln) (hS : ∃ T' C' V' U' : Nat, cS g x9 (updA A 0 (clr (A 0))) L ln T' C' V' U' (mW g o a F L A) W0) (w1 : Cond.methodLink own index yX9_land ∈ TBL) (hR : 1 + 1 ≤ R.frames ∧ 8 + (2 + 11) + 21 ≤ R.locals) (hf : cells + 0 ≤ R.cells ∧ slots + 0 ≤ R.slots) (hsz : ls.size = nL) (hW9 : (rest.map fun v => v.category).sum ≤ 8) (hdg : decode cc pc0 = .ok (.invokevirtual index, 3))
    (kz : ∀ (W1 : va_W) (H1 : Heap) (locs1 : List Loc), LI g x9 o a W1 → zB g s W1 H1 locs1 → W p l e R s m args below meth c H1 locs1 (cells + 0) (slots + 0) Q (F0 m (pc0 + 3) ls (.int (nI T) :: rest))) : W p l e R s m args below meth c H locs cells slots Q (F0 m pc0 ls (.ref o :: rest)) := by
  obtain ⟨T1, C1, V1, U1, hS⟩ := hS
  obtain ⟨W2, hp, hz⟩ := cS_tail hS
  have hB := zB_perm hB hp
  refine z_qi hB (z_cV hE hB (c_X9_land l g o a F L A W2 T hk.1.T) w1 kX9_land ⟨rfl, rfl⟩ hR 0 rfl rfl rfl hsz rfl hW9 hdg hf) (fun r W1 H locs hw hB => ?_)
  obtain ⟨rfl, rfl⟩ := hw
  exact kz _ _ _ ⟨F, L, (updA A 0 (clr (A 0))), ln, T1, C1, V1, U1, h16, cS_A (hz _) rfl rfl rfl rfl rfl rfl rfl⟩ hB

theorem N_town {p : Program} {l : Launch} {e : Env} {R : Room} {s : State} {m : MethodId} {args : Array Value} {below : List Frame} {meth : Method} {c : Code} {H : Heap} {locs : List Loc} {cells slots : Nat} {Q : State → Prop} {cc : ByteArray} {pc0 nL index : Nat} {own : String} {ls : Array Slot} {rest : List Value} {g : zG} {x9 o : Nat} {a : Nat → Nat} {F : Nat → Int32} {A : Nat → Nat → Int32} {L : Nat → Int64} {ln T C V U : Nat} {W0 : va_W} {rg : Int32} (hE : zE g p s m args c cc own nL meth) (hB : zB g s W0 H locs) (h16 : F 16 = nI ln) (hk : nOK (A 0) T C V U ∧ ln ≤ 150 ∧ byOK (A 5) ln) (hS : ∃ T' C' V' U' : Nat, cS g x9 (townA A T rg) L ln T' C' V' U' (mW g o a F L A) W0) (w1 : Cond.methodLink own index yX9_town ∈ TBL) (hR : 1 + 1 ≤ R.frames ∧ 8 + (2 + 11) + 25 ≤ R.locals) (hf : cells + 0 ≤ R.cells ∧ slots + 0 ≤ R.slots) (hsz : ls.size = nL) (hW9 : (rest.map fun v => v.category).sum ≤ 8) (hdg : decode cc pc0 = .ok (.invokevirtual index, 3))
    (kz : ∀ (W1 : va_W) (H1 : Heap) (locs1 : List Loc), LI g x9 o a W1 → zB g s W1 H1 locs1 → W p l e R s m args below meth c H1 locs1 (cells + 0) (slots + 0) Q (F0 m (pc0 + 3) ls (.int (townR T rg) :: rest))) : W p l e R s m args below meth c H locs cells slots Q (F0 m pc0 ls (.int rg :: .ref o :: rest)) := by
  obtain ⟨T1, C1, V1, U1, hS⟩ := hS
  obtain ⟨W2, hp, hz⟩ := cS_tail hS
  have hB := zB_perm hB hp
  refine z_qi hB (z_cV hE hB (c_X9_town l g o a F L A W2 T C V U rg hk.1) w1 kX9_town ⟨rfl, rfl⟩ hR 0 rfl rfl rfl hsz rfl hW9 hdg hf) (fun r W1 H locs hw hB => ?_)
  obtain ⟨rfl, rfl⟩ := hw
  exact kz _ _ _ ⟨F, L, (townA A T rg), ln, T1, C1, V1, U1, h16, cS_A (hz _) rfl rfl rfl rfl rfl rfl rfl⟩ hB

theorem N_road {p : Program} {l : Launch} {e : Env} {R : Room} {s : State} {m : MethodId} {args : Array Value} {below : List Frame} {meth : Method} {c : Code} {H : Heap} {locs : List Loc} {cells slots : Nat} {Q : State → Prop} {cc : ByteArray} {pc0 nL index : Nat} {own : String} {ls : Array Slot} {rest : List Value} {g : zG} {x9 o : Nat} {a : Nat → Nat} {F : Nat → Int32} {A : Nat → Nat → Int32} {L : Nat → Int64} {ln T C V U : Nat} {W0 : va_W} {x : Int32} {y : Int32} {dv : Int32} (hE : zE g p s m args c cc own nL meth) (hB : zB g s W0 H locs) (h16 : F 16 = nI ln) (hk : nOK (A 0) T C V U ∧ ln ≤ 150 ∧ byOK (A 5) ln) (hS : ∃ T' C' V' U' : Nat, cS g x9 (roadA A T x y dv) L ln T' C' V' U' (mW g o a F L A) W0) (w1 : Cond.methodLink own index yX9_road ∈ TBL) (hR : 2 + 1 ≤ R.frames ∧ 8 + (5 + 11) + 46 ≤ R.locals) (hf : cells + 0 ≤ R.cells ∧ slots + 0 ≤ R.slots) (hsz : ls.size = nL) (hW9 : (rest.map fun v => v.category).sum ≤ 8) (hdg : decode cc pc0 = .ok (.invokevirtual index, 3))
    (kz : ∀ (W1 : va_W) (H1 : Heap) (locs1 : List Loc), LI g x9 o a W1 → zB g s W1 H1 locs1 → W p l e R s m args below meth c H1 locs1 (cells + 0) (slots + 0) Q (F0 m (pc0 + 3) ls (.int (roadR (A 0) T x y dv) :: rest))) : W p l e R s m args below meth c H locs cells slots Q (F0 m pc0 ls (.int dv :: .int y :: .int x :: .ref o :: rest)) := by
  obtain ⟨T1, C1, V1, U1, hS⟩ := hS
  obtain ⟨W2, hp, hz⟩ := cS_tail hS
  have hB := zB_perm hB hp
  refine z_qi hB (z_cV hE hB (c_X9_road l g o a F L A W2 T C V U x y dv hk.1) w1 kX9_road ⟨rfl, rfl⟩ hR 0 rfl rfl rfl hsz rfl hW9 hdg hf) (fun r W1 H locs hw hB => ?_)
  obtain ⟨rfl, rfl⟩ := hw
  exact kz _ _ _ ⟨F, L, (roadA A T x y dv), ln, T1, C1, V1, U1, h16, cS_A (hz _) rfl rfl rfl rfl rfl rfl rfl⟩ hB

theorem N_clause {p : Program} {l : Launch} {e : Env} {R : Room} {s : State} {m : MethodId} {args : Array Value} {below : List Frame} {meth : Method} {c : Code} {H : Heap} {locs : List Loc} {cells slots : Nat} {Q : State → Prop} {cc : ByteArray} {pc0 nL index : Nat} {own : String} {ls : Array Slot} {rest : List Value} {g : zG} {x9 o : Nat} {a : Nat → Nat} {F : Nat → Int32} {A : Nat → Nat → Int32} {L : Nat → Int64} {ln T C V U : Nat} {W0 : va_W} {kk : Int32} {ac : Int32} {fr : Int32} {ti : Int32} {w : Int32} (hE : zE g p s m args c cc own nL meth) (hB : zB g s W0 H locs) (h16 : F 16 = nI ln) (hk : nOK (A 0) T C V U ∧ ln ≤ 150 ∧ byOK (A 5) ln) (hS : ∃ T' C' V' U' : Nat, cS g x9 (clauseA A C U kk ac fr ti w) L ln T' C' V' U' (mW g o a F L A) W0) (w1 : Cond.methodLink own index yX9_clause ∈ TBL) (hR : 2 + 1 ≤ R.frames ∧ 8 + (6 + 11) + 45 ≤ R.locals) (hf : cells + 0 ≤ R.cells ∧ slots + 0 ≤ R.slots) (hsz : ls.size = nL) (hW9 : (rest.map fun v => v.category).sum ≤ 8) (hdg : decode cc pc0 = .ok (.invokevirtual index, 3))
    (kz : ∀ (W1 : va_W) (H1 : Heap) (locs1 : List Loc), LI g x9 o a W1 → zB g s W1 H1 locs1 → W p l e R s m args below meth c H1 locs1 (cells + 0) (slots + 0) Q (F0 m (pc0 + 3) ls (.int (clauseR C kk ac fr ti w) :: rest))) : W p l e R s m args below meth c H locs cells slots Q (F0 m pc0 ls (.int w :: .int ti :: .int fr :: .int ac :: .int kk :: .ref o :: rest)) := by
  obtain ⟨T1, C1, V1, U1, hS⟩ := hS
  obtain ⟨W2, hp, hz⟩ := cS_tail hS
  have hB := zB_perm hB hp
  refine z_qi hB (z_cV hE hB (c_X9_clause l g o a F L A W2 T C V U kk ac fr ti w hk.1) w1 kX9_clause ⟨rfl, rfl⟩ hR 0 rfl rfl rfl hsz rfl hW9 hdg hf) (fun r W1 H locs hw hB => ?_)
  obtain ⟨rfl, rfl⟩ := hw
  exact kz _ _ _ ⟨F, L, (clauseA A C U kk ac fr ti w), ln, T1, C1, V1, U1, h16, cS_A (hz _) rfl rfl rfl rfl rfl rfl rfl⟩ hB

theorem N_strike {p : Program} {l : Launch} {e : Env} {R : Room} {s : State} {m : MethodId} {args : Array Value} {below : List Frame} {meth : Method} {c : Code} {H : Heap} {locs : List Loc} {cells slots : Nat} {Q : State → Prop} {cc : ByteArray} {pc0 nL index : Nat} {own : String} {ls : Array Slot} {rest : List Value} {g : zG} {x9 o : Nat} {a : Nat → Nat} {F : Nat → Int32} {A : Nat → Nat → Int32} {L : Nat → Int64} {ln T C V U : Nat} {W0 : va_W} {x : Int32} (hE : zE g p s m args c cc own nL meth) (hB : zB g s W0 H locs) (h16 : F 16 = nI ln) (hk : nOK (A 0) T C V U ∧ ln ≤ 150 ∧ byOK (A 5) ln) (hS : ∃ T' C' V' U' : Nat, cS g x9 (strikeA A C U x) L ln T' C' V' U' (mW g o a F L A) W0) (w1 : Cond.methodLink own index yX9_strike ∈ TBL) (hR : 2 + 1 ≤ R.frames ∧ 8 + (3 + 11) + 46 ≤ R.locals) (hf : cells + 0 ≤ R.cells ∧ slots + 0 ≤ R.slots) (hsz : ls.size = nL) (hW9 : (rest.map fun v => v.category).sum ≤ 8) (hdg : decode cc pc0 = .ok (.invokevirtual index, 3))
    (kz : ∀ (W1 : va_W) (H1 : Heap) (locs1 : List Loc), LI g x9 o a W1 → zB g s W1 H1 locs1 → W p l e R s m args below meth c H1 locs1 (cells + 0) (slots + 0) Q (F0 m (pc0 + 3) ls (.int (strikeR C x) :: rest))) : W p l e R s m args below meth c H locs cells slots Q (F0 m pc0 ls (.int x :: .ref o :: rest)) := by
  obtain ⟨T1, C1, V1, U1, hS⟩ := hS
  obtain ⟨W2, hp, hz⟩ := cS_tail hS
  have hB := zB_perm hB hp
  refine z_qi hB (z_cV hE hB (c_X9_strike l g o a F L A W2 T C V U x hk.1) w1 kX9_strike ⟨rfl, rfl⟩ hR 0 rfl rfl rfl hsz rfl hW9 hdg hf) (fun r W1 H locs hw hB => ?_)
  obtain ⟨rfl, rfl⟩ := hw
  exact kz _ _ _ ⟨F, L, (strikeA A C U x), ln, T1, C1, V1, U1, h16, cS_A (hz _) rfl rfl rfl rfl rfl rfl rfl⟩ hB

theorem N_undo {p : Program} {l : Launch} {e : Env} {R : Room} {s : State} {m : MethodId} {args : Array Value} {below : List Frame} {meth : Method} {c : Code} {H : Heap} {locs : List Loc} {cells slots : Nat} {Q : State → Prop} {cc : ByteArray} {pc0 nL index : Nat} {own : String} {ls : Array Slot} {rest : List Value} {g : zG} {x9 o : Nat} {a : Nat → Nat} {F : Nat → Int32} {A : Nat → Nat → Int32} {L : Nat → Int64} {ln T C V U : Nat} {W0 : va_W} (hE : zE g p s m args c cc own nL meth) (hB : zB g s W0 H locs) (h16 : F 16 = nI ln) (hk : nOK (A 0) T C V U ∧ ln ≤ 150 ∧ byOK (A 5) ln) (hS : ∃ T' C' V' U' : Nat, cS g x9 (undoA A U) L ln T' C' V' U' (mW g o a F L A) W0) (w1 : Cond.methodLink own index yX9_undo ∈ TBL) (hR : 1 + 1 ≤ R.frames ∧ 8 + (3 + 11) + 20 ≤ R.locals) (hf : cells + 0 ≤ R.cells ∧ slots + 0 ≤ R.slots) (hsz : ls.size = nL) (hW9 : (rest.map fun v => v.category).sum ≤ 8) (hdg : decode cc pc0 = .ok (.invokevirtual index, 3))
    (kz : ∀ (W1 : va_W) (H1 : Heap) (locs1 : List Loc), LI g x9 o a W1 → zB g s W1 H1 locs1 → W p l e R s m args below meth c H1 locs1 (cells + 0) (slots + 0) Q (F0 m (pc0 + 3) ls (.int (undoR (A 0) U) :: rest))) : W p l e R s m args below meth c H locs cells slots Q (F0 m pc0 ls (.ref o :: rest)) := by
  obtain ⟨T1, C1, V1, U1, hS⟩ := hS
  obtain ⟨W2, hp, hz⟩ := cS_tail hS
  have hB := zB_perm hB hp
  refine z_qi hB (z_cV hE hB (c_X9_undo l g o a F L A W2 T C V U hk.1) w1 kX9_undo ⟨rfl, rfl⟩ hR 0 rfl rfl rfl hsz rfl hW9 hdg hf) (fun r W1 H locs hw hB => ?_)
  obtain ⟨rfl, rfl⟩ := hw
  exact kz _ _ _ ⟨F, L, (undoA A U), ln, T1, C1, V1, U1, h16, cS_A (hz _) rfl rfl rfl rfl rfl rfl rfl⟩ hB

theorem N_type {p : Program} {l : Launch} {e : Env} {R : Room} {s : State} {m : MethodId} {args : Array Value} {below : List Frame} {meth : Method} {c : Code} {H : Heap} {locs : List Loc} {cells slots : Nat} {Q : State → Prop} {cc : ByteArray} {pc0 nL index : Nat} {own : String} {ls : Array Slot} {rest : List Value} {g : zG} {x9 o : Nat} {a : Nat → Nat} {F : Nat → Int32} {A : Nat → Nat → Int32} {L : Nat → Int64} {ln T C V U : Nat} {W0 : va_W} {c9 : Int32} (hE : zE g p s m args c cc own nL meth) (hB : zB g s W0 H locs) (h16 : F 16 = nI ln) (hk : nOK (A 0) T C V U ∧ ln ≤ 150 ∧ byOK (A 5) ln) (hS : ∃ T' C' V' U' : Nat, cS g x9 (typeA A ln c9) L (typeN ln c9) T' C' V' U' (mW g o a F L A) W0) (w1 : Cond.methodLink own index yX9_type ∈ TBL) (hR : 1 + 1 ≤ R.frames ∧ 8 + (2 + 11) + 25 ≤ R.locals) (hf : cells + 0 ≤ R.cells ∧ slots + 0 ≤ R.slots) (hsz : ls.size = nL) (hW9 : (rest.map fun v => v.category).sum ≤ 8) (hdg : decode cc pc0 = .ok (.invokevirtual index, 3))
    (kz : ∀ (W1 : va_W) (H1 : Heap) (locs1 : List Loc), LI g x9 o a W1 → zB g s W1 H1 locs1 → W p l e R s m args below meth c H1 locs1 (cells + 0) (slots + 0) Q (F0 m (pc0 + 3) ls (.int (typeR ln c9) :: rest))) : W p l e R s m args below meth c H locs cells slots Q (F0 m pc0 ls (.int c9 :: .ref o :: rest)) := by
  obtain ⟨T1, C1, V1, U1, hS⟩ := hS
  obtain ⟨W2, hp, hz⟩ := cS_tail hS
  have hB := zB_perm hB hp
  refine z_qi hB (z_cV hE hB (c_X9_type l g o a F L A W2 ln c9 h16 hk.2.1) w1 kX9_type ⟨rfl, rfl⟩ hR 0 rfl rfl rfl hsz rfl hW9 hdg hf) (fun r W1 H locs hw hB => ?_)
  obtain ⟨rfl, rfl⟩ := hw
  exact kz _ _ _ ⟨(typeF F ln c9), L, (typeA A ln c9), (typeN ln c9), T1, C1, V1, U1, (typF h16), cS_A (hz _) rfl rfl rfl rfl rfl rfl rfl⟩ hB

theorem N_clear {p : Program} {l : Launch} {e : Env} {R : Room} {s : State} {m : MethodId} {args : Array Value} {below : List Frame} {meth : Method} {c : Code} {H : Heap} {locs : List Loc} {cells slots : Nat} {Q : State → Prop} {cc : ByteArray} {pc0 nL index : Nat} {own : String} {ls : Array Slot} {rest : List Value} {g : zG} {x9 o : Nat} {a : Nat → Nat} {F : Nat → Int32} {A : Nat → Nat → Int32} {L : Nat → Int64} {ln T C V U : Nat} {W0 : va_W} (hE : zE g p s m args c cc own nL meth) (hB : zB g s W0 H locs) (h16 : F 16 = nI ln) (hk : nOK (A 0) T C V U ∧ ln ≤ 150 ∧ byOK (A 5) ln) (hS : ∃ T' C' V' U' : Nat, cS g x9 A L 0 T' C' V' U' (mW g o a F L A) W0) (w1 : Cond.methodLink own index yX9_clear ∈ TBL) (hR : 0 + 1 ≤ R.frames ∧ 8 + (2 + 11) + 0 ≤ R.locals) (hf : cells + 0 ≤ R.cells ∧ slots + 0 ≤ R.slots) (hsz : ls.size = nL) (hW9 : (rest.map fun v => v.category).sum ≤ 8) (hdg : decode cc pc0 = .ok (.invokevirtual index, 3))
    (kz : ∀ (W1 : va_W) (H1 : Heap) (locs1 : List Loc), LI g x9 o a W1 → zB g s W1 H1 locs1 → W p l e R s m args below meth c H1 locs1 (cells + 0) (slots + 0) Q (F0 m (pc0 + 3) ls (.int (nI ln) :: rest))) : W p l e R s m args below meth c H locs cells slots Q (F0 m pc0 ls (.ref o :: rest)) := by
  obtain ⟨T1, C1, V1, U1, hS⟩ := hS
  obtain ⟨W2, hp, hz⟩ := cS_tail hS
  have hB := zB_perm hB hp
  refine z_qi hB (z_cV hE hB (c_X9_clear l g o a F L A W2 ln h16 hk.2.1) w1 kX9_clear ⟨rfl, rfl⟩ hR 0 rfl rfl rfl hsz rfl hW9 hdg hf) (fun r W1 H locs hw hB => ?_)
  obtain ⟨rfl, rfl⟩ := hw
  exact kz _ _ _ ⟨(upd F 16 (nI 0)), L, A, 0, T1, C1, V1, U1, rfl, cS_A (hz _) rfl rfl rfl rfl rfl rfl rfl⟩ hB

theorem N_read {p : Program} {l : Launch} {e : Env} {R : Room} {s : State} {m : MethodId} {args : Array Value} {below : List Frame} {meth : Method} {c : Code} {H : Heap} {locs : List Loc} {cells slots : Nat} {Q : State → Prop} {cc : ByteArray} {pc0 nL index : Nat} {own : String} {ls : Array Slot} {rest : List Value} {g : zG} {x9 o : Nat} {a : Nat → Nat} {F : Nat → Int32} {A : Nat → Nat → Int32} {L : Nat → Int64} {ln T C V U : Nat} {W0 : va_W} (hE : zE g p s m args c cc own nL meth) (hB : zB g s W0 H locs) (h16 : F 16 = nI ln) (hk : nOK (A 0) T C V U ∧ ln ≤ 150 ∧ byOK (A 5) ln) (hS : ∃ T' C' V' U' : Nat, cS g x9 (updA A 0 (nRd (pRead (A 5) ln (clr (A 6))) (A 0))) L ln T' C' V' U' (mW g o a F L A) W0) (w1 : Cond.methodLink own index yX9_read ∈ TBL) (hR : 7 + 1 ≤ R.frames ∧ 8 + (3 + 11) + 152 ≤ R.locals) (hf : cells + 0 ≤ R.cells ∧ slots + 0 ≤ R.slots) (hsz : ls.size = nL) (hW9 : (rest.map fun v => v.category).sum ≤ 8) (hdg : decode cc pc0 = .ok (.invokevirtual index, 3))
    (kz : ∀ (W1 : va_W) (H1 : Heap) (locs1 : List Loc), LI g x9 o a W1 → zB g s W1 H1 locs1 → W p l e R s m args below meth c H1 locs1 (cells + 0) (slots + 0) Q (F0 m (pc0 + 3) ls (.int (xI (pRead (A 5) ln (clr (A 6)))) :: rest))) : W p l e R s m args below meth c H locs cells slots Q (F0 m pc0 ls (.ref o :: rest)) := by
  obtain ⟨T1, C1, V1, U1, hS⟩ := hS
  obtain ⟨W2, hp, hz⟩ := cS_tail hS
  have hB := zB_perm hB hp
  refine z_qi hB (z_cV hE hB (c_X9_read l g o a F L A W2 ln h16 hk.2.1 hk.2.2) w1 kX9_read ⟨rfl, rfl⟩ hR 0 rfl rfl rfl hsz rfl hW9 hdg hf) (fun r W1 H locs hw hB => ?_)
  obtain ⟨F1, f0, f6, f7, rfl, rfl, h09, rfl⟩ := hw
  exact kz _ _ _ ⟨F1, L, (updA (updA (updA A 0 (nRd (pRead (A 5) ln (clr (A 6))) (A 0))) 6 f6) 7 f7), ln, T1, C1, V1, U1, (h09.trans h16), cS_A (hz _) rfl rfl rfl rfl rfl rfl rfl⟩ hB

theorem N_of {p : Program} {l : Launch} {e : Env} {R : Room} {s : State} {m : MethodId} {args : Array Value} {below : List Frame} {meth : Method} {c : Code} {H : Heap} {locs : List Loc} {cells slots : Nat} {Q : State → Prop} {cc : ByteArray} {pc0 nL index : Nat} {own : String} {ls : Array Slot} {rest : List Value} {g : zG} {x9 o : Nat} {a : Nat → Nat} {F : Nat → Int32} {A : Nat → Nat → Int32} {L : Nat → Int64} {ln T C V U : Nat} {W0 : va_W} {x : Int32} {w : Int32} (hE : zE g p s m args c cc own nL meth) (hB : zB g s W0 H locs) (h16 : F 16 = nI ln) (hk : nOK (A 0) T C V U ∧ ln ≤ 150 ∧ byOK (A 5) ln) (hS : ∃ T' C' V' U' : Nat, cS g x9 (chk (ofOK C x w) A) L ln T' C' V' U' (mW g o a F L A) W0) (w1 : Cond.methodLink own index yX9_of ∈ TBL) (hR : 2 + 1 ≤ R.frames ∧ 8 + (3 + 11) + 46 ≤ R.locals) (hf : cells + 0 ≤ R.cells ∧ slots + 0 ≤ R.slots) (hsz : ls.size = nL) (hW9 : (rest.map fun v => v.category).sum ≤ 8) (hdg : decode cc pc0 = .ok (.invokevirtual index, 3))
    (kz : ∀ (W1 : va_W) (H1 : Heap) (locs1 : List Loc), LI g x9 o a W1 → zB g s W1 H1 locs1 → W p l e R s m args below meth c H1 locs1 (cells + 0) (slots + 0) Q (F0 m (pc0 + 3) ls (.int (ofR (A 0) C x w) :: rest))) : W p l e R s m args below meth c H locs cells slots Q (F0 m pc0 ls (.int w :: .int x :: .ref o :: rest)) := by
  obtain ⟨T1, C1, V1, U1, hS⟩ := hS
  obtain ⟨W2, hp, hz⟩ := cS_tail hS
  have hB := zB_perm hB hp
  refine z_qi hB (z_cV hE hB (c_X9_of l g o a F L A W2 T C V U x w hk.1) w1 kX9_of ⟨rfl, rfl⟩ hR 0 rfl rfl rfl hsz rfl hW9 hdg hf) (fun r W1 H locs hw hB => ?_)
  obtain ⟨rfl, rfl⟩ := hw
  exact kz _ _ _ ⟨F, L, (chk (ofOK C x w) A), ln, T1, C1, V1, U1, h16, cS_A (hz _) rfl rfl rfl rfl rfl rfl rfl⟩ hB

theorem N_far {p : Program} {l : Launch} {e : Env} {R : Room} {s : State} {m : MethodId} {args : Array Value} {below : List Frame} {meth : Method} {c : Code} {H : Heap} {locs : List Loc} {cells slots : Nat} {Q : State → Prop} {cc : ByteArray} {pc0 nL index : Nat} {own : String} {ls : Array Slot} {rest : List Value} {g : zG} {x9 o : Nat} {a : Nat → Nat} {F : Nat → Int32} {A : Nat → Nat → Int32} {L : Nat → Int64} {ln T C V U : Nat} {W0 : va_W} {x : Int32} {y : Int32} (hE : zE g p s m args c cc own nL meth) (hB : zB g s W0 H locs) (h16 : F 16 = nI ln) (hk : nOK (A 0) T C V U ∧ ln ≤ 150 ∧ byOK (A 5) ln) (hS : ∃ T' C' V' U' : Nat, cS g x9 (chk (pTown T x && pTown T y) A) L ln T' C' V' U' (mW g o a F L A) W0) (w1 : Cond.methodLink own index yX9_far ∈ TBL) (hR : 2 + 1 ≤ R.frames ∧ 8 + (3 + 11) + 46 ≤ R.locals) (hf : cells + 0 ≤ R.cells ∧ slots + 0 ≤ R.slots) (hsz : ls.size = nL) (hW9 : (rest.map fun v => v.category).sum ≤ 8) (hdg : decode cc pc0 = .ok (.invokevirtual index, 3))
    (kz : ∀ (W1 : va_W) (H1 : Heap) (locs1 : List Loc), LI g x9 o a W1 → zB g s W1 H1 locs1 → W p l e R s m args below meth c H1 locs1 (cells + 0) (slots + 0) Q (F0 m (pc0 + 3) ls (.int (farR (A 0) T x y) :: rest))) : W p l e R s m args below meth c H locs cells slots Q (F0 m pc0 ls (.int y :: .int x :: .ref o :: rest)) := by
  obtain ⟨T1, C1, V1, U1, hS⟩ := hS
  obtain ⟨W2, hp, hz⟩ := cS_tail hS
  have hB := zB_perm hB hp
  refine z_qi hB (z_cV hE hB (c_X9_far l g o a F L A W2 T C V U x y hk.1) w1 kX9_far ⟨rfl, rfl⟩ hR 0 rfl rfl rfl hsz rfl hW9 hdg hf) (fun r W1 H locs hw hB => ?_)
  obtain ⟨f1, rfl, rfl⟩ := hw
  exact kz _ _ _ ⟨F, L, (updA (chk (pTown T x && pTown T y) A) 4 f1), ln, T1, C1, V1, U1, h16, cS_A (hz _) rfl rfl rfl rfl rfl rfl rfl⟩ hB

theorem N_allowed {p : Program} {l : Launch} {e : Env} {R : Room} {s : State} {m : MethodId} {args : Array Value} {below : List Frame} {meth : Method} {c : Code} {H : Heap} {locs : List Loc} {cells slots : Nat} {Q : State → Prop} {cc : ByteArray} {pc0 nL index : Nat} {own : String} {ls : Array Slot} {rest : List Value} {g : zG} {x9 o : Nat} {a : Nat → Nat} {F : Nat → Int32} {A : Nat → Nat → Int32} {L : Nat → Int64} {ln T C V U : Nat} {W0 : va_W} {tw : Int32} {ac : Int32} {dd : Int32} {dy : Int32} {sh : Int32} {w : Int32} (hE : zE g p s m args c cc own nL meth) (hB : zB g s W0 H locs) (h16 : F 16 = nI ln) (hk : nOK (A 0) T C V U ∧ ln ≤ 150 ∧ byOK (A 5) ln) (hS : ∃ T' C' V' U' : Nat, cS g x9 (chk (askOK T tw ac dd dy sh && pIn 0 1 w) A) L ln T' C' V' U' (mW g o a F L A) W0) (w1 : Cond.methodLink own index yX9_allowed ∈ TBL) (hR : 5 + 1 ≤ R.frames ∧ 8 + (8 + 11) + 127 ≤ R.locals) (hf : cells + 0 ≤ R.cells ∧ slots + 0 ≤ R.slots) (hsz : ls.size = nL) (hW9 : (rest.map fun v => v.category).sum ≤ 8) (hdg : decode cc pc0 = .ok (.invokevirtual index, 3))
    (kz : ∀ (W1 : va_W) (H1 : Heap) (locs1 : List Loc), LI g x9 o a W1 → zB g s W1 H1 locs1 → W p l e R s m args below meth c H1 locs1 (cells + 0) (slots + 0) Q (F0 m (pc0 + 3) ls (.int (allowedR (A 0) T C tw ac dd dy sh w) :: rest))) : W p l e R s m args below meth c H locs cells slots Q (F0 m pc0 ls (.int w :: .int sh :: .int dy :: .int dd :: .int ac :: .int tw :: .ref o :: rest)) := by
  obtain ⟨T1, C1, V1, U1, hS⟩ := hS
  obtain ⟨W2, hp, hz⟩ := cS_tail hS
  have hB := zB_perm hB hp
  refine z_qi hB (z_cV hE hB (c_X9_allowed l g o a F L A W2 T C V U tw ac dd dy sh w hk.1) w1 kX9_allowed ⟨rfl, rfl⟩ hR 0 rfl rfl rfl hsz rfl hW9 hdg hf) (fun r W1 H locs hw hB => ?_)
  obtain ⟨F1, rfl, rfl, h09⟩ := hw
  exact kz _ _ _ ⟨F1, L, (chk (askOK T tw ac dd dy sh && pIn 0 1 w) A), ln, T1, C1, V1, U1, (h09.trans h16), cS_A (hz _) rfl rfl rfl rfl rfl rfl rfl⟩ hB

theorem N_nearest {p : Program} {l : Launch} {e : Env} {R : Room} {s : State} {m : MethodId} {args : Array Value} {below : List Frame} {meth : Method} {c : Code} {H : Heap} {locs : List Loc} {cells slots : Nat} {Q : State → Prop} {cc : ByteArray} {pc0 nL index : Nat} {own : String} {ls : Array Slot} {rest : List Value} {g : zG} {x9 o : Nat} {a : Nat → Nat} {F : Nat → Int32} {A : Nat → Nat → Int32} {L : Nat → Int64} {ln T C V U : Nat} {W0 : va_W} {tw : Int32} {ac : Int32} {dd : Int32} {dy : Int32} {sh : Int32} {w : Int32} (hE : zE g p s m args c cc own nL meth) (hB : zB g s W0 H locs) (h16 : F 16 = nI ln) (hk : nOK (A 0) T C V U ∧ ln ≤ 150 ∧ byOK (A 5) ln) (hS : ∃ T' C' V' U' : Nat, cS g x9 (chk (askOK T tw ac dd dy sh && pIn 0 2 w) A) L ln T' C' V' U' (mW g o a F L A) W0) (w1 : Cond.methodLink own index yX9_nearest ∈ TBL) (hR : 6 + 1 ≤ R.frames ∧ 8 + (11 + 11) + 154 ≤ R.locals) (hf : cells + 0 ≤ R.cells ∧ slots + 0 ≤ R.slots) (hsz : ls.size = nL) (hW9 : (rest.map fun v => v.category).sum ≤ 8) (hdg : decode cc pc0 = .ok (.invokevirtual index, 3))
    (kz : ∀ (W1 : va_W) (H1 : Heap) (locs1 : List Loc), LI g x9 o a W1 → zB g s W1 H1 locs1 → W p l e R s m args below meth c H1 locs1 (cells + 0) (slots + 0) Q (F0 m (pc0 + 3) ls (.int (nearestR (A 0) T C tw ac dd dy sh w) :: rest))) : W p l e R s m args below meth c H locs cells slots Q (F0 m pc0 ls (.int w :: .int sh :: .int dy :: .int dd :: .int ac :: .int tw :: .ref o :: rest)) := by
  obtain ⟨T1, C1, V1, U1, hS⟩ := hS
  obtain ⟨W2, hp, hz⟩ := cS_tail hS
  have hB := zB_perm hB hp
  refine z_qi hB (z_cV hE hB (c_X9_nearest l g o a F L A W2 T C V U tw ac dd dy sh w hk.1) w1 kX9_nearest ⟨rfl, rfl⟩ hR 0 rfl rfl rfl hsz rfl hW9 hdg hf) (fun r W1 H locs hw hB => ?_)
  obtain ⟨F2, f1, rfl, rfl, h09⟩ := hw
  exact kz _ _ _ ⟨F2, L, (updA (chk (askOK T tw ac dd dy sh && pIn 0 2 w) A) 4 f1), ln, T1, C1, V1, U1, (h09.trans h16), cS_A (hz _) rfl rfl rfl rfl rfl rfl rfl⟩ hB

theorem N_contradict {p : Program} {l : Launch} {e : Env} {R : Room} {s : State} {m : MethodId} {args : Array Value} {below : List Frame} {meth : Method} {c : Code} {H : Heap} {locs : List Loc} {cells slots : Nat} {Q : State → Prop} {cc : ByteArray} {pc0 nL index : Nat} {own : String} {ls : Array Slot} {rest : List Value} {g : zG} {x9 o : Nat} {a : Nat → Nat} {F : Nat → Int32} {A : Nat → Nat → Int32} {L : Nat → Int64} {ln T C V U : Nat} {W0 : va_W} {ac : Int32} {dd : Int32} {i : Int32} (hE : zE g p s m args c cc own nL meth) (hB : zB g s W0 H locs) (h16 : F 16 = nI ln) (hk : nOK (A 0) T C V U ∧ ln ≤ 150 ∧ byOK (A 5) ln) (hS : ∃ T' C' V' U' : Nat, cS g x9 (chk (contradictOK ac dd i) A) L ln T' C' V' U' (mW g o a F L A) W0) (w1 : Cond.methodLink own index yX9_contradict ∈ TBL) (hR : 6 + 1 ≤ R.frames ∧ 8 + (8 + 11) + 154 ≤ R.locals) (hf : cells + 0 ≤ R.cells ∧ slots + 0 ≤ R.slots) (hsz : ls.size = nL) (hW9 : (rest.map fun v => v.category).sum ≤ 8) (hdg : decode cc pc0 = .ok (.invokevirtual index, 3))
    (kz : ∀ (W1 : va_W) (H1 : Heap) (locs1 : List Loc), LI g x9 o a W1 → zB g s W1 H1 locs1 → W p l e R s m args below meth c H1 locs1 (cells + 0) (slots + 0) Q (F0 m (pc0 + 3) ls (.int (contradictR (A 0) T C ac dd i) :: rest))) : W p l e R s m args below meth c H locs cells slots Q (F0 m pc0 ls (.int i :: .int dd :: .int ac :: .ref o :: rest)) := by
  obtain ⟨T1, C1, V1, U1, hS⟩ := hS
  obtain ⟨W2, hp, hz⟩ := cS_tail hS
  have hB := zB_perm hB hp
  refine z_qi hB (z_cV hE hB (c_X9_contradict l g o a F L A W2 T C V U ac dd i hk.1) w1 kX9_contradict ⟨rfl, rfl⟩ hR 0 rfl rfl rfl hsz rfl hW9 hdg hf) (fun r W1 H locs hw hB => ?_)
  obtain ⟨F1, rfl, rfl, h09⟩ := hw
  exact kz _ _ _ ⟨F1, L, (chk (contradictOK ac dd i) A), ln, T1, C1, V1, U1, (h09.trans h16), cS_A (hz _) rfl rfl rfl rfl rfl rfl rfl⟩ hB

theorem N_settle {p : Program} {l : Launch} {e : Env} {R : Room} {s : State} {m : MethodId} {args : Array Value} {below : List Frame} {meth : Method} {c : Code} {H : Heap} {locs : List Loc} {cells slots : Nat} {Q : State → Prop} {cc : ByteArray} {pc0 nL index : Nat} {own : String} {ls : Array Slot} {rest : List Value} {g : zG} {x9 o : Nat} {a : Nat → Nat} {F : Nat → Int32} {A : Nat → Nat → Int32} {L : Nat → Int64} {ln T C V U : Nat} {W0 : va_W} {ac : Int32} {dd : Int32} (hE : zE g p s m args c cc own nL meth) (hB : zB g s W0 H locs) (h16 : F 16 = nI ln) (hk : nOK (A 0) T C V U ∧ ln ≤ 150 ∧ byOK (A 5) ln) (hS : ∃ T' C' V' U' : Nat, cS g x9 (chk (pIn 0 63 ac && pIn 0 59 dd) A) L ln T' C' V' U' (mW g o a F L A) W0) (w1 : Cond.methodLink own index yX9_settle ∈ TBL) (hR : 7 + 1 ≤ R.frames ∧ 8 + (6 + 11) + 180 ≤ R.locals) (hf : cells + 0 ≤ R.cells ∧ slots + 0 ≤ R.slots) (hsz : ls.size = nL) (hW9 : (rest.map fun v => v.category).sum ≤ 8) (hdg : decode cc pc0 = .ok (.invokevirtual index, 3))
    (kz : ∀ (W1 : va_W) (H1 : Heap) (locs1 : List Loc), LI g x9 o a W1 → zB g s W1 H1 locs1 → W p l e R s m args below meth c H1 locs1 (cells + 0) (slots + 0) Q (F0 m (pc0 + 3) ls (.int (settleR (A 0) T C ac dd) :: rest))) : W p l e R s m args below meth c H locs cells slots Q (F0 m pc0 ls (.int dd :: .int ac :: .ref o :: rest)) := by
  obtain ⟨T1, C1, V1, U1, hS⟩ := hS
  obtain ⟨W2, hp, hz⟩ := cS_tail hS
  have hB := zB_perm hB hp
  refine z_qi hB (z_cV hE hB (c_X9_settle l g o a F L A W2 T C V U ac dd hk.1) w1 kX9_settle ⟨rfl, rfl⟩ hR 0 rfl rfl rfl hsz rfl hW9 hdg hf) (fun r W1 H locs hw hB => ?_)
  obtain ⟨F1, rfl, rfl, h09⟩ := hw
  exact kz _ _ _ ⟨F1, L, (chk (pIn 0 63 ac && pIn 0 59 dd) A), ln, T1, C1, V1, U1, (h09.trans h16), cS_A (hz _) rfl rfl rfl rfl rfl rfl rfl⟩ hB

theorem N_reads {p : Program} {l : Launch} {e : Env} {R : Room} {s : State} {m : MethodId} {args : Array Value} {below : List Frame} {meth : Method} {c : Code} {H : Heap} {locs : List Loc} {cells slots : Nat} {Q : State → Prop} {cc : ByteArray} {pc0 nL index : Nat} {own : String} {ls : Array Slot} {rest : List Value} {g : zG} {x9 o : Nat} {a : Nat → Nat} {F : Nat → Int32} {A : Nat → Nat → Int32} {L : Nat → Int64} {ln T C V U : Nat} {W0 : va_W} {tw : Int32} {ac : Int32} {dd : Int32} {dy : Int32} {sh : Int32} (hE : zE g p s m args c cc own nL meth) (hB : zB g s W0 H locs) (h16 : F 16 = nI ln) (hk : nOK (A 0) T C V U ∧ ln ≤ 150 ∧ byOK (A 5) ln) (hS : ∃ T' C' V' U' : Nat, cS g x9 (chk (askOK T tw ac dd dy sh) A) L ln T' C' V' U' (mW g o a F L A) W0) (w1 : Cond.methodLink own index yX9_reads ∈ TBL) (hR : 4 + 1 ≤ R.frames ∧ 8 + (9 + 11) + 101 ≤ R.locals) (hf : cells + 0 ≤ R.cells ∧ slots + 0 ≤ R.slots) (hsz : ls.size = nL) (hW9 : (rest.map fun v => v.category).sum ≤ 8) (hdg : decode cc pc0 = .ok (.invokevirtual index, 3))
    (kz : ∀ (W1 : va_W) (H1 : Heap) (locs1 : List Loc), LI g x9 o a W1 → zB g s W1 H1 locs1 → W p l e R s m args below meth c H1 locs1 (cells + 0) (slots + 0) Q (F0 m (pc0 + 3) ls (.int (readsR (A 0) T C tw ac dd dy sh) :: rest))) : W p l e R s m args below meth c H locs cells slots Q (F0 m pc0 ls (.int sh :: .int dy :: .int dd :: .int ac :: .int tw :: .ref o :: rest)) := by
  obtain ⟨T1, C1, V1, U1, hS⟩ := hS
  obtain ⟨W2, hp, hz⟩ := cS_tail hS
  have hB := zB_perm hB hp
  refine z_qi hB (z_cV hE hB (c_X9_reads l g o a F L A W2 T C V U tw ac dd dy sh hk.1) w1 kX9_reads ⟨rfl, rfl⟩ hR 0 rfl rfl rfl hsz rfl hW9 hdg hf) (fun r W1 H locs hw hB => ?_)
  obtain ⟨F1, rfl, rfl, h09⟩ := hw
  exact kz _ _ _ ⟨F1, L, (chk (askOK T tw ac dd dy sh) A), ln, T1, C1, V1, U1, (h09.trans h16), cS_A (hz _) rfl rfl rfl rfl rfl rfl rfl⟩ hB

theorem N_patience {p : Program} {l : Launch} {e : Env} {R : Room} {s : State} {m : MethodId} {args : Array Value} {below : List Frame} {meth : Method} {c : Code} {H : Heap} {locs : List Loc} {cells slots : Nat} {Q : State → Prop} {cc : ByteArray} {pc0 nL index : Nat} {own : String} {ls : Array Slot} {rest : List Value} {g : zG} {x9 o : Nat} {a : Nat → Nat} {F : Nat → Int32} {A : Nat → Nat → Int32} {L : Nat → Int64} {ln T C V U : Nat} {W0 : va_W} {kk : Int32} {pp : Int32} {ac : Int32} {w : Int32} (hE : zE g p s m args c cc own nL meth) (hB : zB g s W0 H locs) (h16 : F 16 = nI ln) (hk : nOK (A 0) T C V U ∧ ln ≤ 150 ∧ byOK (A 5) ln) (hS : ∃ T' C' V' U' : Nat, cS g x9 (chk (patOK kk pp ac && pIn 0 1 w) A) L ln T' C' V' U' (mW g o a F L A) W0) (w1 : Cond.methodLink own index yX9_patience ∈ TBL) (hR : 8 + 1 ≤ R.frames ∧ 8 + (6 + 11) + 209 ≤ R.locals) (hf : cells + 0 ≤ R.cells ∧ slots + 0 ≤ R.slots) (hsz : ls.size = nL) (hW9 : (rest.map fun v => v.category).sum ≤ 8) (hdg : decode cc pc0 = .ok (.invokevirtual index, 3))
    (kz : ∀ (W1 : va_W) (H1 : Heap) (locs1 : List Loc), LI g x9 o a W1 → zB g s W1 H1 locs1 → W p l e R s m args below meth c H1 locs1 (cells + 0) (slots + 0) Q (F0 m (pc0 + 3) ls (.int (patienceR (A 0) T C kk pp ac w) :: rest))) : W p l e R s m args below meth c H locs cells slots Q (F0 m pc0 ls (.int w :: .int ac :: .int pp :: .int kk :: .ref o :: rest)) := by
  obtain ⟨T1, C1, V1, U1, hS⟩ := hS
  obtain ⟨W2, hp, hz⟩ := cS_tail hS
  have hB := zB_perm hB hp
  refine z_qi hB (z_cV hE hB (c_X9_patience l g o a F L A W2 T C V U kk pp ac w hk.1) w1 kX9_patience ⟨rfl, rfl⟩ hR 0 rfl rfl rfl hsz rfl hW9 hdg hf) (fun r W1 H locs hw hB => ?_)
  obtain ⟨F1, rfl, rfl, h09⟩ := hw
  exact kz _ _ _ ⟨F1, L, (chk (patOK kk pp ac && pIn 0 1 w) A), ln, T1, C1, V1, U1, (h09.trans h16), cS_A (hz _) rfl rfl rfl rfl rfl rfl rfl⟩ hB

theorem N_concede {p : Program} {l : Launch} {e : Env} {R : Room} {s : State} {m : MethodId} {args : Array Value} {below : List Frame} {meth : Method} {c : Code} {H : Heap} {locs : List Loc} {cells slots : Nat} {Q : State → Prop} {cc : ByteArray} {pc0 nL index : Nat} {own : String} {ls : Array Slot} {rest : List Value} {g : zG} {x9 o : Nat} {a : Nat → Nat} {F : Nat → Int32} {A : Nat → Nat → Int32} {L : Nat → Int64} {ln T C V U : Nat} {W0 : va_W} {x : Int32} {kk : Int32} {pp : Int32} {ac : Int32} (hE : zE g p s m args c cc own nL meth) (hB : zB g s W0 H locs) (h16 : F 16 = nI ln) (hk : nOK (A 0) T C V U ∧ ln ≤ 150 ∧ byOK (A 5) ln) (hS : ∃ T' C' V' U' : Nat, cS g x9 (chk (concedeOK C x kk pp ac) A) L ln T' C' V' U' (mW g o a F L A) W0) (w1 : Cond.methodLink own index yX9_concede ∈ TBL) (hR : 8 + 1 ≤ R.frames ∧ 8 + (5 + 11) + 209 ≤ R.locals) (hf : cells + 0 ≤ R.cells ∧ slots + 0 ≤ R.slots) (hsz : ls.size = nL) (hW9 : (rest.map fun v => v.category).sum ≤ 8) (hdg : decode cc pc0 = .ok (.invokevirtual index, 3))
    (kz : ∀ (W1 : va_W) (H1 : Heap) (locs1 : List Loc), LI g x9 o a W1 → zB g s W1 H1 locs1 → W p l e R s m args below meth c H1 locs1 (cells + 0) (slots + 0) Q (F0 m (pc0 + 3) ls (.int (concedeR (A 0) T C x kk pp ac) :: rest))) : W p l e R s m args below meth c H locs cells slots Q (F0 m pc0 ls (.int ac :: .int pp :: .int kk :: .int x :: .ref o :: rest)) := by
  obtain ⟨T1, C1, V1, U1, hS⟩ := hS
  obtain ⟨W2, hp, hz⟩ := cS_tail hS
  have hB := zB_perm hB hp
  refine z_qi hB (z_cV hE hB (c_X9_concede l g o a F L A W2 T C V U x kk pp ac hk.1) w1 kX9_concede ⟨rfl, rfl⟩ hR 0 rfl rfl rfl hsz rfl hW9 hdg hf) (fun r W1 H locs hw hB => ?_)
  obtain ⟨F1, rfl, rfl, h09⟩ := hw
  exact kz _ _ _ ⟨F1, L, (chk (concedeOK C x kk pp ac) A), ln, T1, C1, V1, U1, (h09.trans h16), cS_A (hz _) rfl rfl rfl rfl rfl rfl rfl⟩ hB

theorem N_presses {p : Program} {l : Launch} {e : Env} {R : Room} {s : State} {m : MethodId} {args : Array Value} {below : List Frame} {meth : Method} {c : Code} {H : Heap} {locs : List Loc} {cells slots : Nat} {Q : State → Prop} {cc : ByteArray} {pc0 nL index : Nat} {own : String} {ls : Array Slot} {rest : List Value} {g : zG} {x9 o : Nat} {a : Nat → Nat} {F : Nat → Int32} {A : Nat → Nat → Int32} {L : Nat → Int64} {ln T C V U : Nat} {W0 : va_W} {ac : Int32} {w : Int32} (hE : zE g p s m args c cc own nL meth) (hB : zB g s W0 H locs) (h16 : F 16 = nI ln) (hk : nOK (A 0) T C V U ∧ ln ≤ 150 ∧ byOK (A 5) ln) (hS : ∃ T' C' V' U' : Nat, cS g x9 (chk (pIn 0 63 ac && pIn 0 1 w) A) L ln T' C' V' U' (mW g o a F L A) W0) (w1 : Cond.methodLink own index yX9_presses ∈ TBL) (hR : 7 + 1 ≤ R.frames ∧ 8 + (8 + 11) + 180 ≤ R.locals) (hf : cells + 0 ≤ R.cells ∧ slots + 0 ≤ R.slots) (hsz : ls.size = nL) (hW9 : (rest.map fun v => v.category).sum ≤ 8) (hdg : decode cc pc0 = .ok (.invokevirtual index, 3))
    (kz : ∀ (W1 : va_W) (H1 : Heap) (locs1 : List Loc), LI g x9 o a W1 → zB g s W1 H1 locs1 → W p l e R s m args below meth c H1 locs1 (cells + 0) (slots + 0) Q (F0 m (pc0 + 3) ls (.int (pressesR (A 0) T C ac w) :: rest))) : W p l e R s m args below meth c H locs cells slots Q (F0 m pc0 ls (.int w :: .int ac :: .ref o :: rest)) := by
  obtain ⟨T1, C1, V1, U1, hS⟩ := hS
  obtain ⟨W2, hp, hz⟩ := cS_tail hS
  have hB := zB_perm hB hp
  refine z_qi hB (z_cV hE hB (c_X9_presses l g o a F L A W2 T C V U ac w hk.1) w1 kX9_presses ⟨rfl, rfl⟩ hR 0 rfl rfl rfl hsz rfl hW9 hdg hf) (fun r W1 H locs hw hB => ?_)
  obtain ⟨F1, rfl, rfl, h09⟩ := hw
  exact kz _ _ _ ⟨F1, L, (chk (pIn 0 63 ac && pIn 0 1 w) A), ln, T1, C1, V1, U1, (h09.trans h16), cS_A (hz _) rfl rfl rfl rfl rfl rfl rfl⟩ hB

theorem N_leave {p : Program} {l : Launch} {e : Env} {R : Room} {s : State} {m : MethodId} {args : Array Value} {below : List Frame} {meth : Method} {c : Code} {H : Heap} {locs : List Loc} {cells slots : Nat} {Q : State → Prop} {cc : ByteArray} {pc0 nL index : Nat} {own : String} {ls : Array Slot} {rest : List Value} {g : zG} {x9 o : Nat} {a : Nat → Nat} {F : Nat → Int32} {A : Nat → Nat → Int32} {L : Nat → Int64} {ln T C V U : Nat} {W0 : va_W} {tw : Int32} {ac : Int32} {dd : Int32} {dy : Int32} {sh : Int32} (hE : zE g p s m args c cc own nL meth) (hB : zB g s W0 H locs) (h16 : F 16 = nI ln) (hk : nOK (A 0) T C V U ∧ ln ≤ 150 ∧ byOK (A 5) ln) (hS : ∃ T' C' V' U' : Nat, cS g x9 (leaveA A T V tw ac dd dy sh) L ln T' C' V' U' (mW g o a F L A) W0) (w1 : Cond.methodLink own index yX9_leave ∈ TBL) (hR : 2 + 1 ≤ R.frames ∧ 8 + (7 + 11) + 46 ≤ R.locals) (hf : cells + 0 ≤ R.cells ∧ slots + 0 ≤ R.slots) (hsz : ls.size = nL) (hW9 : (rest.map fun v => v.category).sum ≤ 8) (hdg : decode cc pc0 = .ok (.invokevirtual index, 3))
    (kz : ∀ (W1 : va_W) (H1 : Heap) (locs1 : List Loc), LI g x9 o a W1 → zB g s W1 H1 locs1 → W p l e R s m args below meth c H1 locs1 (cells + 0) (slots + 0) Q (F0 m (pc0 + 3) ls (.int (leaveR T V tw ac dd dy sh) :: rest))) : W p l e R s m args below meth c H locs cells slots Q (F0 m pc0 ls (.int sh :: .int dy :: .int dd :: .int ac :: .int tw :: .ref o :: rest)) := by
  obtain ⟨T1, C1, V1, U1, hS⟩ := hS
  obtain ⟨W2, hp, hz⟩ := cS_tail hS
  have hB := zB_perm hB hp
  refine z_qi hB (z_cV hE hB (c_X9_leave l g o a F L A W2 T C V U tw ac dd dy sh hk.1) w1 kX9_leave ⟨rfl, rfl⟩ hR 0 rfl rfl rfl hsz rfl hW9 hdg hf) (fun r W1 H locs hw hB => ?_)
  obtain ⟨rfl, rfl⟩ := hw
  exact kz _ _ _ ⟨F, L, (leaveA A T V tw ac dd dy sh), ln, T1, C1, V1, U1, h16, cS_A (hz _) rfl rfl rfl rfl rfl rfl rfl⟩ hB

theorem N_burn {p : Program} {l : Launch} {e : Env} {R : Room} {s : State} {m : MethodId} {args : Array Value} {below : List Frame} {meth : Method} {c : Code} {H : Heap} {locs : List Loc} {cells slots : Nat} {Q : State → Prop} {cc : ByteArray} {pc0 nL index : Nat} {own : String} {ls : Array Slot} {rest : List Value} {g : zG} {x9 o : Nat} {a : Nat → Nat} {F : Nat → Int32} {A : Nat → Nat → Int32} {L : Nat → Int64} {ln T C V U : Nat} {W0 : va_W} (hE : zE g p s m args c cc own nL meth) (hB : zB g s W0 H locs) (h16 : F 16 = nI ln) (hk : nOK (A 0) T C V U ∧ ln ≤ 150 ∧ byOK (A 5) ln) (hS : ∃ T' C' V' U' : Nat, cS g x9 (updA A 0 (upd (A 0) 2 (nI 0))) L ln T' C' V' U' (mW g o a F L A) W0) (w1 : Cond.methodLink own index yX9_burn ∈ TBL) (hR : 0 + 1 ≤ R.frames ∧ 8 + (2 + 11) + 0 ≤ R.locals) (hf : cells + 0 ≤ R.cells ∧ slots + 0 ≤ R.slots) (hsz : ls.size = nL) (hW9 : (rest.map fun v => v.category).sum ≤ 8) (hdg : decode cc pc0 = .ok (.invokevirtual index, 3))
    (kz : ∀ (W1 : va_W) (H1 : Heap) (locs1 : List Loc), LI g x9 o a W1 → zB g s W1 H1 locs1 → W p l e R s m args below meth c H1 locs1 (cells + 0) (slots + 0) Q (F0 m (pc0 + 3) ls (.int (nI V) :: rest))) : W p l e R s m args below meth c H locs cells slots Q (F0 m pc0 ls (.ref o :: rest)) := by
  obtain ⟨T1, C1, V1, U1, hS⟩ := hS
  obtain ⟨W2, hp, hz⟩ := cS_tail hS
  have hB := zB_perm hB hp
  refine z_qi hB (z_cV hE hB (c_X9_burn l g o a F L A W2 T C V U hk.1) w1 kX9_burn ⟨rfl, rfl⟩ hR 0 rfl rfl rfl hsz rfl hW9 hdg hf) (fun r W1 H locs hw hB => ?_)
  obtain ⟨rfl, rfl⟩ := hw
  exact kz _ _ _ ⟨F, L, (updA A 0 (upd (A 0) 2 (nI 0))), ln, T1, C1, V1, U1, h16, cS_A (hz _) rfl rfl rfl rfl rfl rfl rfl⟩ hB

theorem N_forged {p : Program} {l : Launch} {e : Env} {R : Room} {s : State} {m : MethodId} {args : Array Value} {below : List Frame} {meth : Method} {c : Code} {H : Heap} {locs : List Loc} {cells slots : Nat} {Q : State → Prop} {cc : ByteArray} {pc0 nL index : Nat} {own : String} {ls : Array Slot} {rest : List Value} {g : zG} {x9 o : Nat} {a : Nat → Nat} {F : Nat → Int32} {A : Nat → Nat → Int32} {L : Nat → Int64} {ln T C V U : Nat} {W0 : va_W} (hE : zE g p s m args c cc own nL meth) (hB : zB g s W0 H locs) (h16 : F 16 = nI ln) (hk : nOK (A 0) T C V U ∧ ln ≤ 150 ∧ byOK (A 5) ln) (hS : ∃ T' C' V' U' : Nat, cS g x9 A L ln T' C' V' U' (mW g o a F L A) W0) (w1 : Cond.methodLink own index yX9_forged ∈ TBL) (hR : 6 + 1 ≤ R.frames ∧ 8 + (4 + 11) + 154 ≤ R.locals) (hf : cells + 0 ≤ R.cells ∧ slots + 0 ≤ R.slots) (hsz : ls.size = nL) (hW9 : (rest.map fun v => v.category).sum ≤ 8) (hdg : decode cc pc0 = .ok (.invokevirtual index, 3))
    (kz : ∀ (W1 : va_W) (H1 : Heap) (locs1 : List Loc), LI g x9 o a W1 → zB g s W1 H1 locs1 → W p l e R s m args below meth c H1 locs1 (cells + 0) (slots + 0) Q (F0 m (pc0 + 3) ls (.int (forgedR (A 0) C V) :: rest))) : W p l e R s m args below meth c H locs cells slots Q (F0 m pc0 ls (.ref o :: rest)) := by
  obtain ⟨T1, C1, V1, U1, hS⟩ := hS
  obtain ⟨W2, hp, hz⟩ := cS_tail hS
  have hB := zB_perm hB hp
  refine z_qi hB (z_cV hE hB (c_X9_forged l g o a F L A W2 T C V U hk.1) w1 kX9_forged ⟨rfl, rfl⟩ hR 0 rfl rfl rfl hsz rfl hW9 hdg hf) (fun r W1 H locs hw hB => ?_)
  obtain ⟨F1, rfl, rfl, h09⟩ := hw
  exact kz _ _ _ ⟨F1, L, A, ln, T1, C1, V1, U1, (h09.trans h16), cS_A (hz _) rfl rfl rfl rfl rfl rfl rfl⟩ hB

theorem N_whose {p : Program} {l : Launch} {e : Env} {R : Room} {s : State} {m : MethodId} {args : Array Value} {below : List Frame} {meth : Method} {c : Code} {H : Heap} {locs : List Loc} {cells slots : Nat} {Q : State → Prop} {cc : ByteArray} {pc0 nL index : Nat} {own : String} {ls : Array Slot} {rest : List Value} {g : zG} {x9 o : Nat} {a : Nat → Nat} {F : Nat → Int32} {A : Nat → Nat → Int32} {L : Nat → Int64} {ln T C V U : Nat} {W0 : va_W} {tw : Int32} {w : Int32} {ac : Int32} {dd : Int32} {dy : Int32} {sh : Int32} (hE : zE g p s m args c cc own nL meth) (hB : zB g s W0 H locs) (h16 : F 16 = nI ln) (hk : nOK (A 0) T C V U ∧ ln ≤ 150 ∧ byOK (A 5) ln) (hS : ∃ T' C' V' U' : Nat, cS g x9 (chk (whoseOK T tw w ac dd dy sh) A) L ln T' C' V' U' (mW g o a F L A) W0) (w1 : Cond.methodLink own index yX9_whose ∈ TBL) (hR : 6 + 1 ≤ R.frames ∧ 8 + (9 + 11) + 154 ≤ R.locals) (hf : cells + 0 ≤ R.cells ∧ slots + 0 ≤ R.slots) (hsz : ls.size = nL) (hW9 : (rest.map fun v => v.category).sum ≤ 8) (hdg : decode cc pc0 = .ok (.invokevirtual index, 3))
    (kz : ∀ (W1 : va_W) (H1 : Heap) (locs1 : List Loc), LI g x9 o a W1 → zB g s W1 H1 locs1 → W p l e R s m args below meth c H1 locs1 (cells + 0) (slots + 0) Q (F0 m (pc0 + 3) ls (.int (whoseR (A 0) T C tw w ac dd dy sh) :: rest))) : W p l e R s m args below meth c H locs cells slots Q (F0 m pc0 ls (.int sh :: .int dy :: .int dd :: .int ac :: .int w :: .int tw :: .ref o :: rest)) := by
  obtain ⟨T1, C1, V1, U1, hS⟩ := hS
  obtain ⟨W2, hp, hz⟩ := cS_tail hS
  have hB := zB_perm hB hp
  refine z_qi hB (z_cV hE hB (c_X9_whose l g o a F L A W2 T C V U tw w ac dd dy sh hk.1) w1 kX9_whose ⟨rfl, rfl⟩ hR 0 rfl rfl rfl hsz rfl hW9 hdg hf) (fun r W1 H locs hw hB => ?_)
  obtain ⟨F2, f1, rfl, rfl, h09⟩ := hw
  exact kz _ _ _ ⟨F2, L, (updA (chk (whoseOK T tw w ac dd dy sh) A) 4 f1), ln, T1, C1, V1, U1, (h09.trans h16), cS_A (hz _) rfl rfl rfl rfl rfl rfl rfl⟩ hB

theorem N_odds {p : Program} {l : Launch} {e : Env} {R : Room} {s : State} {m : MethodId} {args : Array Value} {below : List Frame} {meth : Method} {c : Code} {H : Heap} {locs : List Loc} {cells slots : Nat} {Q : State → Prop} {cc : ByteArray} {pc0 nL index : Nat} {own : String} {ls : Array Slot} {rest : List Value} {g : zG} {x9 o : Nat} {a : Nat → Nat} {F : Nat → Int32} {A : Nat → Nat → Int32} {L : Nat → Int64} {ln T C V U : Nat} {W0 : va_W} {tw : Int32} {ac : Int32} {dq : Int32} {dr : Int32} {dy : Int32} {sh : Int32} (hE : zE g p s m args c cc own nL meth) (hB : zB g s W0 H locs) (h16 : F 16 = nI ln) (hk : nOK (A 0) T C V U ∧ ln ≤ 150 ∧ byOK (A 5) ln) (hS : ∃ T' C' V' U' : Nat, cS g x9 (chk (oddsOK T tw ac dq dr dy sh) A) (oddsL (A 0) L T C tw ac dq dr dy sh) ln T' C' V' U' (mW g o a F L A) W0) (w1 : Cond.methodLink own index yX9_odds ∈ TBL) (hR : 6 + 1 ≤ R.frames ∧ 8 + (9 + 11) + 154 ≤ R.locals) (hf : cells + 0 ≤ R.cells ∧ slots + 0 ≤ R.slots) (hsz : ls.size = nL) (hW9 : (rest.map fun v => v.category).sum ≤ 8) (hdg : decode cc pc0 = .ok (.invokevirtual index, 3))
    (kz : ∀ (W1 : va_W) (H1 : Heap) (locs1 : List Loc), LI g x9 o a W1 → zB g s W1 H1 locs1 → W p l e R s m args below meth c H1 locs1 (cells + 0) (slots + 0) Q (F0 m (pc0 + 3) ls (.int (if oddsOK T tw ac dq dr dy sh = true then nI 1 else (-2)) :: rest))) : W p l e R s m args below meth c H locs cells slots Q (F0 m pc0 ls (.int sh :: .int dy :: .int dr :: .int dq :: .int ac :: .int tw :: .ref o :: rest)) := by
  obtain ⟨T1, C1, V1, U1, hS⟩ := hS
  obtain ⟨W2, hp, hz⟩ := cS_tail hS
  have hB := zB_perm hB hp
  refine z_qi hB (z_cV hE hB (c_X9_odds l g o a F L A W2 T C V U tw ac dq dr dy sh hk.1) w1 kX9_odds ⟨rfl, rfl⟩ hR 0 rfl rfl rfl hsz rfl hW9 hdg hf) (fun r W1 H locs hw hB => ?_)
  obtain ⟨F1, rfl, rfl, h09⟩ := hw
  exact kz _ _ _ ⟨F1, (oddsL (A 0) L T C tw ac dq dr dy sh), (chk (oddsOK T tw ac dq dr dy sh) A), ln, T1, C1, V1, U1, (h09.trans h16), cS_A (hz _) rfl rfl rfl rfl rfl rfl rfl⟩ hB

theorem N_drawn {p : Program} {l : Launch} {e : Env} {R : Room} {s : State} {m : MethodId} {args : Array Value} {below : List Frame} {meth : Method} {c : Code} {H : Heap} {locs : List Loc} {cells slots : Nat} {Q : State → Prop} {cc : ByteArray} {pc0 nL index : Nat} {own : String} {ls : Array Slot} {rest : List Value} {g : zG} {x9 o : Nat} {a : Nat → Nat} {F : Nat → Int32} {A : Nat → Nat → Int32} {L : Nat → Int64} {ln T C V U : Nat} {W0 : va_W} {sd : Int32} {q9 : Int32} (hE : zE g p s m args c cc own nL meth) (hB : zB g s W0 H locs) (h16 : F 16 = nI ln) (hk : nOK (A 0) T C V U ∧ ln ≤ 150 ∧ byOK (A 5) ln) (hS : ∃ T' C' V' U' : Nat, cS g x9 (chk (drawnOK sd q9) A) L ln T' C' V' U' (mW g o a F L A) W0) (w1 : Cond.methodLink own index yX9_drawn ∈ TBL) (hR : 6 + 1 ≤ R.frames ∧ 8 + (9 + 11) + 154 ≤ R.locals) (hf : cells + 0 ≤ R.cells ∧ slots + 0 ≤ R.slots) (hsz : ls.size = nL) (hW9 : (rest.map fun v => v.category).sum ≤ 8) (hdg : decode cc pc0 = .ok (.invokevirtual index, 3))
    (kz : ∀ (W1 : va_W) (H1 : Heap) (locs1 : List Loc), LI g x9 o a W1 → zB g s W1 H1 locs1 → W p l e R s m args below meth c H1 locs1 (cells + 0) (slots + 0) Q (F0 m (pc0 + 3) ls (.int (drawnR (A 0) T C sd q9) :: rest))) : W p l e R s m args below meth c H locs cells slots Q (F0 m pc0 ls (.int q9 :: .int sd :: .ref o :: rest)) := by
  obtain ⟨T1, C1, V1, U1, hS⟩ := hS
  obtain ⟨W2, hp, hz⟩ := cS_tail hS
  have hB := zB_perm hB hp
  refine z_qi hB (z_cV hE hB (c_X9_drawn l g o a F L A W2 T C V U sd q9 hk.1) w1 kX9_drawn ⟨rfl, rfl⟩ hR 0 rfl rfl rfl hsz rfl hW9 hdg hf) (fun r W1 H locs hw hB => ?_)
  obtain ⟨F1, lx, rfl, rfl, h09⟩ := hw
  exact kz _ _ _ ⟨F1, (vp_updL L 14 lx), (chk (drawnOK sd q9) A), ln, T1, C1, V1, U1, (h09.trans h16), cS_A (hz _) rfl rfl rfl rfl rfl rfl rfl⟩ hB

theorem N_part {p : Program} {l : Launch} {e : Env} {R : Room} {s : State} {m : MethodId} {args : Array Value} {below : List Frame} {meth : Method} {c : Code} {H : Heap} {locs : List Loc} {cells slots : Nat} {Q : State → Prop} {cc : ByteArray} {pc0 nL index : Nat} {own : String} {ls : Array Slot} {rest : List Value} {g : zG} {x9 o : Nat} {a : Nat → Nat} {F : Nat → Int32} {A : Nat → Nat → Int32} {L : Nat → Int64} {ln T C V U : Nat} {W0 : va_W} {w : Int32} (hE : zE g p s m args c cc own nL meth) (hB : zB g s W0 H locs) (h16 : F 16 = nI ln) (hk : nOK (A 0) T C V U ∧ ln ≤ 150 ∧ byOK (A 5) ln) (hS : ∃ T' C' V' U' : Nat, cS g x9 (partA A w) L ln T' C' V' U' (mW g o a F L A) W0) (w1 : Cond.methodLink own index yX9_part ∈ TBL) (hR : 1 + 1 ≤ R.frames ∧ 8 + (2 + 11) + 21 ≤ R.locals) (hf : cells + 0 ≤ R.cells ∧ slots + 0 ≤ R.slots) (hsz : ls.size = nL) (hW9 : (rest.map fun v => v.category).sum ≤ 8) (hdg : decode cc pc0 = .ok (.invokevirtual index, 3))
    (kz : ∀ (W1 : va_W) (H1 : Heap) (locs1 : List Loc), LI g x9 o a W1 → zB g s W1 H1 locs1 → W p l e R s m args below meth c H1 locs1 (cells + 0) (slots + 0) Q (F0 m (pc0 + 3) ls (.long (partR L w) :: rest))) : W p l e R s m args below meth c H locs cells slots Q (F0 m pc0 ls (.int w :: .ref o :: rest)) := by
  obtain ⟨T1, C1, V1, U1, hS⟩ := hS
  obtain ⟨W2, hp, hz⟩ := cS_tail hS
  have hB := zB_perm hB hp
  refine z_ql hB (z_cV hE hB (c_X9_part l g o a F L A W2 w ) w1 kX9_part ⟨rfl, rfl⟩ hR 0 rfl rfl rfl hsz rfl hW9 hdg hf) (fun r W1 H locs hw hB => ?_)
  obtain ⟨rfl, rfl⟩ := hw
  exact kz _ _ _ ⟨F, L, (partA A w), ln, T1, C1, V1, U1, h16, cS_A (hz _) rfl rfl rfl rfl rfl rfl rfl⟩ hB

theorem N_image {p : Program} {l : Launch} {e : Env} {R : Room} {s : State} {m : MethodId} {args : Array Value} {below : List Frame} {meth : Method} {c : Code} {H : Heap} {locs : List Loc} {cells slots : Nat} {Q : State → Prop} {cc : ByteArray} {pc0 nL index : Nat} {own : String} {ls : Array Slot} {rest : List Value} {g : zG} {x9 o : Nat} {a : Nat → Nat} {F : Nat → Int32} {A : Nat → Nat → Int32} {L : Nat → Int64} {ln T C V U : Nat} {W0 : va_W} {w : Int32} (hE : zE g p s m args c cc own nL meth) (hB : zB g s W0 H locs) (h16 : F 16 = nI ln) (hk : nOK (A 0) T C V U ∧ ln ≤ 150 ∧ byOK (A 5) ln) (hS : ∃ T' C' V' U' : Nat, cS g x9 (imageA A w) L ln T' C' V' U' (mW g o a F L A) W0) (w1 : Cond.methodLink own index yX9_image ∈ TBL) (hR : 1 + 1 ≤ R.frames ∧ 8 + (3 + 11) + 25 ≤ R.locals) (hf : cells + 0 ≤ R.cells ∧ slots + 0 ≤ R.slots) (hsz : ls.size = nL) (hW9 : (rest.map fun v => v.category).sum ≤ 8) (hdg : decode cc pc0 = .ok (.invokevirtual index, 3))
    (kz : ∀ (W1 : va_W) (H1 : Heap) (locs1 : List Loc), LI g x9 o a W1 → zB g s W1 H1 locs1 → W p l e R s m args below meth c H1 locs1 (cells + 0) (slots + 0) Q (F0 m (pc0 + 3) ls (.int (imageR w) :: rest))) : W p l e R s m args below meth c H locs cells slots Q (F0 m pc0 ls (.int w :: .ref o :: rest)) := by
  obtain ⟨T1, C1, V1, U1, hS⟩ := hS
  obtain ⟨W2, hp, hz⟩ := cS_tail hS
  have hB := zB_perm hB hp
  refine z_qi hB (z_cV hE hB (c_X9_image l g o a F L A W2 w ) w1 kX9_image ⟨rfl, rfl⟩ hR 0 rfl rfl rfl hsz rfl hW9 hdg hf) (fun r W1 H locs hw hB => ?_)
  obtain ⟨rfl, rfl⟩ := hw
  exact kz _ _ _ ⟨F, L, (imageA A w), ln, T1, C1, V1, U1, h16, cS_A (hz _) rfl rfl rfl rfl rfl rfl rfl⟩ hB

theorem N_from {p : Program} {l : Launch} {e : Env} {R : Room} {s : State} {m : MethodId} {args : Array Value} {below : List Frame} {meth : Method} {c : Code} {H : Heap} {locs : List Loc} {cells slots : Nat} {Q : State → Prop} {cc : ByteArray} {pc0 nL index : Nat} {own : String} {ls : Array Slot} {rest : List Value} {g : zG} {x9 o : Nat} {a : Nat → Nat} {F : Nat → Int32} {A : Nat → Nat → Int32} {L : Nat → Int64} {ln T C V U : Nat} {W0 : va_W} {w : Int32} (hE : zE g p s m args c cc own nL meth) (hB : zB g s W0 H locs) (h16 : F 16 = nI ln) (hk : nOK (A 0) T C V U ∧ ln ≤ 150 ∧ byOK (A 5) ln) (hS : ∃ T' C' V' U' : Nat, cS g x9 (fromA A w) L ln T' C' V' U' (mW g o a F L A) W0) (w1 : Cond.methodLink own index yX9_from ∈ TBL) (hR : 1 + 1 ≤ R.frames ∧ 8 + (3 + 11) + 25 ≤ R.locals) (hf : cells + 0 ≤ R.cells ∧ slots + 0 ≤ R.slots) (hsz : ls.size = nL) (hW9 : (rest.map fun v => v.category).sum ≤ 8) (hdg : decode cc pc0 = .ok (.invokevirtual index, 3))
    (kz : ∀ (W1 : va_W) (H1 : Heap) (locs1 : List Loc), LI g x9 o a W1 → zB g s W1 H1 locs1 → W p l e R s m args below meth c H1 locs1 (cells + 0) (slots + 0) Q (F0 m (pc0 + 3) ls (.int (fromR A w) :: rest))) : W p l e R s m args below meth c H locs cells slots Q (F0 m pc0 ls (.int w :: .ref o :: rest)) := by
  obtain ⟨T1, C1, V1, U1, hS⟩ := hS
  obtain ⟨W2, hp, hz⟩ := cS_tail hS
  have hB := zB_perm hB hp
  refine z_qi hB (z_cV hE hB (c_X9_from l g o a F L A W2 w ) w1 kX9_from ⟨rfl, rfl⟩ hR 0 rfl rfl rfl hsz rfl hW9 hdg hf) (fun r W1 H locs hw hB => ?_)
  obtain ⟨rfl, rfl⟩ := hw
  exact kz _ _ _ ⟨F, L, (fromA A w), ln, T1, C1, V1, U1, h16, cS_A (hz _) rfl rfl rfl rfl rfl rfl rfl⟩ hB

theorem N_status {p : Program} {l : Launch} {e : Env} {R : Room} {s : State} {m : MethodId} {args : Array Value} {below : List Frame} {meth : Method} {c : Code} {H : Heap} {locs : List Loc} {cells slots : Nat} {Q : State → Prop} {cc : ByteArray} {pc0 nL index : Nat} {own : String} {ls : Array Slot} {rest : List Value} {g : zG} {x9 o : Nat} {a : Nat → Nat} {F : Nat → Int32} {A : Nat → Nat → Int32} {L : Nat → Int64} {ln T C V U : Nat} {W0 : va_W} {w : Int32} (hE : zE g p s m args c cc own nL meth) (hB : zB g s W0 H locs) (h16 : F 16 = nI ln) (hk : nOK (A 0) T C V U ∧ ln ≤ 150 ∧ byOK (A 5) ln) (hS : ∃ T' C' V' U' : Nat, cS g x9 (chk (pIn 0 2 w) A) L ln T' C' V' U' (mW g o a F L A) W0) (w1 : Cond.methodLink own index yX9_status ∈ TBL) (hR : 1 + 1 ≤ R.frames ∧ 8 + (2 + 11) + 25 ≤ R.locals) (hf : cells + 0 ≤ R.cells ∧ slots + 0 ≤ R.slots) (hsz : ls.size = nL) (hW9 : (rest.map fun v => v.category).sum ≤ 8) (hdg : decode cc pc0 = .ok (.invokevirtual index, 3))
    (kz : ∀ (W1 : va_W) (H1 : Heap) (locs1 : List Loc), LI g x9 o a W1 → zB g s W1 H1 locs1 → W p l e R s m args below meth c H1 locs1 (cells + 0) (slots + 0) Q (F0 m (pc0 + 3) ls (.int (statusR A w) :: rest))) : W p l e R s m args below meth c H locs cells slots Q (F0 m pc0 ls (.int w :: .ref o :: rest)) := by
  obtain ⟨T1, C1, V1, U1, hS⟩ := hS
  obtain ⟨W2, hp, hz⟩ := cS_tail hS
  have hB := zB_perm hB hp
  refine z_qi hB (z_cV hE hB (c_X9_status l g o a F L A W2 w ) w1 kX9_status ⟨rfl, rfl⟩ hR 0 rfl rfl rfl hsz rfl hW9 hdg hf) (fun r W1 H locs hw hB => ?_)
  obtain ⟨rfl, rfl⟩ := hw
  exact kz _ _ _ ⟨F, L, (chk (pIn 0 2 w) A), ln, T1, C1, V1, U1, h16, cS_A (hz _) rfl rfl rfl rfl rfl rfl rfl⟩ hB

theorem N_count {p : Program} {l : Launch} {e : Env} {R : Room} {s : State} {m : MethodId} {args : Array Value} {below : List Frame} {meth : Method} {c : Code} {H : Heap} {locs : List Loc} {cells slots : Nat} {Q : State → Prop} {cc : ByteArray} {pc0 nL index : Nat} {own : String} {ls : Array Slot} {rest : List Value} {g : zG} {x9 o : Nat} {a : Nat → Nat} {F : Nat → Int32} {A : Nat → Nat → Int32} {L : Nat → Int64} {ln T C V U : Nat} {W0 : va_W} {w : Int32} (hE : zE g p s m args c cc own nL meth) (hB : zB g s W0 H locs) (h16 : F 16 = nI ln) (hk : nOK (A 0) T C V U ∧ ln ≤ 150 ∧ byOK (A 5) ln) (hS : ∃ T' C' V' U' : Nat, cS g x9 (chk (pIn 0 5 w) A) L ln T' C' V' U' (mW g o a F L A) W0) (w1 : Cond.methodLink own index yX9_count ∈ TBL) (hR : 3 + 1 ≤ R.frames ∧ 8 + (2 + 11) + 64 ≤ R.locals) (hf : cells + 0 ≤ R.cells ∧ slots + 0 ≤ R.slots) (hsz : ls.size = nL) (hW9 : (rest.map fun v => v.category).sum ≤ 8) (hdg : decode cc pc0 = .ok (.invokevirtual index, 3))
    (kz : ∀ (W1 : va_W) (H1 : Heap) (locs1 : List Loc), LI g x9 o a W1 → zB g s W1 H1 locs1 → W p l e R s m args below meth c H1 locs1 (cells + 0) (slots + 0) Q (F0 m (pc0 + 3) ls (.int (countR (A 0) T C V U ln w) :: rest))) : W p l e R s m args below meth c H locs cells slots Q (F0 m pc0 ls (.int w :: .ref o :: rest)) := by
  obtain ⟨T1, C1, V1, U1, hS⟩ := hS
  obtain ⟨W2, hp, hz⟩ := cS_tail hS
  have hB := zB_perm hB hp
  refine z_qi hB (z_cV hE hB (c_X9_count l g o a F L A W2 T C V U ln w hk.1 h16 hk.2.1) w1 kX9_count ⟨rfl, rfl⟩ hR 0 rfl rfl rfl hsz rfl hW9 hdg hf) (fun r W1 H locs hw hB => ?_)
  obtain ⟨rfl, rfl⟩ := hw
  exact kz _ _ _ ⟨F, L, (chk (pIn 0 5 w) A), ln, T1, C1, V1, U1, h16, cS_A (hz _) rfl rfl rfl rfl rfl rfl rfl⟩ hB

theorem N_digest {p : Program} {l : Launch} {e : Env} {R : Room} {s : State} {m : MethodId} {args : Array Value} {below : List Frame} {meth : Method} {c : Code} {H : Heap} {locs : List Loc} {cells slots : Nat} {Q : State → Prop} {cc : ByteArray} {pc0 nL index : Nat} {own : String} {ls : Array Slot} {rest : List Value} {g : zG} {x9 o : Nat} {a : Nat → Nat} {F : Nat → Int32} {A : Nat → Nat → Int32} {L : Nat → Int64} {ln T C V U : Nat} {W0 : va_W} (hE : zE g p s m args c cc own nL meth) (hB : zB g s W0 H locs) (h16 : F 16 = nI ln) (hk : nOK (A 0) T C V U ∧ ln ≤ 150 ∧ byOK (A 5) ln) (hS : ∃ T' C' V' U' : Nat, cS g x9 A L ln T' C' V' U' (mW g o a F L A) W0) (w1 : Cond.methodLink own index yX9_digest ∈ TBL) (hR : 3 + 1 ≤ R.frames ∧ 8 + (5 + 11) + 64 ≤ R.locals) (hf : cells + 0 ≤ R.cells ∧ slots + 0 ≤ R.slots) (hsz : ls.size = nL) (hW9 : (rest.map fun v => v.category).sum ≤ 8) (hdg : decode cc pc0 = .ok (.invokevirtual index, 3))
    (kz : ∀ (W1 : va_W) (H1 : Heap) (locs1 : List Loc), LI g x9 o a W1 → zB g s W1 H1 locs1 → W p l e R s m args below meth c H1 locs1 (cells + 0) (slots + 0) Q (F0 m (pc0 + 3) ls (.long (digestR (A 0) L T C V U ln) :: rest))) : W p l e R s m args below meth c H locs cells slots Q (F0 m pc0 ls (.ref o :: rest)) := by
  obtain ⟨T1, C1, V1, U1, hS⟩ := hS
  obtain ⟨W2, hp, hz⟩ := cS_tail hS
  have hB := zB_perm hB hp
  refine z_ql hB (z_cV hE hB (c_X9_digest l g o a F L A W2 T C V U ln hk.1 h16 hk.2.1) w1 kX9_digest ⟨rfl, rfl⟩ hR 0 rfl rfl rfl hsz rfl hW9 hdg hf) (fun r W1 H locs hw hB => ?_)
  obtain ⟨rfl, rfl⟩ := hw
  exact kz _ _ _ ⟨F, L, A, ln, T1, C1, V1, U1, h16, cS_A (hz _) rfl rfl rfl rfl rfl rfl rfl⟩ hB
