

theorem K_read {p : Program} {l : Launch} {e : Env} {R : Room} {s : State} {m : MethodId} {args : Array Value} {below : List Frame} {meth : Method} {c : Code} {H : Heap} {locs : List Loc} {cells slots : Nat} {Q : State → Prop} {cc : ByteArray} {pc0 nL index : Nat} {own : String} {ls : Array Slot} {rest : List Value} {g : zG} {x9 : Nat} {A : Nat → Nat → Int32} {L : Nat → Int64} {ln T C V U : Nat} {Z W0 : va_W} (hE : zE g p s m args c cc own nL meth) (hB : zB g s W0 H locs) (hS : cS g x9 A L ln T C V U Z W0) (w1 : Cond.methodLink own index yX8_read ∈ TBL) (hR : 9 + 1 ≤ R.frames ∧ 8 + (4 + 11) + 202 ≤ R.locals) (hf : cells + 151 ≤ R.cells ∧ slots + 757 ≤ R.slots) (hsz : ls.size = nL) (hW9 : (rest.map fun v => v.category).sum ≤ 8) (hdg : decode cc pc0 = .ok (.invokevirtual index, 3))
    (kz : ∀ (W1 : va_W) (H1 : Heap) (locs1 : List Loc), (∃ T' C' V' U' : Nat, cS g x9 (updA A 0 (nRd (pRead (A 5) ln (clr (A 6))) (A 0))) L ln T' C' V' U' Z W1) → zB g s W1 H1 locs1 → W p l e R s m args below meth c H1 locs1 (cells + 151) (slots + 757) Q (F0 m (pc0 + 3) ls (.int (xI (pRead (A 5) ln (clr (A 6)))) :: rest))) : W p l e R s m args below meth c H locs cells slots Q (F0 m pc0 ls (.ref x9 :: rest)) := by
  obtain ⟨im, tx, ab, be, tb, ib, I0, I1, d, rr, da, dr, rd, ro, lw, pl, pc, gv, aw, nt, T2, C2, U2, V2, rd2, ro2, lw2, pl2, pc2, gv2, aw2, nt2, Y, hW, hn, hrel, hbn, hi0, hi1, h4, h5, htb, hln, hby⟩ := hS
  have hB := zB_perm hB hW
  refine z_qi hB (z_cV hE hB (c_X8_read l g x9 d rr im tx ab be tb ib da T C U V rd ro lw pl pc gv aw nt dr T2 C2 U2 V2 rd2 ro2 lw2 pl2 pc2 gv2 aw2 nt2 A ln (A 6) (A 7) Y (I0 ++ (I1 ++ Z)) hn hrel hbn hln hby htb) w1 kX8_read ⟨rfl, rfl⟩ hR 0 rfl rfl rfl hsz rfl hW9 hdg hf) (fun r W1 H locs hw hB => ?_)
  obtain ⟨rfl, d', rr', da', dr', T', C', U', V', rd', ro', lw', pl', pc', gv', aw', nt', T3, C3, U3, V3, rd3, ro3, lw3, pl3, pc3, gv3, aw3, nt3, Y', hW', hn', hrel', hbn', hY⟩ := hw
  exact kz _ _ _ ⟨T', C', V', U', im, tx, ab, be, tb, ib, I0, I1, d', rr', da', dr', rd', ro', lw', pl', pc', gv', aw', nt', T3, C3, U3, V3, rd3, ro3, lw3, pl3, pc3, gv3, aw3, nt3, Y', hW', hn', hrel', hbn', imR_A (imR_in hi0 hY) rfl rfl, imR_A (imR_in hi1 hY) rfl rfl, h4, h5, htb, hln, hby⟩ hB

theorem K_from {p : Program} {l : Launch} {e : Env} {R : Room} {s : State} {m : MethodId} {args : Array Value} {below : List Frame} {meth : Method} {c : Code} {H : Heap} {locs : List Loc} {cells slots : Nat} {Q : State → Prop} {cc : ByteArray} {pc0 nL index : Nat} {own : String} {ls : Array Slot} {rest : List Value} {g : zG} {x9 : Nat} {A : Nat → Nat → Int32} {L : Nat → Int64} {ln T C V U : Nat} {Z W0 : va_W} {w : Int32} (hE : zE g p s m args c cc own nL meth) (hB : zB g s W0 H locs) (hS : cS g x9 A L ln T C V U Z W0) (w1 : Cond.methodLink own index yX8_from ∈ TBL) (hR : 2 + 1 ≤ R.frames ∧ 8 + (3 + 11) + 85 ≤ R.locals) (hf : cells + 0 ≤ R.cells ∧ slots + 0 ≤ R.slots) (hsz : ls.size = nL) (hW9 : (rest.map fun v => v.category).sum ≤ 8) (hdg : decode cc pc0 = .ok (.invokevirtual index, 3))
    (kz : ∀ (W1 : va_W) (H1 : Heap) (locs1 : List Loc), (∃ T' C' V' U' : Nat, cS g x9 (fromA A w) L ln T' C' V' U' Z W1) → zB g s W1 H1 locs1 → W p l e R s m args below meth c H1 locs1 (cells + 0) (slots + 0) Q (F0 m (pc0 + 3) ls (.int (fromR A w) :: rest))) : W p l e R s m args below meth c H locs cells slots Q (F0 m pc0 ls (.int w :: .ref x9 :: rest)) := by
  obtain ⟨im, tx, ab, be, tb, ib, I0, I1, d, rr, da, dr, rd, ro, lw, pl, pc, gv, aw, nt, T2, C2, U2, V2, rd2, ro2, lw2, pl2, pc2, gv2, aw2, nt2, Y, hW, hn, hrel, hbn, hi0, hi1, h4, h5, htb, hln, hby⟩ := hS
  cases hw : inZ 0 1 w.toInt with
  | false =>
    have hB := zB_perm hB hW
    refine z_qi hB (z_cV hE hB (c_X8_from_b l g x9 d rr im tx (nI ln) ab be (A 3 0) (A 3 1) (A 3 2) tb ib w _ hw) w1 kX8_from ⟨rfl, rfl⟩ ⟨by have := hR.1; show 1 + 1 ≤ R.frames; omega, by have := hR.2; show 8 + (3 + 11) + 22 ≤ R.locals; omega⟩ 0 rfl rfl rfl hsz rfl hW9 hdg ⟨by have := hf.1; show cells + 0 ≤ R.cells; omega, by have := hf.2; show slots + 0 ≤ R.slots; omega⟩) (fun r W1 H locs hw hB => ?_)
    obtain ⟨rfl, rfl⟩ := hw
    skip
    have eA : fromA A w = bump 0 A := by unfold fromA; rw [if_neg (show ¬ pIn 0 1 w = true by rw [show pIn 0 1 w = false from hw]; decide)]
    have eR : fromR A w = (-2) := by unfold fromR; rw [if_neg (show ¬ pIn 0 1 w = true by rw [show pIn 0 1 w = false from hw]; decide)]
    rw [eA, eR] at kz
    exact kz _ _ _ ⟨T, C, V, U, im, tx, ab, be, tb, ib, I0, I1, d, rr, da, dr, rd, ro, lw, pl, pc, gv, aw, nt, T2, C2, U2, V2, rd2, ro2, lw2, pl2, pc2, gv2, aw2, nt2, Y, List.Perm.refl _, hn, hrel, hbn, imR_A hi0 rfl rfl, imR_A hi1 rfl rfl, h4, h5, htb, hln, hby⟩ hB
  | true =>
    obtain ⟨k, hk, rfl⟩ := in01_k hw
    have ek : rc (nI k) = k := rc_i (by omega)
    have hk2 : k = 0 ∨ k = 1 := by omega
    rcases hk2 with rfl | rfl
    · rcases hi0 with ⟨g1, g2, g3⟩ | ⟨b3, a3, T3, C3, U3, V3, rd3, ro3, lw3, pl3, pc3, gv3, aw3, nt3, g1, g2, g3, g4, g5⟩
      · have hB := zB_perm hB hW
        refine z_qi hB (z_cV hE hB (c_X8_from_n l g x9 d rr im tx (nI ln) ab be (A 3 0) (A 3 1) (A 3 2) tb ib 0 _ (by omega) g1) w1 kX8_from ⟨rfl, rfl⟩ ⟨by have := hR.1; show 1 + 1 ≤ R.frames; omega, by have := hR.2; show 8 + (3 + 11) + 22 ≤ R.locals; omega⟩ 0 rfl rfl rfl hsz rfl hW9 hdg ⟨by have := hf.1; show cells + 0 ≤ R.cells; omega, by have := hf.2; show slots + 0 ≤ R.slots; omega⟩) (fun r W1 H locs hw hB => ?_)
        obtain ⟨rfl, rfl⟩ := hw
        skip
        have eA : fromA A (nI 0) = bump 1 A := by unfold fromA; rw [if_pos (show pIn 0 1 (nI 0) = true from hw), ek, if_pos g2]
        have eR : fromR A (nI 0) = (-3) := by unfold fromR; rw [if_pos (show pIn 0 1 (nI 0) = true from hw), ek, if_pos g2]
        rw [eA, eR] at kz
        exact kz _ _ _ ⟨T, C, V, U, im, tx, ab, be, tb, ib, I0, I1, d, rr, da, dr, rd, ro, lw, pl, pc, gv, aw, nt, T2, C2, U2, V2, rd2, ro2, lw2, pl2, pc2, gv2, aw2, nt2, Y, List.Perm.refl _, hn, hrel, hbn, imR_A (Or.inl ⟨g1, g2, g3⟩) rfl rfl, imR_A hi1 rfl rfl, h4, h5, htb, hln, hby⟩ hB
      · subst g3
        have hB := zB_perm hB (hW.trans pm0)
        refine z_qi hB (z_cV hE hB (c_X8_from_y l g x9 d rr im tx (nI ln) ab be (A 3 0) (A 3 1) (A 3 2) tb ib da T C U V rd ro lw pl pc gv aw nt b3 a3 T3 C3 U3 V3 rd3 ro3 lw3 pl3 pc3 gv3 aw3 nt3 0 (fun x => A 1 (454 * 0 + x)) Y (lW g rr dr (nI T2) (nI C2) (nI U2) (nI V2) rd2 ro2 lw2 pl2 pc2 gv2 aw2 nt2 ++ (Y ++ (I1 ++ Z))) (by omega) g1 g4 g5 (fun _ h => List.mem_append_right _ (List.mem_append_left _ h))) w1 kX8_from ⟨rfl, rfl⟩ ⟨by have := hR.1; show 2 + 1 ≤ R.frames; omega, by have := hR.2; show 8 + (3 + 11) + 85 ≤ R.locals; omega⟩ 0 rfl rfl rfl hsz rfl hW9 hdg ⟨by have := hf.1; show cells + 0 ≤ R.cells; omega, by have := hf.2; show slots + 0 ≤ R.slots; omega⟩) (fun r W1 H locs hw hB => ?_)
        obtain ⟨rfl, rfl⟩ := hw
        skip
        have eA : fromA A (nI 0) = updA A 0 (nFr (A 1) (A 0) 0) := by unfold fromA; rw [if_pos (show pIn 0 1 (nI 0) = true from hw), ek, if_neg g2]
        have eR : fromR A (nI 0) = nI 1 := by unfold fromR; rw [if_pos (show pIn 0 1 (nI 0) = true from hw), ek, if_neg g2]
        rw [eA, eR] at kz
        exact kz _ _ _ ⟨T3, C3, V3, U3, im, tx, ab, be, tb, ib, lW g b3 a3 (nI T3) (nI C3) (nI U3) (nI V3) rd3 ro3 lw3 pl3 pc3 gv3 aw3 nt3, I1, d, rr, da, dr, va_cpy rd3 rd 0 0 6, va_cpy ro3 ro 0 0 36, va_cpy lw3 lw 0 0 8, va_cpy pl3 pl 0 0 64, va_cpy pc3 pc 0 0 8, va_cpy gv3 gv 0 0 40, aw, nt, T2, C2, U2, V2, rd2, ro2, lw2, pl2, pc2, gv2, aw2, nt2, Y, pm0.symm, nOK_eq g4 (fun x hx => nFr_x hx), relL_copy g5 g4 (fun x hx => nFr_x hx) hrel.2.2.2.2.2.1 hrel.2.2.2.2.2.2, hbn, imR_A (Or.inr ⟨b3, a3, T3, C3, U3, V3, rd3, ro3, lw3, pl3, pc3, gv3, aw3, nt3, g1, g2, rfl, g4, g5⟩) rfl rfl, imR_A hi1 rfl rfl, h4, h5, htb, hln, hby⟩ hB
    · rcases hi1 with ⟨g1, g2, g3⟩ | ⟨b3, a3, T3, C3, U3, V3, rd3, ro3, lw3, pl3, pc3, gv3, aw3, nt3, g1, g2, g3, g4, g5⟩
      · have hB := zB_perm hB hW
        refine z_qi hB (z_cV hE hB (c_X8_from_n l g x9 d rr im tx (nI ln) ab be (A 3 0) (A 3 1) (A 3 2) tb ib 1 _ (by omega) g1) w1 kX8_from ⟨rfl, rfl⟩ ⟨by have := hR.1; show 1 + 1 ≤ R.frames; omega, by have := hR.2; show 8 + (3 + 11) + 22 ≤ R.locals; omega⟩ 0 rfl rfl rfl hsz rfl hW9 hdg ⟨by have := hf.1; show cells + 0 ≤ R.cells; omega, by have := hf.2; show slots + 0 ≤ R.slots; omega⟩) (fun r W1 H locs hw hB => ?_)
        obtain ⟨rfl, rfl⟩ := hw
        skip
        have eA : fromA A (nI 1) = bump 1 A := by unfold fromA; rw [if_pos (show pIn 0 1 (nI 1) = true from hw), ek, if_pos g2]
        have eR : fromR A (nI 1) = (-3) := by unfold fromR; rw [if_pos (show pIn 0 1 (nI 1) = true from hw), ek, if_pos g2]
        rw [eA, eR] at kz
        exact kz _ _ _ ⟨T, C, V, U, im, tx, ab, be, tb, ib, I0, I1, d, rr, da, dr, rd, ro, lw, pl, pc, gv, aw, nt, T2, C2, U2, V2, rd2, ro2, lw2, pl2, pc2, gv2, aw2, nt2, Y, List.Perm.refl _, hn, hrel, hbn, imR_A hi0 rfl rfl, imR_A (Or.inl ⟨g1, g2, g3⟩) rfl rfl, h4, h5, htb, hln, hby⟩ hB
      · subst g3
        have hB := zB_perm hB (hW.trans pm1)
        refine z_qi hB (z_cV hE hB (c_X8_from_y l g x9 d rr im tx (nI ln) ab be (A 3 0) (A 3 1) (A 3 2) tb ib da T C U V rd ro lw pl pc gv aw nt b3 a3 T3 C3 U3 V3 rd3 ro3 lw3 pl3 pc3 gv3 aw3 nt3 1 (fun x => A 1 (454 * 1 + x)) Y (lW g rr dr (nI T2) (nI C2) (nI U2) (nI V2) rd2 ro2 lw2 pl2 pc2 gv2 aw2 nt2 ++ (Y ++ (I0 ++ Z))) (by omega) g1 g4 g5 (fun _ h => List.mem_append_right _ (List.mem_append_left _ h))) w1 kX8_from ⟨rfl, rfl⟩ ⟨by have := hR.1; show 2 + 1 ≤ R.frames; omega, by have := hR.2; show 8 + (3 + 11) + 85 ≤ R.locals; omega⟩ 0 rfl rfl rfl hsz rfl hW9 hdg ⟨by have := hf.1; show cells + 0 ≤ R.cells; omega, by have := hf.2; show slots + 0 ≤ R.slots; omega⟩) (fun r W1 H locs hw hB => ?_)
        obtain ⟨rfl, rfl⟩ := hw
        skip
        have eA : fromA A (nI 1) = updA A 0 (nFr (A 1) (A 0) 1) := by unfold fromA; rw [if_pos (show pIn 0 1 (nI 1) = true from hw), ek, if_neg g2]
        have eR : fromR A (nI 1) = nI 1 := by unfold fromR; rw [if_pos (show pIn 0 1 (nI 1) = true from hw), ek, if_neg g2]
        rw [eA, eR] at kz
        exact kz _ _ _ ⟨T3, C3, V3, U3, im, tx, ab, be, tb, ib, I0, lW g b3 a3 (nI T3) (nI C3) (nI U3) (nI V3) rd3 ro3 lw3 pl3 pc3 gv3 aw3 nt3, d, rr, da, dr, va_cpy rd3 rd 0 0 6, va_cpy ro3 ro 0 0 36, va_cpy lw3 lw 0 0 8, va_cpy pl3 pl 0 0 64, va_cpy pc3 pc 0 0 8, va_cpy gv3 gv 0 0 40, aw, nt, T2, C2, U2, V2, rd2, ro2, lw2, pl2, pc2, gv2, aw2, nt2, Y, pm1.symm, nOK_eq g4 (fun x hx => nFr_x hx), relL_copy g5 g4 (fun x hx => nFr_x hx) hrel.2.2.2.2.2.1 hrel.2.2.2.2.2.2, hbn, imR_A hi0 rfl rfl, imR_A (Or.inr ⟨b3, a3, T3, C3, U3, V3, rd3, ro3, lw3, pl3, pc3, gv3, aw3, nt3, g1, g2, rfl, g4, g5⟩) rfl rfl, h4, h5, htb, hln, hby⟩ hB

theorem K_image {p : Program} {l : Launch} {e : Env} {R : Room} {s : State} {m : MethodId} {args : Array Value} {below : List Frame} {meth : Method} {c : Code} {H : Heap} {locs : List Loc} {cells slots : Nat} {Q : State → Prop} {cc : ByteArray} {pc0 nL index : Nat} {own : String} {ls : Array Slot} {rest : List Value} {g : zG} {x9 : Nat} {A : Nat → Nat → Int32} {L : Nat → Int64} {ln T C V U : Nat} {Z W0 : va_W} {w : Int32} (hE : zE g p s m args c cc own nL meth) (hB : zB g s W0 H locs) (hS : cS g x9 A L ln T C V U Z W0) (w1 : Cond.methodLink own index yX8_image ∈ TBL) (hR : 2 + 1 ≤ R.frames ∧ 8 + (3 + 11) + 85 ≤ R.locals) (hf : cells + 9 ≤ R.cells ∧ slots + 216 ≤ R.slots) (hsz : ls.size = nL) (hW9 : (rest.map fun v => v.category).sum ≤ 8) (hdg : decode cc pc0 = .ok (.invokevirtual index, 3))
    (kz : ∀ (W1 : va_W) (H1 : Heap) (locs1 : List Loc), (∃ T' C' V' U' : Nat, cS g x9 (imageA A w) L ln T' C' V' U' Z W1) → zB g s W1 H1 locs1 → W p l e R s m args below meth c H1 locs1 (cells + 9) (slots + 216) Q (F0 m (pc0 + 3) ls (.int (imageR w) :: rest))) : W p l e R s m args below meth c H locs cells slots Q (F0 m pc0 ls (.int w :: .ref x9 :: rest)) := by
  obtain ⟨im, tx, ab, be, tb, ib, I0, I1, d, rr, da, dr, rd, ro, lw, pl, pc, gv, aw, nt, T2, C2, U2, V2, rd2, ro2, lw2, pl2, pc2, gv2, aw2, nt2, Y, hW, hn, hrel, hbn, hi0, hi1, h4, h5, htb, hln, hby⟩ := hS
  cases hw : inZ 0 1 w.toInt with
  | false =>
    have hB := zB_perm hB hW
    refine z_qi hB (z_cV hE hB (c_X8_image_b l g x9 d rr im tx (nI ln) ab be (A 3 0) (A 3 1) (A 3 2) tb ib w _ hw) w1 kX8_image ⟨rfl, rfl⟩ ⟨by have := hR.1; show 1 + 1 ≤ R.frames; omega, by have := hR.2; show 8 + (3 + 11) + 22 ≤ R.locals; omega⟩ 0 rfl rfl rfl hsz rfl hW9 hdg ⟨by have := hf.1; show cells + 0 ≤ R.cells; omega, by have := hf.2; show slots + 0 ≤ R.slots; omega⟩) (fun r W1 H locs hw hB => ?_)
    obtain ⟨rfl, rfl⟩ := hw
    refine W.widen (k := cells + 9) (n := slots + 216) (by omega) (by omega) ?_
    have eA : imageA A w = bump 0 A := by unfold imageA; rw [if_neg (show ¬ pIn 0 1 w = true by rw [show pIn 0 1 w = false from hw]; decide)]
    have eR : imageR w = (-2) := by unfold imageR; rw [if_neg (show ¬ pIn 0 1 w = true by rw [show pIn 0 1 w = false from hw]; decide)]
    rw [eA, eR] at kz
    exact kz _ _ _ ⟨T, C, V, U, im, tx, ab, be, tb, ib, I0, I1, d, rr, da, dr, rd, ro, lw, pl, pc, gv, aw, nt, T2, C2, U2, V2, rd2, ro2, lw2, pl2, pc2, gv2, aw2, nt2, Y, List.Perm.refl _, hn, hrel, hbn, imR_A hi0 rfl rfl, imR_A hi1 rfl rfl, h4, h5, htb, hln, hby⟩ hB
  | true =>
    obtain ⟨k, hk, rfl⟩ := in01_k hw
    have ek : rc (nI k) = k := rc_i (by omega)
    have hk2 : k = 0 ∨ k = 1 := by omega
    rcases hk2 with rfl | rfl
    · rcases hi0 with ⟨g1, g2, g3⟩ | ⟨b3, a3, T3, C3, U3, V3, rd3, ro3, lw3, pl3, pc3, gv3, aw3, nt3, g1, g2, g3, g4, g5⟩
      · subst g3
        have hw0 := hw
        have hB := zB_perm hB (hW.trans pm0)
        refine z_qi hB (z_cV hE hB (c_X8_image_n l g x9 d rr im tx (nI ln) ab be (A 3 0) (A 3 1) (A 3 2) tb ib da T C U V rd ro lw pl pc gv aw nt 0 (A 0) Y (lW g rr dr (nI T2) (nI C2) (nI U2) (nI V2) rd2 ro2 lw2 pl2 pc2 gv2 aw2 nt2 ++ (Y ++ (I1 ++ Z))) (by omega) g1 hn hrel (fun _ h => List.mem_append_right _ (List.mem_append_left _ h))) w1 kX8_image ⟨rfl, rfl⟩ ⟨by have := hR.1; show 2 + 1 ≤ R.frames; omega, by have := hR.2; show 8 + (3 + 11) + 85 ≤ R.locals; omega⟩ 0 rfl rfl rfl hsz rfl hW9 hdg ⟨by have := hf.1; show cells + 9 ≤ R.cells; omega, by have := hf.2; show slots + 216 ≤ R.slots; omega⟩) (fun r W1 H locs hw hB => ?_)
        obtain ⟨b9, a9, rfl, rfl⟩ := hw
        skip
        have eA : imageA A (nI 0) = updA (updA A 1 (nIm (A 1) (A 0) 0)) 2 (upd (A 2) 0 (nI 1)) := by unfold imageA; rw [if_pos (show pIn 0 1 (nI 0) = true from hw0), ek]
        have eR : imageR (nI 0) = nI 1 := by unfold imageR; rw [if_pos (show pIn 0 1 (nI 0) = true from hw0)]
        rw [eA, eR] at kz
        exact kz _ _ _ ⟨T, C, V, U, im, tx, ab, be, tb, va_up ib 0 (some b9), lW g b9 a9 (nI T) (nI C) (nI U) (nI V) (va_cpy rd (fun _ => 0) 0 0 6) (va_cpy ro (fun _ => 0) 0 0 36) (va_cpy lw (fun _ => none) 0 0 8) (va_cpy pl (fun _ => none) 0 0 64) (va_cpy pc (fun _ => 0) 0 0 8) (va_cpy gv (fun _ => 0) 0 0 40) (fun _ => 0) (fun _ => 0), I1, d, rr, da, dr, rd, ro, lw, pl, pc, gv, aw, nt, T2, C2, U2, V2, rd2, ro2, lw2, pl2, pc2, gv2, aw2, nt2, Y, pm0.symm, hn, hrel, hbn, Or.inr ⟨b9, a9, T, C, U, V, va_cpy rd (fun _ => 0) 0 0 6, va_cpy ro (fun _ => 0) 0 0 36, va_cpy lw (fun _ => none) 0 0 8, va_cpy pl (fun _ => none) 0 0 64, va_cpy pc (fun _ => 0) 0 0 8, va_cpy gv (fun _ => 0) 0 0 40, (fun _ => 0), (fun _ => 0), (show va_up ib 0 (some b9) 0 = some b9 by simp [va_up]), (show ¬ upd (A 2) 0 (nI 1) 0 = 0 by simp [upd]; decide), rfl, nOK_eq hn (fun x hx => nIm_k hx), relL_copy hrel hn (fun x hx => nIm_k hx) (fun x hx q hq => (by cases hq)) (fun x hx q hq => (by cases hq))⟩, imR_j hi1 (fun x hx => nIm_j hx (by decide)) (show upd (A 2) 0 (nI 1) 1 = A 2 1 by simp [upd]) (show va_up ib 0 (some b9) 1 = ib 1 by simp [va_up]), h4, h5, htb, hln, hby⟩ hB
      · subst g3
        have hw0 := hw
        have hB := zB_perm hB (hW.trans pm0)
        refine z_qi hB (z_cV hE hB (c_X8_image_y l g x9 d rr im tx (nI ln) ab be (A 3 0) (A 3 1) (A 3 2) tb ib da T C U V rd ro lw pl pc gv aw nt b3 a3 T3 C3 U3 V3 rd3 ro3 lw3 pl3 pc3 gv3 aw3 nt3 0 (A 0) Y (lW g rr dr (nI T2) (nI C2) (nI U2) (nI V2) rd2 ro2 lw2 pl2 pc2 gv2 aw2 nt2 ++ (Y ++ (I1 ++ Z))) (by omega) g1 hn hrel (fun _ h => List.mem_append_right _ (List.mem_append_left _ h))) w1 kX8_image ⟨rfl, rfl⟩ ⟨by have := hR.1; show 2 + 1 ≤ R.frames; omega, by have := hR.2; show 8 + (3 + 11) + 85 ≤ R.locals; omega⟩ 0 rfl rfl rfl hsz rfl hW9 hdg ⟨by have := hf.1; show cells + 0 ≤ R.cells; omega, by have := hf.2; show slots + 0 ≤ R.slots; omega⟩) (fun r W1 H locs hw hB => ?_)
        obtain ⟨rfl, rfl⟩ := hw
        refine W.widen (k := cells + 9) (n := slots + 216) (by omega) (by omega) ?_
        have eA : imageA A (nI 0) = updA (updA A 1 (nIm (A 1) (A 0) 0)) 2 (upd (A 2) 0 (nI 1)) := by unfold imageA; rw [if_pos (show pIn 0 1 (nI 0) = true from hw0), ek]
        have eR : imageR (nI 0) = nI 1 := by unfold imageR; rw [if_pos (show pIn 0 1 (nI 0) = true from hw0)]
        rw [eA, eR] at kz
        exact kz _ _ _ ⟨T, C, V, U, im, tx, ab, be, tb, ib, lW g b3 a3 (nI T) (nI C) (nI U) (nI V) (va_cpy rd rd3 0 0 6) (va_cpy ro ro3 0 0 36) (va_cpy lw lw3 0 0 8) (va_cpy pl pl3 0 0 64) (va_cpy pc pc3 0 0 8) (va_cpy gv gv3 0 0 40) aw3 nt3, I1, d, rr, da, dr, rd, ro, lw, pl, pc, gv, aw, nt, T2, C2, U2, V2, rd2, ro2, lw2, pl2, pc2, gv2, aw2, nt2, Y, pm0.symm, hn, hrel, hbn, Or.inr ⟨b3, a3, T, C, U, V, va_cpy rd rd3 0 0 6, va_cpy ro ro3 0 0 36, va_cpy lw lw3 0 0 8, va_cpy pl pl3 0 0 64, va_cpy pc pc3 0 0 8, va_cpy gv gv3 0 0 40, aw3, nt3, g1, (show ¬ upd (A 2) 0 (nI 1) 0 = 0 by simp [upd]; decide), rfl, nOK_eq hn (fun x hx => nIm_k hx), relL_copy hrel hn (fun x hx => nIm_k hx) g5.2.2.2.2.2.1 g5.2.2.2.2.2.2⟩, imR_j hi1 (fun x hx => nIm_j hx (by decide)) (show upd (A 2) 0 (nI 1) 1 = A 2 1 by simp [upd]) rfl, h4, h5, htb, hln, hby⟩ hB
    · rcases hi1 with ⟨g1, g2, g3⟩ | ⟨b3, a3, T3, C3, U3, V3, rd3, ro3, lw3, pl3, pc3, gv3, aw3, nt3, g1, g2, g3, g4, g5⟩
      · subst g3
        have hw0 := hw
        have hB := zB_perm hB (hW.trans pm1)
        refine z_qi hB (z_cV hE hB (c_X8_image_n l g x9 d rr im tx (nI ln) ab be (A 3 0) (A 3 1) (A 3 2) tb ib da T C U V rd ro lw pl pc gv aw nt 1 (A 0) Y (lW g rr dr (nI T2) (nI C2) (nI U2) (nI V2) rd2 ro2 lw2 pl2 pc2 gv2 aw2 nt2 ++ (Y ++ (I0 ++ Z))) (by omega) g1 hn hrel (fun _ h => List.mem_append_right _ (List.mem_append_left _ h))) w1 kX8_image ⟨rfl, rfl⟩ ⟨by have := hR.1; show 2 + 1 ≤ R.frames; omega, by have := hR.2; show 8 + (3 + 11) + 85 ≤ R.locals; omega⟩ 0 rfl rfl rfl hsz rfl hW9 hdg ⟨by have := hf.1; show cells + 9 ≤ R.cells; omega, by have := hf.2; show slots + 216 ≤ R.slots; omega⟩) (fun r W1 H locs hw hB => ?_)
        obtain ⟨b9, a9, rfl, rfl⟩ := hw
        skip
        have eA : imageA A (nI 1) = updA (updA A 1 (nIm (A 1) (A 0) 1)) 2 (upd (A 2) 1 (nI 1)) := by unfold imageA; rw [if_pos (show pIn 0 1 (nI 1) = true from hw0), ek]
        have eR : imageR (nI 1) = nI 1 := by unfold imageR; rw [if_pos (show pIn 0 1 (nI 1) = true from hw0)]
        rw [eA, eR] at kz
        exact kz _ _ _ ⟨T, C, V, U, im, tx, ab, be, tb, va_up ib 1 (some b9), I0, lW g b9 a9 (nI T) (nI C) (nI U) (nI V) (va_cpy rd (fun _ => 0) 0 0 6) (va_cpy ro (fun _ => 0) 0 0 36) (va_cpy lw (fun _ => none) 0 0 8) (va_cpy pl (fun _ => none) 0 0 64) (va_cpy pc (fun _ => 0) 0 0 8) (va_cpy gv (fun _ => 0) 0 0 40) (fun _ => 0) (fun _ => 0), d, rr, da, dr, rd, ro, lw, pl, pc, gv, aw, nt, T2, C2, U2, V2, rd2, ro2, lw2, pl2, pc2, gv2, aw2, nt2, Y, pm1.symm, hn, hrel, hbn, imR_j hi0 (fun x hx => nIm_j hx (by decide)) (show upd (A 2) 1 (nI 1) 0 = A 2 0 by simp [upd]) (show va_up ib 1 (some b9) 0 = ib 0 by simp [va_up]), Or.inr ⟨b9, a9, T, C, U, V, va_cpy rd (fun _ => 0) 0 0 6, va_cpy ro (fun _ => 0) 0 0 36, va_cpy lw (fun _ => none) 0 0 8, va_cpy pl (fun _ => none) 0 0 64, va_cpy pc (fun _ => 0) 0 0 8, va_cpy gv (fun _ => 0) 0 0 40, (fun _ => 0), (fun _ => 0), (show va_up ib 1 (some b9) 1 = some b9 by simp [va_up]), (show ¬ upd (A 2) 1 (nI 1) 1 = 0 by simp [upd]; decide), rfl, nOK_eq hn (fun x hx => nIm_k hx), relL_copy hrel hn (fun x hx => nIm_k hx) (fun x hx q hq => (by cases hq)) (fun x hx q hq => (by cases hq))⟩, h4, h5, htb, hln, hby⟩ hB
      · subst g3
        have hw0 := hw
        have hB := zB_perm hB (hW.trans pm1)
        refine z_qi hB (z_cV hE hB (c_X8_image_y l g x9 d rr im tx (nI ln) ab be (A 3 0) (A 3 1) (A 3 2) tb ib da T C U V rd ro lw pl pc gv aw nt b3 a3 T3 C3 U3 V3 rd3 ro3 lw3 pl3 pc3 gv3 aw3 nt3 1 (A 0) Y (lW g rr dr (nI T2) (nI C2) (nI U2) (nI V2) rd2 ro2 lw2 pl2 pc2 gv2 aw2 nt2 ++ (Y ++ (I0 ++ Z))) (by omega) g1 hn hrel (fun _ h => List.mem_append_right _ (List.mem_append_left _ h))) w1 kX8_image ⟨rfl, rfl⟩ ⟨by have := hR.1; show 2 + 1 ≤ R.frames; omega, by have := hR.2; show 8 + (3 + 11) + 85 ≤ R.locals; omega⟩ 0 rfl rfl rfl hsz rfl hW9 hdg ⟨by have := hf.1; show cells + 0 ≤ R.cells; omega, by have := hf.2; show slots + 0 ≤ R.slots; omega⟩) (fun r W1 H locs hw hB => ?_)
        obtain ⟨rfl, rfl⟩ := hw
        refine W.widen (k := cells + 9) (n := slots + 216) (by omega) (by omega) ?_
        have eA : imageA A (nI 1) = updA (updA A 1 (nIm (A 1) (A 0) 1)) 2 (upd (A 2) 1 (nI 1)) := by unfold imageA; rw [if_pos (show pIn 0 1 (nI 1) = true from hw0), ek]
        have eR : imageR (nI 1) = nI 1 := by unfold imageR; rw [if_pos (show pIn 0 1 (nI 1) = true from hw0)]
        rw [eA, eR] at kz
        exact kz _ _ _ ⟨T, C, V, U, im, tx, ab, be, tb, ib, I0, lW g b3 a3 (nI T) (nI C) (nI U) (nI V) (va_cpy rd rd3 0 0 6) (va_cpy ro ro3 0 0 36) (va_cpy lw lw3 0 0 8) (va_cpy pl pl3 0 0 64) (va_cpy pc pc3 0 0 8) (va_cpy gv gv3 0 0 40) aw3 nt3, d, rr, da, dr, rd, ro, lw, pl, pc, gv, aw, nt, T2, C2, U2, V2, rd2, ro2, lw2, pl2, pc2, gv2, aw2, nt2, Y, pm1.symm, hn, hrel, hbn, imR_j hi0 (fun x hx => nIm_j hx (by decide)) (show upd (A 2) 1 (nI 1) 0 = A 2 0 by simp [upd]) rfl, Or.inr ⟨b3, a3, T, C, U, V, va_cpy rd rd3 0 0 6, va_cpy ro ro3 0 0 36, va_cpy lw lw3 0 0 8, va_cpy pl pl3 0 0 64, va_cpy pc pc3 0 0 8, va_cpy gv gv3 0 0 40, aw3, nt3, g1, (show ¬ upd (A 2) 1 (nI 1) 1 = 0 by simp [upd]; decide), rfl, nOK_eq hn (fun x hx => nIm_k hx), relL_copy hrel hn (fun x hx => nIm_k hx) g5.2.2.2.2.2.1 g5.2.2.2.2.2.2⟩, h4, h5, htb, hln, hby⟩ hB
