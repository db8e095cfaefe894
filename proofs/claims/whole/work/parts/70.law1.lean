set_option maxRecDepth 100000 in
theorem law_land {p : Program} {l : Launch} {e : Env} {s : State} {m : MethodId} {args : Array Value} {below : List Frame} {meth : Method} {c : Code} {H : Heap} {locs : List Loc} {cells slots : Nat} {Q : State → Prop} {ls : Array Slot} {g : zG} {b L9 : Nat} {xs : Nat → Int32} {x9 o i : Nat} {a : Nat → Nat} {W0 : va_W} (hE : zE g p s m args c code RL 4 meth) (hX : va_X b L9 xs s s.heap) (hbl : b < s.heap.size) (hg : gz g = s.heap.size) (hL : L9 ≤ 3584) (hi : i + 7 ≤ L9) (hl : lv_has ls 4 [(3, .int (nI i)), (2, .ref o), (1, .ref x9), (0, .ref b)]) (hc : cells + 151 ≤ 600000 ∧ slots + 757 ≤ 7302250) (hS : LI g x9 o a W0) (hB : zB g s W0 H locs)
    (kk : ∀ (W1 : va_W) (H1 : Heap) (locs1 : List Loc), LI g x9 o a W1 → zB g s W1 H1 locs1 → W p l e room_1 s m args below meth c H1 locs1 (cells + 151) (slots + 757) Q (F0 m 1295 ls [])) : W p l e room_1 s m args below meth c H locs cells slots Q (F0 m 172 ls []) := by
  obtain ⟨F, L, A, ln, T, C, V, U, h16, hS⟩ := hS
  have hk := cS_ok hS
  refine lv_aload_n hE.x hE.b dL_law_172 rfl (lv_at hl 2 rfl) ?_
  refine K_land hE hB hS q1_111 ⟨Nat.le_of_ble_eq_true rfl, Nat.le_of_ble_eq_true rfl⟩ ⟨by show cells + 0 ≤ 600000; omega, by show slots + 0 ≤ 7302250; omega⟩ hl.1 (Nat.le_of_ble_eq_true rfl) dL_law_173 (fun W1 H locs hS hB => ?_)
  refine lv_aload_n hE.x hE.b dL_law_176 rfl (lv_at hl 1 rfl) ?_
  refine N_land hE hB h16 hk hS q4_72 ⟨Nat.le_of_ble_eq_true rfl, Nat.le_of_ble_eq_true rfl⟩ ⟨by show cells + 0 + 0 ≤ 600000; omega, by show slots + 0 + 0 ≤ 7302250; omega⟩ hl.1 (Nat.le_of_ble_eq_true rfl) dL_law_177 (fun W2 H locs hS hB => ?_)
  refine lv_icmp_eq (tgt := 1295) hE.x hE.b dL_law_180 (by decide) (fun _ => ?_) (fun h => absurd rfl h)
  refine W.widen (k := cells + 151) (n := slots + 757) (by omega) (by omega) ?_
  exact kk _ _ _ hS hB

set_option maxRecDepth 100000 in
theorem law_town {p : Program} {l : Launch} {e : Env} {s : State} {m : MethodId} {args : Array Value} {below : List Frame} {meth : Method} {c : Code} {H : Heap} {locs : List Loc} {cells slots : Nat} {Q : State → Prop} {ls : Array Slot} {g : zG} {b L9 : Nat} {xs : Nat → Int32} {x9 o i : Nat} {a : Nat → Nat} {W0 : va_W} (hE : zE g p s m args c code RL 4 meth) (hX : va_X b L9 xs s s.heap) (hbl : b < s.heap.size) (hg : gz g = s.heap.size) (hL : L9 ≤ 3584) (hi : i + 7 ≤ L9) (hl : lv_has ls 4 [(3, .int (nI i)), (2, .ref o), (1, .ref x9), (0, .ref b)]) (hc : cells + 151 ≤ 600000 ∧ slots + 757 ≤ 7302250) (hS : LI g x9 o a W0) (hB : zB g s W0 H locs)
    (kk : ∀ (W1 : va_W) (H1 : Heap) (locs1 : List Loc), LI g x9 o a W1 → zB g s W1 H1 locs1 → W p l e room_1 s m args below meth c H1 locs1 (cells + 151) (slots + 757) Q (F0 m 1295 ls [])) : W p l e room_1 s m args below meth c H locs cells slots Q (F0 m 185 ls []) := by
  obtain ⟨F, L, A, ln, T, C, V, U, h16, hS⟩ := hS
  have hk := cS_ok hS
  refine lv_aload_n hE.x hE.b dL_law_185 rfl (lv_at hl 2 rfl) ?_
  refine lv_aload_n hE.x hE.b dL_law_186 rfl (lv_at hl 3 rfl) ?_
  refine lv_iload_n hE.x hE.b dL_law_187 rfl (lv_at hl 0 rfl) ?_
  refine lv_iconst (v := nI 1) hE.x hE.b dL_law_188 rfl ?_
  refine z_iaddN hE dL_law_189 ?_
  refine z_sld hE hB hX hbl hg hL (by omega) dL_law_190 ?_
  refine K_town hE hB hS q1_119 ⟨Nat.le_of_ble_eq_true rfl, Nat.le_of_ble_eq_true rfl⟩ ⟨by show cells + 0 ≤ 600000; omega, by show slots + 0 ≤ 7302250; omega⟩ hl.1 (Nat.le_of_ble_eq_true rfl) dL_law_191 (fun W1 H locs hS hB => ?_)
  refine lv_aload_n hE.x hE.b dL_law_194 rfl (lv_at hl 1 rfl) ?_
  refine lv_aload_n hE.x hE.b dL_law_195 rfl (lv_at hl 3 rfl) ?_
  refine lv_iload_n hE.x hE.b dL_law_196 rfl (lv_at hl 0 rfl) ?_
  refine lv_iconst (v := nI 1) hE.x hE.b dL_law_197 rfl ?_
  refine z_iaddN hE dL_law_198 ?_
  refine z_sld hE hB hX hbl hg hL (by omega) dL_law_199 ?_
  refine N_town hE hB h16 hk hS q4_83 ⟨Nat.le_of_ble_eq_true rfl, Nat.le_of_ble_eq_true rfl⟩ ⟨by show cells + 0 + 0 ≤ 600000; omega, by show slots + 0 + 0 ≤ 7302250; omega⟩ hl.1 (Nat.le_of_ble_eq_true rfl) dL_law_200 (fun W2 H locs hS hB => ?_)
  refine lv_icmp_eq (tgt := 1295) hE.x hE.b dL_law_203 (by decide) (fun _ => ?_) (fun h => absurd rfl h)
  refine W.widen (k := cells + 151) (n := slots + 757) (by omega) (by omega) ?_
  exact kk _ _ _ hS hB

set_option maxRecDepth 100000 in
theorem law_road {p : Program} {l : Launch} {e : Env} {s : State} {m : MethodId} {args : Array Value} {below : List Frame} {meth : Method} {c : Code} {H : Heap} {locs : List Loc} {cells slots : Nat} {Q : State → Prop} {ls : Array Slot} {g : zG} {b L9 : Nat} {xs : Nat → Int32} {x9 o i : Nat} {a : Nat → Nat} {W0 : va_W} (hE : zE g p s m args c code RL 4 meth) (hX : va_X b L9 xs s s.heap) (hbl : b < s.heap.size) (hg : gz g = s.heap.size) (hL : L9 ≤ 3584) (hi : i + 7 ≤ L9) (hl : lv_has ls 4 [(3, .int (nI i)), (2, .ref o), (1, .ref x9), (0, .ref b)]) (hc : cells + 151 ≤ 600000 ∧ slots + 757 ≤ 7302250) (hS : LI g x9 o a W0) (hB : zB g s W0 H locs)
    (kk : ∀ (W1 : va_W) (H1 : Heap) (locs1 : List Loc), LI g x9 o a W1 → zB g s W1 H1 locs1 → W p l e room_1 s m args below meth c H1 locs1 (cells + 151) (slots + 757) Q (F0 m 1295 ls [])) : W p l e room_1 s m args below meth c H locs cells slots Q (F0 m 208 ls []) := by
  obtain ⟨F, L, A, ln, T, C, V, U, h16, hS⟩ := hS
  have hk := cS_ok hS
  refine lv_aload_n hE.x hE.b dL_law_208 rfl (lv_at hl 2 rfl) ?_
  refine lv_aload_n hE.x hE.b dL_law_209 rfl (lv_at hl 3 rfl) ?_
  refine lv_iload_n hE.x hE.b dL_law_210 rfl (lv_at hl 0 rfl) ?_
  refine lv_iconst (v := nI 1) hE.x hE.b dL_law_211 rfl ?_
  refine z_iaddN hE dL_law_212 ?_
  refine z_sld hE hB hX hbl hg hL (by omega) dL_law_213 ?_
  refine lv_aload_n hE.x hE.b dL_law_214 rfl (lv_at hl 3 rfl) ?_
  refine lv_iload_n hE.x hE.b dL_law_215 rfl (lv_at hl 0 rfl) ?_
  refine lv_iconst (v := nI 2) hE.x hE.b dL_law_216 rfl ?_
  refine z_iaddN hE dL_law_217 ?_
  refine z_sld hE hB hX hbl hg hL (by omega) dL_law_218 ?_
  refine lv_aload_n hE.x hE.b dL_law_219 rfl (lv_at hl 3 rfl) ?_
  refine lv_iload_n hE.x hE.b dL_law_220 rfl (lv_at hl 0 rfl) ?_
  refine lv_iconst (v := nI 3) hE.x hE.b dL_law_221 rfl ?_
  refine z_iaddN hE dL_law_222 ?_
  refine z_sld hE hB hX hbl hg hL (by omega) dL_law_223 ?_
  refine K_road hE hB hS q1_138 ⟨Nat.le_of_ble_eq_true rfl, Nat.le_of_ble_eq_true rfl⟩ ⟨by show cells + 0 ≤ 600000; omega, by show slots + 0 ≤ 7302250; omega⟩ hl.1 (Nat.le_of_ble_eq_true rfl) dL_law_224 (fun W1 H locs hS hB => ?_)
  refine lv_aload_n hE.x hE.b dL_law_227 rfl (lv_at hl 1 rfl) ?_
  refine lv_aload_n hE.x hE.b dL_law_228 rfl (lv_at hl 3 rfl) ?_
  refine lv_iload_n hE.x hE.b dL_law_229 rfl (lv_at hl 0 rfl) ?_
  refine lv_iconst (v := nI 1) hE.x hE.b dL_law_230 rfl ?_
  refine z_iaddN hE dL_law_231 ?_
  refine z_sld hE hB hX hbl hg hL (by omega) dL_law_232 ?_
  refine lv_aload_n hE.x hE.b dL_law_233 rfl (lv_at hl 3 rfl) ?_
  refine lv_iload_n hE.x hE.b dL_law_234 rfl (lv_at hl 0 rfl) ?_
  refine lv_iconst (v := nI 2) hE.x hE.b dL_law_235 rfl ?_
  refine z_iaddN hE dL_law_236 ?_
  refine z_sld hE hB hX hbl hg hL (by omega) dL_law_237 ?_
  refine lv_aload_n hE.x hE.b dL_law_238 rfl (lv_at hl 3 rfl) ?_
  refine lv_iload_n hE.x hE.b dL_law_239 rfl (lv_at hl 0 rfl) ?_
  refine lv_iconst (v := nI 3) hE.x hE.b dL_law_240 rfl ?_
  refine z_iaddN hE dL_law_241 ?_
  refine z_sld hE hB hX hbl hg hL (by omega) dL_law_242 ?_
  refine N_road hE hB h16 hk hS q4_102 ⟨Nat.le_of_ble_eq_true rfl, Nat.le_of_ble_eq_true rfl⟩ ⟨by show cells + 0 + 0 ≤ 600000; omega, by show slots + 0 + 0 ≤ 7302250; omega⟩ hl.1 (Nat.le_of_ble_eq_true rfl) dL_law_243 (fun W2 H locs hS hB => ?_)
  refine lv_icmp_eq (tgt := 1295) hE.x hE.b dL_law_246 (by decide) (fun _ => ?_) (fun h => absurd rfl h)
  refine W.widen (k := cells + 151) (n := slots + 757) (by omega) (by omega) ?_
  exact kk _ _ _ hS hB

set_option maxRecDepth 100000 in
theorem law_clause {p : Program} {l : Launch} {e : Env} {s : State} {m : MethodId} {args : Array Value} {below : List Frame} {meth : Method} {c : Code} {H : Heap} {locs : List Loc} {cells slots : Nat} {Q : State → Prop} {ls : Array Slot} {g : zG} {b L9 : Nat} {xs : Nat → Int32} {x9 o i : Nat} {a : Nat → Nat} {W0 : va_W} (hE : zE g p s m args c code RL 4 meth) (hX : va_X b L9 xs s s.heap) (hbl : b < s.heap.size) (hg : gz g = s.heap.size) (hL : L9 ≤ 3584) (hi : i + 7 ≤ L9) (hl : lv_has ls 4 [(3, .int (nI i)), (2, .ref o), (1, .ref x9), (0, .ref b)]) (hc : cells + 151 ≤ 600000 ∧ slots + 757 ≤ 7302250) (hS : LI g x9 o a W0) (hB : zB g s W0 H locs)
    (kk : ∀ (W1 : va_W) (H1 : Heap) (locs1 : List Loc), LI g x9 o a W1 → zB g s W1 H1 locs1 → W p l e room_1 s m args below meth c H1 locs1 (cells + 151) (slots + 757) Q (F0 m 1295 ls [])) : W p l e room_1 s m args below meth c H locs cells slots Q (F0 m 251 ls []) := by
  obtain ⟨F, L, A, ln, T, C, V, U, h16, hS⟩ := hS
  have hk := cS_ok hS
  refine lv_aload_n hE.x hE.b dL_law_251 rfl (lv_at hl 2 rfl) ?_
  refine lv_aload_n hE.x hE.b dL_law_252 rfl (lv_at hl 3 rfl) ?_
  refine lv_iload_n hE.x hE.b dL_law_253 rfl (lv_at hl 0 rfl) ?_
  refine lv_iconst (v := nI 1) hE.x hE.b dL_law_254 rfl ?_
  refine z_iaddN hE dL_law_255 ?_
  refine z_sld hE hB hX hbl hg hL (by omega) dL_law_256 ?_
  refine lv_aload_n hE.x hE.b dL_law_257 rfl (lv_at hl 3 rfl) ?_
  refine lv_iload_n hE.x hE.b dL_law_258 rfl (lv_at hl 0 rfl) ?_
  refine lv_iconst (v := nI 2) hE.x hE.b dL_law_259 rfl ?_
  refine z_iaddN hE dL_law_260 ?_
  refine z_sld hE hB hX hbl hg hL (by omega) dL_law_261 ?_
  refine lv_aload_n hE.x hE.b dL_law_262 rfl (lv_at hl 3 rfl) ?_
  refine lv_iload_n hE.x hE.b dL_law_263 rfl (lv_at hl 0 rfl) ?_
  refine lv_iconst (v := nI 3) hE.x hE.b dL_law_264 rfl ?_
  refine z_iaddN hE dL_law_265 ?_
  refine z_sld hE hB hX hbl hg hL (by omega) dL_law_266 ?_
  refine lv_aload_n hE.x hE.b dL_law_267 rfl (lv_at hl 3 rfl) ?_
  refine lv_iload_n hE.x hE.b dL_law_268 rfl (lv_at hl 0 rfl) ?_
  refine lv_iconst (v := nI 4) hE.x hE.b dL_law_269 rfl ?_
  refine z_iaddN hE dL_law_270 ?_
  refine z_sld hE hB hX hbl hg hL (by omega) dL_law_271 ?_
  refine lv_aload_n hE.x hE.b dL_law_272 rfl (lv_at hl 3 rfl) ?_
  refine lv_iload_n hE.x hE.b dL_law_273 rfl (lv_at hl 0 rfl) ?_
  refine lv_iconst (v := nI 5) hE.x hE.b dL_law_274 rfl ?_
  refine z_iaddN hE dL_law_275 ?_
  refine z_sld hE hB hX hbl hg hL (by omega) dL_law_276 ?_
  refine K_clause hE hB hS q1_154 ⟨Nat.le_of_ble_eq_true rfl, Nat.le_of_ble_eq_true rfl⟩ ⟨by show cells + 1 ≤ 600000; omega, by show slots + 5 ≤ 7302250; omega⟩ hl.1 (Nat.le_of_ble_eq_true rfl) dL_law_277 (fun W1 H locs hS hB => ?_)
  refine lv_aload_n hE.x hE.b dL_law_280 rfl (lv_at hl 1 rfl) ?_
  refine lv_aload_n hE.x hE.b dL_law_281 rfl (lv_at hl 3 rfl) ?_
  refine lv_iload_n hE.x hE.b dL_law_282 rfl (lv_at hl 0 rfl) ?_
  refine lv_iconst (v := nI 1) hE.x hE.b dL_law_283 rfl ?_
  refine z_iaddN hE dL_law_284 ?_
  refine z_sld hE hB hX hbl hg hL (by omega) dL_law_285 ?_
  refine lv_aload_n hE.x hE.b dL_law_286 rfl (lv_at hl 3 rfl) ?_
  refine lv_iload_n hE.x hE.b dL_law_287 rfl (lv_at hl 0 rfl) ?_
  refine lv_iconst (v := nI 2) hE.x hE.b dL_law_288 rfl ?_
  refine z_iaddN hE dL_law_289 ?_
  refine z_sld hE hB hX hbl hg hL (by omega) dL_law_290 ?_
  refine lv_aload_n hE.x hE.b dL_law_291 rfl (lv_at hl 3 rfl) ?_
  refine lv_iload_n hE.x hE.b dL_law_292 rfl (lv_at hl 0 rfl) ?_
  refine lv_iconst (v := nI 3) hE.x hE.b dL_law_293 rfl ?_
  refine z_iaddN hE dL_law_294 ?_
  refine z_sld hE hB hX hbl hg hL (by omega) dL_law_295 ?_
  refine lv_aload_n hE.x hE.b dL_law_296 rfl (lv_at hl 3 rfl) ?_
  refine lv_iload_n hE.x hE.b dL_law_297 rfl (lv_at hl 0 rfl) ?_
  refine lv_iconst (v := nI 4) hE.x hE.b dL_law_298 rfl ?_
  refine z_iaddN hE dL_law_299 ?_
  refine z_sld hE hB hX hbl hg hL (by omega) dL_law_300 ?_
  refine lv_aload_n hE.x hE.b dL_law_301 rfl (lv_at hl 3 rfl) ?_
  refine lv_iload_n hE.x hE.b dL_law_302 rfl (lv_at hl 0 rfl) ?_
  refine lv_iconst (v := nI 5) hE.x hE.b dL_law_303 rfl ?_
  refine z_iaddN hE dL_law_304 ?_
  refine z_sld hE hB hX hbl hg hL (by omega) dL_law_305 ?_
  refine N_clause hE hB h16 hk hS q4_114 ⟨Nat.le_of_ble_eq_true rfl, Nat.le_of_ble_eq_true rfl⟩ ⟨by show cells + 1 + 0 ≤ 600000; omega, by show slots + 5 + 0 ≤ 7302250; omega⟩ hl.1 (Nat.le_of_ble_eq_true rfl) dL_law_306 (fun W2 H locs hS hB => ?_)
  refine lv_icmp_eq (tgt := 1295) hE.x hE.b dL_law_309 (by decide) (fun _ => ?_) (fun h => absurd rfl h)
  refine W.widen (k := cells + 151) (n := slots + 757) (by omega) (by omega) ?_
  exact kk _ _ _ hS hB

set_option maxRecDepth 100000 in
theorem law_strike {p : Program} {l : Launch} {e : Env} {s : State} {m : MethodId} {args : Array Value} {below : List Frame} {meth : Method} {c : Code} {H : Heap} {locs : List Loc} {cells slots : Nat} {Q : State → Prop} {ls : Array Slot} {g : zG} {b L9 : Nat} {xs : Nat → Int32} {x9 o i : Nat} {a : Nat → Nat} {W0 : va_W} (hE : zE g p s m args c code RL 4 meth) (hX : va_X b L9 xs s s.heap) (hbl : b < s.heap.size) (hg : gz g = s.heap.size) (hL : L9 ≤ 3584) (hi : i + 7 ≤ L9) (hl : lv_has ls 4 [(3, .int (nI i)), (2, .ref o), (1, .ref x9), (0, .ref b)]) (hc : cells + 151 ≤ 600000 ∧ slots + 757 ≤ 7302250) (hS : LI g x9 o a W0) (hB : zB g s W0 H locs)
    (kk : ∀ (W1 : va_W) (H1 : Heap) (locs1 : List Loc), LI g x9 o a W1 → zB g s W1 H1 locs1 → W p l e room_1 s m args below meth c H1 locs1 (cells + 151) (slots + 757) Q (F0 m 1295 ls [])) : W p l e room_1 s m args below meth c H locs cells slots Q (F0 m 314 ls []) := by
  obtain ⟨F, L, A, ln, T, C, V, U, h16, hS⟩ := hS
  have hk := cS_ok hS
  refine lv_aload_n hE.x hE.b dL_law_314 rfl (lv_at hl 2 rfl) ?_
  refine lv_aload_n hE.x hE.b dL_law_315 rfl (lv_at hl 3 rfl) ?_
  refine lv_iload_n hE.x hE.b dL_law_316 rfl (lv_at hl 0 rfl) ?_
  refine lv_iconst (v := nI 1) hE.x hE.b dL_law_317 rfl ?_
  refine z_iaddN hE dL_law_318 ?_
  refine z_sld hE hB hX hbl hg hL (by omega) dL_law_319 ?_
  refine K_strike hE hB hS q2_33 ⟨Nat.le_of_ble_eq_true rfl, Nat.le_of_ble_eq_true rfl⟩ ⟨by show cells + 0 ≤ 600000; omega, by show slots + 0 ≤ 7302250; omega⟩ hl.1 (Nat.le_of_ble_eq_true rfl) dL_law_320 (fun W1 H locs hS hB => ?_)
  refine lv_aload_n hE.x hE.b dL_law_323 rfl (lv_at hl 1 rfl) ?_
  refine lv_aload_n hE.x hE.b dL_law_324 rfl (lv_at hl 3 rfl) ?_
  refine lv_iload_n hE.x hE.b dL_law_325 rfl (lv_at hl 0 rfl) ?_
  refine lv_iconst (v := nI 1) hE.x hE.b dL_law_326 rfl ?_
  refine z_iaddN hE dL_law_327 ?_
  refine z_sld hE hB hX hbl hg hL (by omega) dL_law_328 ?_
  refine N_strike hE hB h16 hk hS q4_134 ⟨Nat.le_of_ble_eq_true rfl, Nat.le_of_ble_eq_true rfl⟩ ⟨by show cells + 0 + 0 ≤ 600000; omega, by show slots + 0 + 0 ≤ 7302250; omega⟩ hl.1 (Nat.le_of_ble_eq_true rfl) dL_law_329 (fun W2 H locs hS hB => ?_)
  refine lv_icmp_eq (tgt := 1295) hE.x hE.b dL_law_332 (by decide) (fun _ => ?_) (fun h => absurd rfl h)
  refine W.widen (k := cells + 151) (n := slots + 757) (by omega) (by omega) ?_
  exact kk _ _ _ hS hB

set_option maxRecDepth 100000 in
theorem law_undo {p : Program} {l : Launch} {e : Env} {s : State} {m : MethodId} {args : Array Value} {below : List Frame} {meth : Method} {c : Code} {H : Heap} {locs : List Loc} {cells slots : Nat} {Q : State → Prop} {ls : Array Slot} {g : zG} {b L9 : Nat} {xs : Nat → Int32} {x9 o i : Nat} {a : Nat → Nat} {W0 : va_W} (hE : zE g p s m args c code RL 4 meth) (hX : va_X b L9 xs s s.heap) (hbl : b < s.heap.size) (hg : gz g = s.heap.size) (hL : L9 ≤ 3584) (hi : i + 7 ≤ L9) (hl : lv_has ls 4 [(3, .int (nI i)), (2, .ref o), (1, .ref x9), (0, .ref b)]) (hc : cells + 151 ≤ 600000 ∧ slots + 757 ≤ 7302250) (hS : LI g x9 o a W0) (hB : zB g s W0 H locs)
    (kk : ∀ (W1 : va_W) (H1 : Heap) (locs1 : List Loc), LI g x9 o a W1 → zB g s W1 H1 locs1 → W p l e room_1 s m args below meth c H1 locs1 (cells + 151) (slots + 757) Q (F0 m 1295 ls [])) : W p l e room_1 s m args below meth c H locs cells slots Q (F0 m 337 ls []) := by
  obtain ⟨F, L, A, ln, T, C, V, U, h16, hS⟩ := hS
  have hk := cS_ok hS
  refine lv_aload_n hE.x hE.b dL_law_337 rfl (lv_at hl 2 rfl) ?_
  refine K_undo hE hB hS q2_41 ⟨Nat.le_of_ble_eq_true rfl, Nat.le_of_ble_eq_true rfl⟩ ⟨by show cells + 0 ≤ 600000; omega, by show slots + 0 ≤ 7302250; omega⟩ hl.1 (Nat.le_of_ble_eq_true rfl) dL_law_338 (fun W1 H locs hS hB => ?_)
  refine lv_aload_n hE.x hE.b dL_law_341 rfl (lv_at hl 1 rfl) ?_
  refine N_undo hE hB h16 hk hS q4_142 ⟨Nat.le_of_ble_eq_true rfl, Nat.le_of_ble_eq_true rfl⟩ ⟨by show cells + 0 + 0 ≤ 600000; omega, by show slots + 0 + 0 ≤ 7302250; omega⟩ hl.1 (Nat.le_of_ble_eq_true rfl) dL_law_342 (fun W2 H locs hS hB => ?_)
  refine lv_icmp_eq (tgt := 1295) hE.x hE.b dL_law_345 (by decide) (fun _ => ?_) (fun h => absurd rfl h)
  refine W.widen (k := cells + 151) (n := slots + 757) (by omega) (by omega) ?_
  exact kk _ _ _ hS hB

set_option maxRecDepth 100000 in
theorem law_type {p : Program} {l : Launch} {e : Env} {s : State} {m : MethodId} {args : Array Value} {below : List Frame} {meth : Method} {c : Code} {H : Heap} {locs : List Loc} {cells slots : Nat} {Q : State → Prop} {ls : Array Slot} {g : zG} {b L9 : Nat} {xs : Nat → Int32} {x9 o i : Nat} {a : Nat → Nat} {W0 : va_W} (hE : zE g p s m args c code RL 4 meth) (hX : va_X b L9 xs s s.heap) (hbl : b < s.heap.size) (hg : gz g = s.heap.size) (hL : L9 ≤ 3584) (hi : i + 7 ≤ L9) (hl : lv_has ls 4 [(3, .int (nI i)), (2, .ref o), (1, .ref x9), (0, .ref b)]) (hc : cells + 151 ≤ 600000 ∧ slots + 757 ≤ 7302250) (hS : LI g x9 o a W0) (hB : zB g s W0 H locs)
    (kk : ∀ (W1 : va_W) (H1 : Heap) (locs1 : List Loc), LI g x9 o a W1 → zB g s W1 H1 locs1 → W p l e room_1 s m args below meth c H1 locs1 (cells + 151) (slots + 757) Q (F0 m 1295 ls [])) : W p l e room_1 s m args below meth c H locs cells slots Q (F0 m 350 ls []) := by
  obtain ⟨F, L, A, ln, T, C, V, U, h16, hS⟩ := hS
  have hk := cS_ok hS
  refine lv_aload_n hE.x hE.b dL_law_350 rfl (lv_at hl 2 rfl) ?_
  refine lv_aload_n hE.x hE.b dL_law_351 rfl (lv_at hl 3 rfl) ?_
  refine lv_iload_n hE.x hE.b dL_law_352 rfl (lv_at hl 0 rfl) ?_
  refine lv_iconst (v := nI 1) hE.x hE.b dL_law_353 rfl ?_
  refine z_iaddN hE dL_law_354 ?_
  refine z_sld hE hB hX hbl hg hL (by omega) dL_law_355 ?_
  refine K_type hE hB hS q2_53 ⟨Nat.le_of_ble_eq_true rfl, Nat.le_of_ble_eq_true rfl⟩ ⟨by show cells + 0 ≤ 600000; omega, by show slots + 0 ≤ 7302250; omega⟩ hl.1 (Nat.le_of_ble_eq_true rfl) dL_law_356 (fun W1 H locs hS hB => ?_)
  refine lv_aload_n hE.x hE.b dL_law_359 rfl (lv_at hl 1 rfl) ?_
  refine lv_aload_n hE.x hE.b dL_law_360 rfl (lv_at hl 3 rfl) ?_
  refine lv_iload_n hE.x hE.b dL_law_361 rfl (lv_at hl 0 rfl) ?_
  refine lv_iconst (v := nI 1) hE.x hE.b dL_law_362 rfl ?_
  refine z_iaddN hE dL_law_363 ?_
  refine z_sld hE hB hX hbl hg hL (by omega) dL_law_364 ?_
  refine N_type hE hB h16 hk hS q5_56 ⟨Nat.le_of_ble_eq_true rfl, Nat.le_of_ble_eq_true rfl⟩ ⟨by show cells + 0 + 0 ≤ 600000; omega, by show slots + 0 + 0 ≤ 7302250; omega⟩ hl.1 (Nat.le_of_ble_eq_true rfl) dL_law_365 (fun W2 H locs hS hB => ?_)
  refine lv_icmp_eq (tgt := 1295) hE.x hE.b dL_law_368 (by decide) (fun _ => ?_) (fun h => absurd rfl h)
  refine W.widen (k := cells + 151) (n := slots + 757) (by omega) (by omega) ?_
  exact kk _ _ _ hS hB

set_option maxRecDepth 100000 in
theorem law_clear {p : Program} {l : Launch} {e : Env} {s : State} {m : MethodId} {args : Array Value} {below : List Frame} {meth : Method} {c : Code} {H : Heap} {locs : List Loc} {cells slots : Nat} {Q : State → Prop} {ls : Array Slot} {g : zG} {b L9 : Nat} {xs : Nat → Int32} {x9 o i : Nat} {a : Nat → Nat} {W0 : va_W} (hE : zE g p s m args c code RL 4 meth) (hX : va_X b L9 xs s s.heap) (hbl : b < s.heap.size) (hg : gz g = s.heap.size) (hL : L9 ≤ 3584) (hi : i + 7 ≤ L9) (hl : lv_has ls 4 [(3, .int (nI i)), (2, .ref o), (1, .ref x9), (0, .ref b)]) (hc : cells + 151 ≤ 600000 ∧ slots + 757 ≤ 7302250) (hS : LI g x9 o a W0) (hB : zB g s W0 H locs)
    (kk : ∀ (W1 : va_W) (H1 : Heap) (locs1 : List Loc), LI g x9 o a W1 → zB g s W1 H1 locs1 → W p l e room_1 s m args below meth c H1 locs1 (cells + 151) (slots + 757) Q (F0 m 1295 ls [])) : W p l e room_1 s m args below meth c H locs cells slots Q (F0 m 373 ls []) := by
  obtain ⟨F, L, A, ln, T, C, V, U, h16, hS⟩ := hS
  have hk := cS_ok hS
  refine lv_aload_n hE.x hE.b dL_law_373 rfl (lv_at hl 2 rfl) ?_
  refine K_clear hE hB hS q2_57 ⟨Nat.le_of_ble_eq_true rfl, Nat.le_of_ble_eq_true rfl⟩ ⟨by show cells + 0 ≤ 600000; omega, by show slots + 0 ≤ 7302250; omega⟩ hl.1 (Nat.le_of_ble_eq_true rfl) dL_law_374 (fun W1 H locs hS hB => ?_)
  refine lv_aload_n hE.x hE.b dL_law_377 rfl (lv_at hl 1 rfl) ?_
  refine N_clear hE hB h16 hk hS q5_61 ⟨Nat.le_of_ble_eq_true rfl, Nat.le_of_ble_eq_true rfl⟩ ⟨by show cells + 0 + 0 ≤ 600000; omega, by show slots + 0 + 0 ≤ 7302250; omega⟩ hl.1 (Nat.le_of_ble_eq_true rfl) dL_law_378 (fun W2 H locs hS hB => ?_)
  refine lv_icmp_eq (tgt := 1295) hE.x hE.b dL_law_381 (by decide) (fun _ => ?_) (fun h => absurd rfl h)
  refine W.widen (k := cells + 151) (n := slots + 757) (by omega) (by omega) ?_
  exact kk _ _ _ hS hB

set_option maxRecDepth 100000 in
theorem law_read {p : Program} {l : Launch} {e : Env} {s : State} {m : MethodId} {args : Array Value} {below : List Frame} {meth : Method} {c : Code} {H : Heap} {locs : List Loc} {cells slots : Nat} {Q : State → Prop} {ls : Array Slot} {g : zG} {b L9 : Nat} {xs : Nat → Int32} {x9 o i : Nat} {a : Nat → Nat} {W0 : va_W} (hE : zE g p s m args c code RL 4 meth) (hX : va_X b L9 xs s s.heap) (hbl : b < s.heap.size) (hg : gz g = s.heap.size) (hL : L9 ≤ 3584) (hi : i + 7 ≤ L9) (hl : lv_has ls 4 [(3, .int (nI i)), (2, .ref o), (1, .ref x9), (0, .ref b)]) (hc : cells + 151 ≤ 600000 ∧ slots + 757 ≤ 7302250) (hS : LI g x9 o a W0) (hB : zB g s W0 H locs)
    (kk : ∀ (W1 : va_W) (H1 : Heap) (locs1 : List Loc), LI g x9 o a W1 → zB g s W1 H1 locs1 → W p l e room_1 s m args below meth c H1 locs1 (cells + 151) (slots + 757) Q (F0 m 1295 ls [])) : W p l e room_1 s m args below meth c H locs cells slots Q (F0 m 386 ls []) := by
  obtain ⟨F, L, A, ln, T, C, V, U, h16, hS⟩ := hS
  have hk := cS_ok hS
  refine lv_aload_n hE.x hE.b dL_law_386 rfl (lv_at hl 2 rfl) ?_
  refine K_read hE hB hS q2_61 ⟨Nat.le_of_ble_eq_true rfl, Nat.le_of_ble_eq_true rfl⟩ ⟨by show cells + 151 ≤ 600000; omega, by show slots + 757 ≤ 7302250; omega⟩ hl.1 (Nat.le_of_ble_eq_true rfl) dL_law_387 (fun W1 H locs hS hB => ?_)
  refine lv_aload_n hE.x hE.b dL_law_390 rfl (lv_at hl 1 rfl) ?_
  refine N_read hE hB h16 hk hS q5_65 ⟨Nat.le_of_ble_eq_true rfl, Nat.le_of_ble_eq_true rfl⟩ ⟨by show cells + 151 + 0 ≤ 600000; omega, by show slots + 757 + 0 ≤ 7302250; omega⟩ hl.1 (Nat.le_of_ble_eq_true rfl) dL_law_391 (fun W2 H locs hS hB => ?_)
  refine lv_icmp_eq (tgt := 1295) hE.x hE.b dL_law_394 (by decide) (fun _ => ?_) (fun h => absurd rfl h)
  refine W.widen (k := cells + 151) (n := slots + 757) (by omega) (by omega) ?_
  exact kk _ _ _ hS hB

set_option maxRecDepth 100000 in
theorem law_of {p : Program} {l : Launch} {e : Env} {s : State} {m : MethodId} {args : Array Value} {below : List Frame} {meth : Method} {c : Code} {H : Heap} {locs : List Loc} {cells slots : Nat} {Q : State → Prop} {ls : Array Slot} {g : zG} {b L9 : Nat} {xs : Nat → Int32} {x9 o i : Nat} {a : Nat → Nat} {W0 : va_W} (hE : zE g p s m args c code RL 4 meth) (hX : va_X b L9 xs s s.heap) (hbl : b < s.heap.size) (hg : gz g = s.heap.size) (hL : L9 ≤ 3584) (hi : i + 7 ≤ L9) (hl : lv_has ls 4 [(3, .int (nI i)), (2, .ref o), (1, .ref x9), (0, .ref b)]) (hc : cells + 151 ≤ 600000 ∧ slots + 757 ≤ 7302250) (hS : LI g x9 o a W0) (hB : zB g s W0 H locs)
    (kk : ∀ (W1 : va_W) (H1 : Heap) (locs1 : List Loc), LI g x9 o a W1 → zB g s W1 H1 locs1 → W p l e room_1 s m args below meth c H1 locs1 (cells + 151) (slots + 757) Q (F0 m 1295 ls [])) : W p l e room_1 s m args below meth c H locs cells slots Q (F0 m 399 ls []) := by
  obtain ⟨F, L, A, ln, T, C, V, U, h16, hS⟩ := hS
  have hk := cS_ok hS
  refine lv_aload_n hE.x hE.b dL_law_399 rfl (lv_at hl 2 rfl) ?_
  refine lv_aload_n hE.x hE.b dL_law_400 rfl (lv_at hl 3 rfl) ?_
  refine lv_iload_n hE.x hE.b dL_law_401 rfl (lv_at hl 0 rfl) ?_
  refine lv_iconst (v := nI 1) hE.x hE.b dL_law_402 rfl ?_
  refine z_iaddN hE dL_law_403 ?_
  refine z_sld hE hB hX hbl hg hL (by omega) dL_law_404 ?_
  refine lv_aload_n hE.x hE.b dL_law_405 rfl (lv_at hl 3 rfl) ?_
  refine lv_iload_n hE.x hE.b dL_law_406 rfl (lv_at hl 0 rfl) ?_
  refine lv_iconst (v := nI 2) hE.x hE.b dL_law_407 rfl ?_
  refine z_iaddN hE dL_law_408 ?_
  refine z_sld hE hB hX hbl hg hL (by omega) dL_law_409 ?_
  refine K_of hE hB hS q2_193 ⟨Nat.le_of_ble_eq_true rfl, Nat.le_of_ble_eq_true rfl⟩ ⟨by show cells + 0 ≤ 600000; omega, by show slots + 0 ≤ 7302250; omega⟩ hl.1 (Nat.le_of_ble_eq_true rfl) dL_law_410 (fun W1 H locs hS hB => ?_)
  refine lv_aload_n hE.x hE.b dL_law_413 rfl (lv_at hl 1 rfl) ?_
  refine lv_aload_n hE.x hE.b dL_law_414 rfl (lv_at hl 3 rfl) ?_
  refine lv_iload_n hE.x hE.b dL_law_415 rfl (lv_at hl 0 rfl) ?_
  refine lv_iconst (v := nI 1) hE.x hE.b dL_law_416 rfl ?_
  refine z_iaddN hE dL_law_417 ?_
  refine z_sld hE hB hX hbl hg hL (by omega) dL_law_418 ?_
  refine lv_aload_n hE.x hE.b dL_law_419 rfl (lv_at hl 3 rfl) ?_
  refine lv_iload_n hE.x hE.b dL_law_420 rfl (lv_at hl 0 rfl) ?_
  refine lv_iconst (v := nI 2) hE.x hE.b dL_law_421 rfl ?_
  refine z_iaddN hE dL_law_422 ?_
  refine z_sld hE hB hX hbl hg hL (by omega) dL_law_423 ?_
  refine N_of hE hB h16 hk hS q4_150 ⟨Nat.le_of_ble_eq_true rfl, Nat.le_of_ble_eq_true rfl⟩ ⟨by show cells + 0 + 0 ≤ 600000; omega, by show slots + 0 + 0 ≤ 7302250; omega⟩ hl.1 (Nat.le_of_ble_eq_true rfl) dL_law_424 (fun W2 H locs hS hB => ?_)
  refine lv_icmp_eq (tgt := 1295) hE.x hE.b dL_law_427 (by decide) (fun _ => ?_) (fun h => absurd rfl h)
  refine W.widen (k := cells + 151) (n := slots + 757) (by omega) (by omega) ?_
  exact kk _ _ _ hS hB

set_option maxRecDepth 100000 in
theorem law_far {p : Program} {l : Launch} {e : Env} {s : State} {m : MethodId} {args : Array Value} {below : List Frame} {meth : Method} {c : Code} {H : Heap} {locs : List Loc} {cells slots : Nat} {Q : State → Prop} {ls : Array Slot} {g : zG} {b L9 : Nat} {xs : Nat → Int32} {x9 o i : Nat} {a : Nat → Nat} {W0 : va_W} (hE : zE g p s m args c code RL 4 meth) (hX : va_X b L9 xs s s.heap) (hbl : b < s.heap.size) (hg : gz g = s.heap.size) (hL : L9 ≤ 3584) (hi : i + 7 ≤ L9) (hl : lv_has ls 4 [(3, .int (nI i)), (2, .ref o), (1, .ref x9), (0, .ref b)]) (hc : cells + 151 ≤ 600000 ∧ slots + 757 ≤ 7302250) (hS : LI g x9 o a W0) (hB : zB g s W0 H locs)
    (kk : ∀ (W1 : va_W) (H1 : Heap) (locs1 : List Loc), LI g x9 o a W1 → zB g s W1 H1 locs1 → W p l e room_1 s m args below meth c H1 locs1 (cells + 151) (slots + 757) Q (F0 m 1295 ls [])) : W p l e room_1 s m args below meth c H locs cells slots Q (F0 m 432 ls []) := by
  obtain ⟨F, L, A, ln, T, C, V, U, h16, hS⟩ := hS
  have hk := cS_ok hS
  refine lv_aload_n hE.x hE.b dL_law_432 rfl (lv_at hl 2 rfl) ?_
  refine lv_aload_n hE.x hE.b dL_law_433 rfl (lv_at hl 3 rfl) ?_
  refine lv_iload_n hE.x hE.b dL_law_434 rfl (lv_at hl 0 rfl) ?_
  refine lv_iconst (v := nI 1) hE.x hE.b dL_law_435 rfl ?_
  refine z_iaddN hE dL_law_436 ?_
  refine z_sld hE hB hX hbl hg hL (by omega) dL_law_437 ?_
  refine lv_aload_n hE.x hE.b dL_law_438 rfl (lv_at hl 3 rfl) ?_
  refine lv_iload_n hE.x hE.b dL_law_439 rfl (lv_at hl 0 rfl) ?_
  refine lv_iconst (v := nI 2) hE.x hE.b dL_law_440 rfl ?_
  refine z_iaddN hE dL_law_441 ?_
  refine z_sld hE hB hX hbl hg hL (by omega) dL_law_442 ?_
  refine K_far hE hB hS q2_225 ⟨Nat.le_of_ble_eq_true rfl, Nat.le_of_ble_eq_true rfl⟩ ⟨by show cells + 0 ≤ 600000; omega, by show slots + 0 ≤ 7302250; omega⟩ hl.1 (Nat.le_of_ble_eq_true rfl) dL_law_443 (fun W1 H locs hS hB => ?_)
  refine lv_aload_n hE.x hE.b dL_law_446 rfl (lv_at hl 1 rfl) ?_
  refine lv_aload_n hE.x hE.b dL_law_447 rfl (lv_at hl 3 rfl) ?_
  refine lv_iload_n hE.x hE.b dL_law_448 rfl (lv_at hl 0 rfl) ?_
  refine lv_iconst (v := nI 1) hE.x hE.b dL_law_449 rfl ?_
  refine z_iaddN hE dL_law_450 ?_
  refine z_sld hE hB hX hbl hg hL (by omega) dL_law_451 ?_
  refine lv_aload_n hE.x hE.b dL_law_452 rfl (lv_at hl 3 rfl) ?_
  refine lv_iload_n hE.x hE.b dL_law_453 rfl (lv_at hl 0 rfl) ?_
  refine lv_iconst (v := nI 2) hE.x hE.b dL_law_454 rfl ?_
  refine z_iaddN hE dL_law_455 ?_
  refine z_sld hE hB hX hbl hg hL (by omega) dL_law_456 ?_
  refine N_far hE hB h16 hk hS q4_193 ⟨Nat.le_of_ble_eq_true rfl, Nat.le_of_ble_eq_true rfl⟩ ⟨by show cells + 0 + 0 ≤ 600000; omega, by show slots + 0 + 0 ≤ 7302250; omega⟩ hl.1 (Nat.le_of_ble_eq_true rfl) dL_law_457 (fun W2 H locs hS hB => ?_)
  refine lv_icmp_eq (tgt := 1295) hE.x hE.b dL_law_460 (by decide) (fun _ => ?_) (fun h => absurd rfl h)
  refine W.widen (k := cells + 151) (n := slots + 757) (by omega) (by omega) ?_
  exact kk _ _ _ hS hB

set_option maxRecDepth 100000 in
theorem law_allowed {p : Program} {l : Launch} {e : Env} {s : State} {m : MethodId} {args : Array Value} {below : List Frame} {meth : Method} {c : Code} {H : Heap} {locs : List Loc} {cells slots : Nat} {Q : State → Prop} {ls : Array Slot} {g : zG} {b L9 : Nat} {xs : Nat → Int32} {x9 o i : Nat} {a : Nat → Nat} {W0 : va_W} (hE : zE g p s m args c code RL 4 meth) (hX : va_X b L9 xs s s.heap) (hbl : b < s.heap.size) (hg : gz g = s.heap.size) (hL : L9 ≤ 3584) (hi : i + 7 ≤ L9) (hl : lv_has ls 4 [(3, .int (nI i)), (2, .ref o), (1, .ref x9), (0, .ref b)]) (hc : cells + 151 ≤ 600000 ∧ slots + 757 ≤ 7302250) (hS : LI g x9 o a W0) (hB : zB g s W0 H locs)
    (kk : ∀ (W1 : va_W) (H1 : Heap) (locs1 : List Loc), LI g x9 o a W1 → zB g s W1 H1 locs1 → W p l e room_1 s m args below meth c H1 locs1 (cells + 151) (slots + 757) Q (F0 m 1295 ls [])) : W p l e room_1 s m args below meth c H locs cells slots Q (F0 m 465 ls []) := by
  obtain ⟨F, L, A, ln, T, C, V, U, h16, hS⟩ := hS
  have hk := cS_ok hS
  refine lv_aload_n hE.x hE.b dL_law_465 rfl (lv_at hl 2 rfl) ?_
  refine lv_aload_n hE.x hE.b dL_law_466 rfl (lv_at hl 3 rfl) ?_
  refine lv_iload_n hE.x hE.b dL_law_467 rfl (lv_at hl 0 rfl) ?_
  refine lv_iconst (v := nI 1) hE.x hE.b dL_law_468 rfl ?_
  refine z_iaddN hE dL_law_469 ?_
  refine z_sld hE hB hX hbl hg hL (by omega) dL_law_470 ?_
  refine lv_aload_n hE.x hE.b dL_law_471 rfl (lv_at hl 3 rfl) ?_
  refine lv_iload_n hE.x hE.b dL_law_472 rfl (lv_at hl 0 rfl) ?_
  refine lv_iconst (v := nI 2) hE.x hE.b dL_law_473 rfl ?_
  refine z_iaddN hE dL_law_474 ?_
  refine z_sld hE hB hX hbl hg hL (by omega) dL_law_475 ?_
  refine lv_aload_n hE.x hE.b dL_law_476 rfl (lv_at hl 3 rfl) ?_
  refine lv_iload_n hE.x hE.b dL_law_477 rfl (lv_at hl 0 rfl) ?_
  refine lv_iconst (v := nI 3) hE.x hE.b dL_law_478 rfl ?_
  refine z_iaddN hE dL_law_479 ?_
  refine z_sld hE hB hX hbl hg hL (by omega) dL_law_480 ?_
  refine lv_aload_n hE.x hE.b dL_law_481 rfl (lv_at hl 3 rfl) ?_
  refine lv_iload_n hE.x hE.b dL_law_482 rfl (lv_at hl 0 rfl) ?_
  refine lv_iconst (v := nI 4) hE.x hE.b dL_law_483 rfl ?_
  refine z_iaddN hE dL_law_484 ?_
  refine z_sld hE hB hX hbl hg hL (by omega) dL_law_485 ?_
  refine lv_aload_n hE.x hE.b dL_law_486 rfl (lv_at hl 3 rfl) ?_
  refine lv_iload_n hE.x hE.b dL_law_487 rfl (lv_at hl 0 rfl) ?_
  refine lv_iconst (v := nI 5) hE.x hE.b dL_law_488 rfl ?_
  refine z_iaddN hE dL_law_489 ?_
  refine z_sld hE hB hX hbl hg hL (by omega) dL_law_490 ?_
  refine lv_aload_n hE.x hE.b dL_law_491 rfl (lv_at hl 3 rfl) ?_
  refine lv_iload_n hE.x hE.b dL_law_492 rfl (lv_at hl 0 rfl) ?_
  refine lv_bipush (v := nI 6) hE.x hE.b dL_law_493 rfl ?_
  refine z_iaddN hE dL_law_495 ?_
  refine z_sld hE hB hX hbl hg hL (by omega) dL_law_496 ?_
  refine K_allowed hE hB hS q2_238 ⟨Nat.le_of_ble_eq_true rfl, Nat.le_of_ble_eq_true rfl⟩ ⟨by show cells + 0 ≤ 600000; omega, by show slots + 0 ≤ 7302250; omega⟩ hl.1 (Nat.le_of_ble_eq_true rfl) dL_law_497 (fun W1 H locs hS hB => ?_)
  refine lv_aload_n hE.x hE.b dL_law_500 rfl (lv_at hl 1 rfl) ?_
  refine lv_aload_n hE.x hE.b dL_law_501 rfl (lv_at hl 3 rfl) ?_
  refine lv_iload_n hE.x hE.b dL_law_502 rfl (lv_at hl 0 rfl) ?_
  refine lv_iconst (v := nI 1) hE.x hE.b dL_law_503 rfl ?_
  refine z_iaddN hE dL_law_504 ?_
  refine z_sld hE hB hX hbl hg hL (by omega) dL_law_505 ?_
  refine lv_aload_n hE.x hE.b dL_law_506 rfl (lv_at hl 3 rfl) ?_
  refine lv_iload_n hE.x hE.b dL_law_507 rfl (lv_at hl 0 rfl) ?_
  refine lv_iconst (v := nI 2) hE.x hE.b dL_law_508 rfl ?_
  refine z_iaddN hE dL_law_509 ?_
  refine z_sld hE hB hX hbl hg hL (by omega) dL_law_510 ?_
  refine lv_aload_n hE.x hE.b dL_law_511 rfl (lv_at hl 3 rfl) ?_
  refine lv_iload_n hE.x hE.b dL_law_512 rfl (lv_at hl 0 rfl) ?_
  refine lv_iconst (v := nI 3) hE.x hE.b dL_law_513 rfl ?_
  refine z_iaddN hE dL_law_514 ?_
  refine z_sld hE hB hX hbl hg hL (by omega) dL_law_515 ?_
  refine lv_aload_n hE.x hE.b dL_law_516 rfl (lv_at hl 3 rfl) ?_
  refine lv_iload_n hE.x hE.b dL_law_517 rfl (lv_at hl 0 rfl) ?_
  refine lv_iconst (v := nI 4) hE.x hE.b dL_law_518 rfl ?_
  refine z_iaddN hE dL_law_519 ?_
  refine z_sld hE hB hX hbl hg hL (by omega) dL_law_520 ?_
  refine lv_aload_n hE.x hE.b dL_law_521 rfl (lv_at hl 3 rfl) ?_
  refine lv_iload_n hE.x hE.b dL_law_522 rfl (lv_at hl 0 rfl) ?_
  refine lv_iconst (v := nI 5) hE.x hE.b dL_law_523 rfl ?_
  refine z_iaddN hE dL_law_524 ?_
  refine z_sld hE hB hX hbl hg hL (by omega) dL_law_525 ?_
  refine lv_aload_n hE.x hE.b dL_law_526 rfl (lv_at hl 3 rfl) ?_
  refine lv_iload_n hE.x hE.b dL_law_527 rfl (lv_at hl 0 rfl) ?_
  refine lv_bipush (v := nI 6) hE.x hE.b dL_law_528 rfl ?_
  refine z_iaddN hE dL_law_530 ?_
  refine z_sld hE hB hX hbl hg hL (by omega) dL_law_531 ?_
  refine N_allowed hE hB h16 hk hS q4_166 ⟨Nat.le_of_ble_eq_true rfl, Nat.le_of_ble_eq_true rfl⟩ ⟨by show cells + 0 + 0 ≤ 600000; omega, by show slots + 0 + 0 ≤ 7302250; omega⟩ hl.1 (Nat.le_of_ble_eq_true rfl) dL_law_532 (fun W2 H locs hS hB => ?_)
  refine lv_icmp_eq (tgt := 1295) hE.x hE.b dL_law_535 (by decide) (fun _ => ?_) (fun h => absurd rfl h)
  refine W.widen (k := cells + 151) (n := slots + 757) (by omega) (by omega) ?_
  exact kk _ _ _ hS hB

set_option maxRecDepth 100000 in
theorem law_nearest {p : Program} {l : Launch} {e : Env} {s : State} {m : MethodId} {args : Array Value} {below : List Frame} {meth : Method} {c : Code} {H : Heap} {locs : List Loc} {cells slots : Nat} {Q : State → Prop} {ls : Array Slot} {g : zG} {b L9 : Nat} {xs : Nat → Int32} {x9 o i : Nat} {a : Nat → Nat} {W0 : va_W} (hE : zE g p s m args c code RL 4 meth) (hX : va_X b L9 xs s s.heap) (hbl : b < s.heap.size) (hg : gz g = s.heap.size) (hL : L9 ≤ 3584) (hi : i + 7 ≤ L9) (hl : lv_has ls 4 [(3, .int (nI i)), (2, .ref o), (1, .ref x9), (0, .ref b)]) (hc : cells + 151 ≤ 600000 ∧ slots + 757 ≤ 7302250) (hS : LI g x9 o a W0) (hB : zB g s W0 H locs)
    (kk : ∀ (W1 : va_W) (H1 : Heap) (locs1 : List Loc), LI g x9 o a W1 → zB g s W1 H1 locs1 → W p l e room_1 s m args below meth c H1 locs1 (cells + 151) (slots + 757) Q (F0 m 1295 ls [])) : W p l e room_1 s m args below meth c H locs cells slots Q (F0 m 540 ls []) := by
  obtain ⟨F, L, A, ln, T, C, V, U, h16, hS⟩ := hS
  have hk := cS_ok hS
  refine lv_aload_n hE.x hE.b dL_law_540 rfl (lv_at hl 2 rfl) ?_
  refine lv_aload_n hE.x hE.b dL_law_541 rfl (lv_at hl 3 rfl) ?_
  refine lv_iload_n hE.x hE.b dL_law_542 rfl (lv_at hl 0 rfl) ?_
  refine lv_iconst (v := nI 1) hE.x hE.b dL_law_543 rfl ?_
  refine z_iaddN hE dL_law_544 ?_
  refine z_sld hE hB hX hbl hg hL (by omega) dL_law_545 ?_
  refine lv_aload_n hE.x hE.b dL_law_546 rfl (lv_at hl 3 rfl) ?_
  refine lv_iload_n hE.x hE.b dL_law_547 rfl (lv_at hl 0 rfl) ?_
  refine lv_iconst (v := nI 2) hE.x hE.b dL_law_548 rfl ?_
  refine z_iaddN hE dL_law_549 ?_
  refine z_sld hE hB hX hbl hg hL (by omega) dL_law_550 ?_
  refine lv_aload_n hE.x hE.b dL_law_551 rfl (lv_at hl 3 rfl) ?_
  refine lv_iload_n hE.x hE.b dL_law_552 rfl (lv_at hl 0 rfl) ?_
  refine lv_iconst (v := nI 3) hE.x hE.b dL_law_553 rfl ?_
  refine z_iaddN hE dL_law_554 ?_
  refine z_sld hE hB hX hbl hg hL (by omega) dL_law_555 ?_
  refine lv_aload_n hE.x hE.b dL_law_556 rfl (lv_at hl 3 rfl) ?_
  refine lv_iload_n hE.x hE.b dL_law_557 rfl (lv_at hl 0 rfl) ?_
  refine lv_iconst (v := nI 4) hE.x hE.b dL_law_558 rfl ?_
  refine z_iaddN hE dL_law_559 ?_
  refine z_sld hE hB hX hbl hg hL (by omega) dL_law_560 ?_
  refine lv_aload_n hE.x hE.b dL_law_561 rfl (lv_at hl 3 rfl) ?_
  refine lv_iload_n hE.x hE.b dL_law_562 rfl (lv_at hl 0 rfl) ?_
  refine lv_iconst (v := nI 5) hE.x hE.b dL_law_563 rfl ?_
  refine z_iaddN hE dL_law_564 ?_
  refine z_sld hE hB hX hbl hg hL (by omega) dL_law_565 ?_
  refine lv_aload_n hE.x hE.b dL_law_566 rfl (lv_at hl 3 rfl) ?_
  refine lv_iload_n hE.x hE.b dL_law_567 rfl (lv_at hl 0 rfl) ?_
  refine lv_bipush (v := nI 6) hE.x hE.b dL_law_568 rfl ?_
  refine z_iaddN hE dL_law_570 ?_
  refine z_sld hE hB hX hbl hg hL (by omega) dL_law_571 ?_
  refine K_nearest hE hB hS q3_72 ⟨Nat.le_of_ble_eq_true rfl, Nat.le_of_ble_eq_true rfl⟩ ⟨by show cells + 0 ≤ 600000; omega, by show slots + 0 ≤ 7302250; omega⟩ hl.1 (Nat.le_of_ble_eq_true rfl) dL_law_572 (fun W1 H locs hS hB => ?_)
  refine lv_aload_n hE.x hE.b dL_law_575 rfl (lv_at hl 1 rfl) ?_
  refine lv_aload_n hE.x hE.b dL_law_576 rfl (lv_at hl 3 rfl) ?_
  refine lv_iload_n hE.x hE.b dL_law_577 rfl (lv_at hl 0 rfl) ?_
  refine lv_iconst (v := nI 1) hE.x hE.b dL_law_578 rfl ?_
  refine z_iaddN hE dL_law_579 ?_
  refine z_sld hE hB hX hbl hg hL (by omega) dL_law_580 ?_
  refine lv_aload_n hE.x hE.b dL_law_581 rfl (lv_at hl 3 rfl) ?_
  refine lv_iload_n hE.x hE.b dL_law_582 rfl (lv_at hl 0 rfl) ?_
  refine lv_iconst (v := nI 2) hE.x hE.b dL_law_583 rfl ?_
  refine z_iaddN hE dL_law_584 ?_
  refine z_sld hE hB hX hbl hg hL (by omega) dL_law_585 ?_
  refine lv_aload_n hE.x hE.b dL_law_586 rfl (lv_at hl 3 rfl) ?_
  refine lv_iload_n hE.x hE.b dL_law_587 rfl (lv_at hl 0 rfl) ?_
  refine lv_iconst (v := nI 3) hE.x hE.b dL_law_588 rfl ?_
  refine z_iaddN hE dL_law_589 ?_
  refine z_sld hE hB hX hbl hg hL (by omega) dL_law_590 ?_
  refine lv_aload_n hE.x hE.b dL_law_591 rfl (lv_at hl 3 rfl) ?_
  refine lv_iload_n hE.x hE.b dL_law_592 rfl (lv_at hl 0 rfl) ?_
  refine lv_iconst (v := nI 4) hE.x hE.b dL_law_593 rfl ?_
  refine z_iaddN hE dL_law_594 ?_
  refine z_sld hE hB hX hbl hg hL (by omega) dL_law_595 ?_
  refine lv_aload_n hE.x hE.b dL_law_596 rfl (lv_at hl 3 rfl) ?_
  refine lv_iload_n hE.x hE.b dL_law_597 rfl (lv_at hl 0 rfl) ?_
  refine lv_iconst (v := nI 5) hE.x hE.b dL_law_598 rfl ?_
  refine z_iaddN hE dL_law_599 ?_
  refine z_sld hE hB hX hbl hg hL (by omega) dL_law_600 ?_
  refine lv_aload_n hE.x hE.b dL_law_601 rfl (lv_at hl 3 rfl) ?_
  refine lv_iload_n hE.x hE.b dL_law_602 rfl (lv_at hl 0 rfl) ?_
  refine lv_bipush (v := nI 6) hE.x hE.b dL_law_603 rfl ?_
  refine z_iaddN hE dL_law_605 ?_
  refine z_sld hE hB hX hbl hg hL (by omega) dL_law_606 ?_
  refine N_nearest hE hB h16 hk hS q4_202 ⟨Nat.le_of_ble_eq_true rfl, Nat.le_of_ble_eq_true rfl⟩ ⟨by show cells + 0 + 0 ≤ 600000; omega, by show slots + 0 + 0 ≤ 7302250; omega⟩ hl.1 (Nat.le_of_ble_eq_true rfl) dL_law_607 (fun W2 H locs hS hB => ?_)
  refine lv_icmp_eq (tgt := 1295) hE.x hE.b dL_law_610 (by decide) (fun _ => ?_) (fun h => absurd rfl h)
  refine W.widen (k := cells + 151) (n := slots + 757) (by omega) (by omega) ?_
  exact kk _ _ _ hS hB

set_option maxRecDepth 100000 in
theorem law_contradict {p : Program} {l : Launch} {e : Env} {s : State} {m : MethodId} {args : Array Value} {below : List Frame} {meth : Method} {c : Code} {H : Heap} {locs : List Loc} {cells slots : Nat} {Q : State → Prop} {ls : Array Slot} {g : zG} {b L9 : Nat} {xs : Nat → Int32} {x9 o i : Nat} {a : Nat → Nat} {W0 : va_W} (hE : zE g p s m args c code RL 4 meth) (hX : va_X b L9 xs s s.heap) (hbl : b < s.heap.size) (hg : gz g = s.heap.size) (hL : L9 ≤ 3584) (hi : i + 7 ≤ L9) (hl : lv_has ls 4 [(3, .int (nI i)), (2, .ref o), (1, .ref x9), (0, .ref b)]) (hc : cells + 151 ≤ 600000 ∧ slots + 757 ≤ 7302250) (hS : LI g x9 o a W0) (hB : zB g s W0 H locs)
    (kk : ∀ (W1 : va_W) (H1 : Heap) (locs1 : List Loc), LI g x9 o a W1 → zB g s W1 H1 locs1 → W p l e room_1 s m args below meth c H1 locs1 (cells + 151) (slots + 757) Q (F0 m 1295 ls [])) : W p l e room_1 s m args below meth c H locs cells slots Q (F0 m 615 ls []) := by
  obtain ⟨F, L, A, ln, T, C, V, U, h16, hS⟩ := hS
  have hk := cS_ok hS
  refine lv_aload_n hE.x hE.b dL_law_615 rfl (lv_at hl 2 rfl) ?_
  refine lv_aload_n hE.x hE.b dL_law_616 rfl (lv_at hl 3 rfl) ?_
  refine lv_iload_n hE.x hE.b dL_law_617 rfl (lv_at hl 0 rfl) ?_
  refine lv_iconst (v := nI 1) hE.x hE.b dL_law_618 rfl ?_
  refine z_iaddN hE dL_law_619 ?_
  refine z_sld hE hB hX hbl hg hL (by omega) dL_law_620 ?_
  refine lv_aload_n hE.x hE.b dL_law_621 rfl (lv_at hl 3 rfl) ?_
  refine lv_iload_n hE.x hE.b dL_law_622 rfl (lv_at hl 0 rfl) ?_
  refine lv_iconst (v := nI 2) hE.x hE.b dL_law_623 rfl ?_
  refine z_iaddN hE dL_law_624 ?_
  refine z_sld hE hB hX hbl hg hL (by omega) dL_law_625 ?_
  refine lv_aload_n hE.x hE.b dL_law_626 rfl (lv_at hl 3 rfl) ?_
  refine lv_iload_n hE.x hE.b dL_law_627 rfl (lv_at hl 0 rfl) ?_
  refine lv_iconst (v := nI 3) hE.x hE.b dL_law_628 rfl ?_
  refine z_iaddN hE dL_law_629 ?_
  refine z_sld hE hB hX hbl hg hL (by omega) dL_law_630 ?_
  refine K_contradict hE hB hS q3_81 ⟨Nat.le_of_ble_eq_true rfl, Nat.le_of_ble_eq_true rfl⟩ ⟨by show cells + 0 ≤ 600000; omega, by show slots + 0 ≤ 7302250; omega⟩ hl.1 (Nat.le_of_ble_eq_true rfl) dL_law_631 (fun W1 H locs hS hB => ?_)
  refine lv_aload_n hE.x hE.b dL_law_634 rfl (lv_at hl 1 rfl) ?_
  refine lv_aload_n hE.x hE.b dL_law_635 rfl (lv_at hl 3 rfl) ?_
  refine lv_iload_n hE.x hE.b dL_law_636 rfl (lv_at hl 0 rfl) ?_
  refine lv_iconst (v := nI 1) hE.x hE.b dL_law_637 rfl ?_
  refine z_iaddN hE dL_law_638 ?_
  refine z_sld hE hB hX hbl hg hL (by omega) dL_law_639 ?_
  refine lv_aload_n hE.x hE.b dL_law_640 rfl (lv_at hl 3 rfl) ?_
  refine lv_iload_n hE.x hE.b dL_law_641 rfl (lv_at hl 0 rfl) ?_
  refine lv_iconst (v := nI 2) hE.x hE.b dL_law_642 rfl ?_
  refine z_iaddN hE dL_law_643 ?_
  refine z_sld hE hB hX hbl hg hL (by omega) dL_law_644 ?_
  refine lv_aload_n hE.x hE.b dL_law_645 rfl (lv_at hl 3 rfl) ?_
  refine lv_iload_n hE.x hE.b dL_law_646 rfl (lv_at hl 0 rfl) ?_
  refine lv_iconst (v := nI 3) hE.x hE.b dL_law_647 rfl ?_
  refine z_iaddN hE dL_law_648 ?_
  refine z_sld hE hB hX hbl hg hL (by omega) dL_law_649 ?_
  refine N_contradict hE hB h16 hk hS q4_211 ⟨Nat.le_of_ble_eq_true rfl, Nat.le_of_ble_eq_true rfl⟩ ⟨by show cells + 0 + 0 ≤ 600000; omega, by show slots + 0 + 0 ≤ 7302250; omega⟩ hl.1 (Nat.le_of_ble_eq_true rfl) dL_law_650 (fun W2 H locs hS hB => ?_)
  refine lv_icmp_eq (tgt := 1295) hE.x hE.b dL_law_653 (by decide) (fun _ => ?_) (fun h => absurd rfl h)
  refine W.widen (k := cells + 151) (n := slots + 757) (by omega) (by omega) ?_
  exact kk _ _ _ hS hB

set_option maxRecDepth 100000 in
theorem law_settle {p : Program} {l : Launch} {e : Env} {s : State} {m : MethodId} {args : Array Value} {below : List Frame} {meth : Method} {c : Code} {H : Heap} {locs : List Loc} {cells slots : Nat} {Q : State → Prop} {ls : Array Slot} {g : zG} {b L9 : Nat} {xs : Nat → Int32} {x9 o i : Nat} {a : Nat → Nat} {W0 : va_W} (hE : zE g p s m args c code RL 4 meth) (hX : va_X b L9 xs s s.heap) (hbl : b < s.heap.size) (hg : gz g = s.heap.size) (hL : L9 ≤ 3584) (hi : i + 7 ≤ L9) (hl : lv_has ls 4 [(3, .int (nI i)), (2, .ref o), (1, .ref x9), (0, .ref b)]) (hc : cells + 151 ≤ 600000 ∧ slots + 757 ≤ 7302250) (hS : LI g x9 o a W0) (hB : zB g s W0 H locs)
    (kk : ∀ (W1 : va_W) (H1 : Heap) (locs1 : List Loc), LI g x9 o a W1 → zB g s W1 H1 locs1 → W p l e room_1 s m args below meth c H1 locs1 (cells + 151) (slots + 757) Q (F0 m 1295 ls [])) : W p l e room_1 s m args below meth c H locs cells slots Q (F0 m 658 ls []) := by
  obtain ⟨F, L, A, ln, T, C, V, U, h16, hS⟩ := hS
  have hk := cS_ok hS
  refine lv_aload_n hE.x hE.b dL_law_658 rfl (lv_at hl 2 rfl) ?_
  refine lv_aload_n hE.x hE.b dL_law_659 rfl (lv_at hl 3 rfl) ?_
  refine lv_iload_n hE.x hE.b dL_law_660 rfl (lv_at hl 0 rfl) ?_
  refine lv_iconst (v := nI 1) hE.x hE.b dL_law_661 rfl ?_
  refine z_iaddN hE dL_law_662 ?_
  refine z_sld hE hB hX hbl hg hL (by omega) dL_law_663 ?_
  refine lv_aload_n hE.x hE.b dL_law_664 rfl (lv_at hl 3 rfl) ?_
  refine lv_iload_n hE.x hE.b dL_law_665 rfl (lv_at hl 0 rfl) ?_
  refine lv_iconst (v := nI 2) hE.x hE.b dL_law_666 rfl ?_
  refine z_iaddN hE dL_law_667 ?_
  refine z_sld hE hB hX hbl hg hL (by omega) dL_law_668 ?_
  refine K_settle hE hB hS q3_85 ⟨Nat.le_of_ble_eq_true rfl, Nat.le_of_ble_eq_true rfl⟩ ⟨by show cells + 0 ≤ 600000; omega, by show slots + 0 ≤ 7302250; omega⟩ hl.1 (Nat.le_of_ble_eq_true rfl) dL_law_669 (fun W1 H locs hS hB => ?_)
  refine lv_aload_n hE.x hE.b dL_law_672 rfl (lv_at hl 1 rfl) ?_
  refine lv_aload_n hE.x hE.b dL_law_673 rfl (lv_at hl 3 rfl) ?_
  refine lv_iload_n hE.x hE.b dL_law_674 rfl (lv_at hl 0 rfl) ?_
  refine lv_iconst (v := nI 1) hE.x hE.b dL_law_675 rfl ?_
  refine z_iaddN hE dL_law_676 ?_
  refine z_sld hE hB hX hbl hg hL (by omega) dL_law_677 ?_
  refine lv_aload_n hE.x hE.b dL_law_678 rfl (lv_at hl 3 rfl) ?_
  refine lv_iload_n hE.x hE.b dL_law_679 rfl (lv_at hl 0 rfl) ?_
  refine lv_iconst (v := nI 2) hE.x hE.b dL_law_680 rfl ?_
  refine z_iaddN hE dL_law_681 ?_
  refine z_sld hE hB hX hbl hg hL (by omega) dL_law_682 ?_
  refine N_settle hE hB h16 hk hS q4_215 ⟨Nat.le_of_ble_eq_true rfl, Nat.le_of_ble_eq_true rfl⟩ ⟨by show cells + 0 + 0 ≤ 600000; omega, by show slots + 0 + 0 ≤ 7302250; omega⟩ hl.1 (Nat.le_of_ble_eq_true rfl) dL_law_683 (fun W2 H locs hS hB => ?_)
  refine lv_icmp_eq (tgt := 1295) hE.x hE.b dL_law_686 (by decide) (fun _ => ?_) (fun h => absurd rfl h)
  refine W.widen (k := cells + 151) (n := slots + 757) (by omega) (by omega) ?_
  exact kk _ _ _ hS hB

set_option maxRecDepth 100000 in
theorem law_reads {p : Program} {l : Launch} {e : Env} {s : State} {m : MethodId} {args : Array Value} {below : List Frame} {meth : Method} {c : Code} {H : Heap} {locs : List Loc} {cells slots : Nat} {Q : State → Prop} {ls : Array Slot} {g : zG} {b L9 : Nat} {xs : Nat → Int32} {x9 o i : Nat} {a : Nat → Nat} {W0 : va_W} (hE : zE g p s m args c code RL 4 meth) (hX : va_X b L9 xs s s.heap) (hbl : b < s.heap.size) (hg : gz g = s.heap.size) (hL : L9 ≤ 3584) (hi : i + 7 ≤ L9) (hl : lv_has ls 4 [(3, .int (nI i)), (2, .ref o), (1, .ref x9), (0, .ref b)]) (hc : cells + 151 ≤ 600000 ∧ slots + 757 ≤ 7302250) (hS : LI g x9 o a W0) (hB : zB g s W0 H locs)
    (kk : ∀ (W1 : va_W) (H1 : Heap) (locs1 : List Loc), LI g x9 o a W1 → zB g s W1 H1 locs1 → W p l e room_1 s m args below meth c H1 locs1 (cells + 151) (slots + 757) Q (F0 m 1295 ls [])) : W p l e room_1 s m args below meth c H locs cells slots Q (F0 m 691 ls []) := by
  obtain ⟨F, L, A, ln, T, C, V, U, h16, hS⟩ := hS
  have hk := cS_ok hS
  refine lv_aload_n hE.x hE.b dL_law_691 rfl (lv_at hl 2 rfl) ?_
  refine lv_aload_n hE.x hE.b dL_law_692 rfl (lv_at hl 3 rfl) ?_
  refine lv_iload_n hE.x hE.b dL_law_693 rfl (lv_at hl 0 rfl) ?_
  refine lv_iconst (v := nI 1) hE.x hE.b dL_law_694 rfl ?_
  refine z_iaddN hE dL_law_695 ?_
  refine z_sld hE hB hX hbl hg hL (by omega) dL_law_696 ?_
  refine lv_aload_n hE.x hE.b dL_law_697 rfl (lv_at hl 3 rfl) ?_
  refine lv_iload_n hE.x hE.b dL_law_698 rfl (lv_at hl 0 rfl) ?_
  refine lv_iconst (v := nI 2) hE.x hE.b dL_law_699 rfl ?_
  refine z_iaddN hE dL_law_700 ?_
  refine z_sld hE hB hX hbl hg hL (by omega) dL_law_701 ?_
  refine lv_aload_n hE.x hE.b dL_law_702 rfl (lv_at hl 3 rfl) ?_
  refine lv_iload_n hE.x hE.b dL_law_703 rfl (lv_at hl 0 rfl) ?_
  refine lv_iconst (v := nI 3) hE.x hE.b dL_law_704 rfl ?_
  refine z_iaddN hE dL_law_705 ?_
  refine z_sld hE hB hX hbl hg hL (by omega) dL_law_706 ?_
  refine lv_aload_n hE.x hE.b dL_law_707 rfl (lv_at hl 3 rfl) ?_
  refine lv_iload_n hE.x hE.b dL_law_708 rfl (lv_at hl 0 rfl) ?_
  refine lv_iconst (v := nI 4) hE.x hE.b dL_law_709 rfl ?_
  refine z_iaddN hE dL_law_710 ?_
  refine z_sld hE hB hX hbl hg hL (by omega) dL_law_711 ?_
  refine lv_aload_n hE.x hE.b dL_law_712 rfl (lv_at hl 3 rfl) ?_
  refine lv_iload_n hE.x hE.b dL_law_713 rfl (lv_at hl 0 rfl) ?_
  refine lv_iconst (v := nI 5) hE.x hE.b dL_law_714 rfl ?_
  refine z_iaddN hE dL_law_715 ?_
  refine z_sld hE hB hX hbl hg hL (by omega) dL_law_716 ?_
  refine K_reads hE hB hS q3_102 ⟨Nat.le_of_ble_eq_true rfl, Nat.le_of_ble_eq_true rfl⟩ ⟨by show cells + 0 ≤ 600000; omega, by show slots + 0 ≤ 7302250; omega⟩ hl.1 (Nat.le_of_ble_eq_true rfl) dL_law_717 (fun W1 H locs hS hB => ?_)
  refine lv_aload_n hE.x hE.b dL_law_720 rfl (lv_at hl 1 rfl) ?_
  refine lv_aload_n hE.x hE.b dL_law_721 rfl (lv_at hl 3 rfl) ?_
  refine lv_iload_n hE.x hE.b dL_law_722 rfl (lv_at hl 0 rfl) ?_
  refine lv_iconst (v := nI 1) hE.x hE.b dL_law_723 rfl ?_
  refine z_iaddN hE dL_law_724 ?_
  refine z_sld hE hB hX hbl hg hL (by omega) dL_law_725 ?_
  refine lv_aload_n hE.x hE.b dL_law_726 rfl (lv_at hl 3 rfl) ?_
  refine lv_iload_n hE.x hE.b dL_law_727 rfl (lv_at hl 0 rfl) ?_
  refine lv_iconst (v := nI 2) hE.x hE.b dL_law_728 rfl ?_
  refine z_iaddN hE dL_law_729 ?_
  refine z_sld hE hB hX hbl hg hL (by omega) dL_law_730 ?_
  refine lv_aload_n hE.x hE.b dL_law_731 rfl (lv_at hl 3 rfl) ?_
  refine lv_iload_n hE.x hE.b dL_law_732 rfl (lv_at hl 0 rfl) ?_
  refine lv_iconst (v := nI 3) hE.x hE.b dL_law_733 rfl ?_
  refine z_iaddN hE dL_law_734 ?_
  refine z_sld hE hB hX hbl hg hL (by omega) dL_law_735 ?_
  refine lv_aload_n hE.x hE.b dL_law_736 rfl (lv_at hl 3 rfl) ?_
  refine lv_iload_n hE.x hE.b dL_law_737 rfl (lv_at hl 0 rfl) ?_
  refine lv_iconst (v := nI 4) hE.x hE.b dL_law_738 rfl ?_
  refine z_iaddN hE dL_law_739 ?_
  refine z_sld hE hB hX hbl hg hL (by omega) dL_law_740 ?_
  refine lv_aload_n hE.x hE.b dL_law_741 rfl (lv_at hl 3 rfl) ?_
  refine lv_iload_n hE.x hE.b dL_law_742 rfl (lv_at hl 0 rfl) ?_
  refine lv_iconst (v := nI 5) hE.x hE.b dL_law_743 rfl ?_
  refine z_iaddN hE dL_law_744 ?_
  refine z_sld hE hB hX hbl hg hL (by omega) dL_law_745 ?_
  refine N_reads hE hB h16 hk hS q4_230 ⟨Nat.le_of_ble_eq_true rfl, Nat.le_of_ble_eq_true rfl⟩ ⟨by show cells + 0 + 0 ≤ 600000; omega, by show slots + 0 + 0 ≤ 7302250; omega⟩ hl.1 (Nat.le_of_ble_eq_true rfl) dL_law_746 (fun W2 H locs hS hB => ?_)
  refine lv_icmp_eq (tgt := 1295) hE.x hE.b dL_law_749 (by decide) (fun _ => ?_) (fun h => absurd rfl h)
  refine W.widen (k := cells + 151) (n := slots + 757) (by omega) (by omega) ?_
  exact kk _ _ _ hS hB

set_option maxRecDepth 100000 in
theorem law_patience {p : Program} {l : Launch} {e : Env} {s : State} {m : MethodId} {args : Array Value} {below : List Frame} {meth : Method} {c : Code} {H : Heap} {locs : List Loc} {cells slots : Nat} {Q : State → Prop} {ls : Array Slot} {g : zG} {b L9 : Nat} {xs : Nat → Int32} {x9 o i : Nat} {a : Nat → Nat} {W0 : va_W} (hE : zE g p s m args c code RL 4 meth) (hX : va_X b L9 xs s s.heap) (hbl : b < s.heap.size) (hg : gz g = s.heap.size) (hL : L9 ≤ 3584) (hi : i + 7 ≤ L9) (hl : lv_has ls 4 [(3, .int (nI i)), (2, .ref o), (1, .ref x9), (0, .ref b)]) (hc : cells + 151 ≤ 600000 ∧ slots + 757 ≤ 7302250) (hS : LI g x9 o a W0) (hB : zB g s W0 H locs)
    (kk : ∀ (W1 : va_W) (H1 : Heap) (locs1 : List Loc), LI g x9 o a W1 → zB g s W1 H1 locs1 → W p l e room_1 s m args below meth c H1 locs1 (cells + 151) (slots + 757) Q (F0 m 1295 ls [])) : W p l e room_1 s m args below meth c H locs cells slots Q (F0 m 754 ls []) := by
  obtain ⟨F, L, A, ln, T, C, V, U, h16, hS⟩ := hS
  have hk := cS_ok hS
  refine lv_aload_n hE.x hE.b dL_law_754 rfl (lv_at hl 2 rfl) ?_
  refine lv_aload_n hE.x hE.b dL_law_755 rfl (lv_at hl 3 rfl) ?_
  refine lv_iload_n hE.x hE.b dL_law_756 rfl (lv_at hl 0 rfl) ?_
  refine lv_iconst (v := nI 1) hE.x hE.b dL_law_757 rfl ?_
  refine z_iaddN hE dL_law_758 ?_
  refine z_sld hE hB hX hbl hg hL (by omega) dL_law_759 ?_
  refine lv_aload_n hE.x hE.b dL_law_760 rfl (lv_at hl 3 rfl) ?_
  refine lv_iload_n hE.x hE.b dL_law_761 rfl (lv_at hl 0 rfl) ?_
  refine lv_iconst (v := nI 2) hE.x hE.b dL_law_762 rfl ?_
  refine z_iaddN hE dL_law_763 ?_
  refine z_sld hE hB hX hbl hg hL (by omega) dL_law_764 ?_
  refine lv_aload_n hE.x hE.b dL_law_765 rfl (lv_at hl 3 rfl) ?_
  refine lv_iload_n hE.x hE.b dL_law_766 rfl (lv_at hl 0 rfl) ?_
  refine lv_iconst (v := nI 3) hE.x hE.b dL_law_767 rfl ?_
  refine z_iaddN hE dL_law_768 ?_
  refine z_sld hE hB hX hbl hg hL (by omega) dL_law_769 ?_
  refine lv_aload_n hE.x hE.b dL_law_770 rfl (lv_at hl 3 rfl) ?_
  refine lv_iload_n hE.x hE.b dL_law_771 rfl (lv_at hl 0 rfl) ?_
  refine lv_iconst (v := nI 4) hE.x hE.b dL_law_772 rfl ?_
  refine z_iaddN hE dL_law_773 ?_
  refine z_sld hE hB hX hbl hg hL (by omega) dL_law_774 ?_
  refine K_patience hE hB hS q3_108 ⟨Nat.le_of_ble_eq_true rfl, Nat.le_of_ble_eq_true rfl⟩ ⟨by show cells + 0 ≤ 600000; omega, by show slots + 0 ≤ 7302250; omega⟩ hl.1 (Nat.le_of_ble_eq_true rfl) dL_law_775 (fun W1 H locs hS hB => ?_)
  refine lv_aload_n hE.x hE.b dL_law_778 rfl (lv_at hl 1 rfl) ?_
  refine lv_aload_n hE.x hE.b dL_law_779 rfl (lv_at hl 3 rfl) ?_
  refine lv_iload_n hE.x hE.b dL_law_780 rfl (lv_at hl 0 rfl) ?_
  refine lv_iconst (v := nI 1) hE.x hE.b dL_law_781 rfl ?_
  refine z_iaddN hE dL_law_782 ?_
  refine z_sld hE hB hX hbl hg hL (by omega) dL_law_783 ?_
  refine lv_aload_n hE.x hE.b dL_law_784 rfl (lv_at hl 3 rfl) ?_
  refine lv_iload_n hE.x hE.b dL_law_785 rfl (lv_at hl 0 rfl) ?_
  refine lv_iconst (v := nI 2) hE.x hE.b dL_law_786 rfl ?_
  refine z_iaddN hE dL_law_787 ?_
  refine z_sld hE hB hX hbl hg hL (by omega) dL_law_788 ?_
  refine lv_aload_n hE.x hE.b dL_law_789 rfl (lv_at hl 3 rfl) ?_
  refine lv_iload_n hE.x hE.b dL_law_790 rfl (lv_at hl 0 rfl) ?_
  refine lv_iconst (v := nI 3) hE.x hE.b dL_law_791 rfl ?_
  refine z_iaddN hE dL_law_792 ?_
  refine z_sld hE hB hX hbl hg hL (by omega) dL_law_793 ?_
  refine lv_aload_n hE.x hE.b dL_law_794 rfl (lv_at hl 3 rfl) ?_
  refine lv_iload_n hE.x hE.b dL_law_795 rfl (lv_at hl 0 rfl) ?_
  refine lv_iconst (v := nI 4) hE.x hE.b dL_law_796 rfl ?_
  refine z_iaddN hE dL_law_797 ?_
  refine z_sld hE hB hX hbl hg hL (by omega) dL_law_798 ?_
  refine N_patience hE hB h16 hk hS q4_234 ⟨Nat.le_of_ble_eq_true rfl, Nat.le_of_ble_eq_true rfl⟩ ⟨by show cells + 0 + 0 ≤ 600000; omega, by show slots + 0 + 0 ≤ 7302250; omega⟩ hl.1 (Nat.le_of_ble_eq_true rfl) dL_law_799 (fun W2 H locs hS hB => ?_)
  refine lv_icmp_eq (tgt := 1295) hE.x hE.b dL_law_802 (by decide) (fun _ => ?_) (fun h => absurd rfl h)
  refine W.widen (k := cells + 151) (n := slots + 757) (by omega) (by omega) ?_
  exact kk _ _ _ hS hB

set_option maxRecDepth 100000 in
theorem law_concede {p : Program} {l : Launch} {e : Env} {s : State} {m : MethodId} {args : Array Value} {below : List Frame} {meth : Method} {c : Code} {H : Heap} {locs : List Loc} {cells slots : Nat} {Q : State → Prop} {ls : Array Slot} {g : zG} {b L9 : Nat} {xs : Nat → Int32} {x9 o i : Nat} {a : Nat → Nat} {W0 : va_W} (hE : zE g p s m args c code RL 4 meth) (hX : va_X b L9 xs s s.heap) (hbl : b < s.heap.size) (hg : gz g = s.heap.size) (hL : L9 ≤ 3584) (hi : i + 7 ≤ L9) (hl : lv_has ls 4 [(3, .int (nI i)), (2, .ref o), (1, .ref x9), (0, .ref b)]) (hc : cells + 151 ≤ 600000 ∧ slots + 757 ≤ 7302250) (hS : LI g x9 o a W0) (hB : zB g s W0 H locs)
    (kk : ∀ (W1 : va_W) (H1 : Heap) (locs1 : List Loc), LI g x9 o a W1 → zB g s W1 H1 locs1 → W p l e room_1 s m args below meth c H1 locs1 (cells + 151) (slots + 757) Q (F0 m 1295 ls [])) : W p l e room_1 s m args below meth c H locs cells slots Q (F0 m 807 ls []) := by
  obtain ⟨F, L, A, ln, T, C, V, U, h16, hS⟩ := hS
  have hk := cS_ok hS
  refine lv_aload_n hE.x hE.b dL_law_807 rfl (lv_at hl 2 rfl) ?_
  refine lv_aload_n hE.x hE.b dL_law_808 rfl (lv_at hl 3 rfl) ?_
  refine lv_iload_n hE.x hE.b dL_law_809 rfl (lv_at hl 0 rfl) ?_
  refine lv_iconst (v := nI 1) hE.x hE.b dL_law_810 rfl ?_
  refine z_iaddN hE dL_law_811 ?_
  refine z_sld hE hB hX hbl hg hL (by omega) dL_law_812 ?_
  refine lv_aload_n hE.x hE.b dL_law_813 rfl (lv_at hl 3 rfl) ?_
  refine lv_iload_n hE.x hE.b dL_law_814 rfl (lv_at hl 0 rfl) ?_
  refine lv_iconst (v := nI 2) hE.x hE.b dL_law_815 rfl ?_
  refine z_iaddN hE dL_law_816 ?_
  refine z_sld hE hB hX hbl hg hL (by omega) dL_law_817 ?_
  refine lv_aload_n hE.x hE.b dL_law_818 rfl (lv_at hl 3 rfl) ?_
  refine lv_iload_n hE.x hE.b dL_law_819 rfl (lv_at hl 0 rfl) ?_
  refine lv_iconst (v := nI 3) hE.x hE.b dL_law_820 rfl ?_
  refine z_iaddN hE dL_law_821 ?_
  refine z_sld hE hB hX hbl hg hL (by omega) dL_law_822 ?_
  refine lv_aload_n hE.x hE.b dL_law_823 rfl (lv_at hl 3 rfl) ?_
  refine lv_iload_n hE.x hE.b dL_law_824 rfl (lv_at hl 0 rfl) ?_
  refine lv_iconst (v := nI 4) hE.x hE.b dL_law_825 rfl ?_
  refine z_iaddN hE dL_law_826 ?_
  refine z_sld hE hB hX hbl hg hL (by omega) dL_law_827 ?_
  refine K_concede hE hB hS q3_131 ⟨Nat.le_of_ble_eq_true rfl, Nat.le_of_ble_eq_true rfl⟩ ⟨by show cells + 0 ≤ 600000; omega, by show slots + 0 ≤ 7302250; omega⟩ hl.1 (Nat.le_of_ble_eq_true rfl) dL_law_828 (fun W1 H locs hS hB => ?_)
  refine lv_aload_n hE.x hE.b dL_law_831 rfl (lv_at hl 1 rfl) ?_
  refine lv_aload_n hE.x hE.b dL_law_832 rfl (lv_at hl 3 rfl) ?_
  refine lv_iload_n hE.x hE.b dL_law_833 rfl (lv_at hl 0 rfl) ?_
  refine lv_iconst (v := nI 1) hE.x hE.b dL_law_834 rfl ?_
  refine z_iaddN hE dL_law_835 ?_
  refine z_sld hE hB hX hbl hg hL (by omega) dL_law_836 ?_
  refine lv_aload_n hE.x hE.b dL_law_837 rfl (lv_at hl 3 rfl) ?_
  refine lv_iload_n hE.x hE.b dL_law_838 rfl (lv_at hl 0 rfl) ?_
  refine lv_iconst (v := nI 2) hE.x hE.b dL_law_839 rfl ?_
  refine z_iaddN hE dL_law_840 ?_
  refine z_sld hE hB hX hbl hg hL (by omega) dL_law_841 ?_
  refine lv_aload_n hE.x hE.b dL_law_842 rfl (lv_at hl 3 rfl) ?_
  refine lv_iload_n hE.x hE.b dL_law_843 rfl (lv_at hl 0 rfl) ?_
  refine lv_iconst (v := nI 3) hE.x hE.b dL_law_844 rfl ?_
  refine z_iaddN hE dL_law_845 ?_
  refine z_sld hE hB hX hbl hg hL (by omega) dL_law_846 ?_
  refine lv_aload_n hE.x hE.b dL_law_847 rfl (lv_at hl 3 rfl) ?_
  refine lv_iload_n hE.x hE.b dL_law_848 rfl (lv_at hl 0 rfl) ?_
  refine lv_iconst (v := nI 4) hE.x hE.b dL_law_849 rfl ?_
  refine z_iaddN hE dL_law_850 ?_
  refine z_sld hE hB hX hbl hg hL (by omega) dL_law_851 ?_
  refine N_concede hE hB h16 hk hS q5_7 ⟨Nat.le_of_ble_eq_true rfl, Nat.le_of_ble_eq_true rfl⟩ ⟨by show cells + 0 + 0 ≤ 600000; omega, by show slots + 0 + 0 ≤ 7302250; omega⟩ hl.1 (Nat.le_of_ble_eq_true rfl) dL_law_852 (fun W2 H locs hS hB => ?_)
  refine lv_icmp_eq (tgt := 1295) hE.x hE.b dL_law_855 (by decide) (fun _ => ?_) (fun h => absurd rfl h)
  refine W.widen (k := cells + 151) (n := slots + 757) (by omega) (by omega) ?_
  exact kk _ _ _ hS hB

set_option maxRecDepth 100000 in
theorem law_presses {p : Program} {l : Launch} {e : Env} {s : State} {m : MethodId} {args : Array Value} {below : List Frame} {meth : Method} {c : Code} {H : Heap} {locs : List Loc} {cells slots : Nat} {Q : State → Prop} {ls : Array Slot} {g : zG} {b L9 : Nat} {xs : Nat → Int32} {x9 o i : Nat} {a : Nat → Nat} {W0 : va_W} (hE : zE g p s m args c code RL 4 meth) (hX : va_X b L9 xs s s.heap) (hbl : b < s.heap.size) (hg : gz g = s.heap.size) (hL : L9 ≤ 3584) (hi : i + 7 ≤ L9) (hl : lv_has ls 4 [(3, .int (nI i)), (2, .ref o), (1, .ref x9), (0, .ref b)]) (hc : cells + 151 ≤ 600000 ∧ slots + 757 ≤ 7302250) (hS : LI g x9 o a W0) (hB : zB g s W0 H locs)
    (kk : ∀ (W1 : va_W) (H1 : Heap) (locs1 : List Loc), LI g x9 o a W1 → zB g s W1 H1 locs1 → W p l e room_1 s m args below meth c H1 locs1 (cells + 151) (slots + 757) Q (F0 m 1295 ls [])) : W p l e room_1 s m args below meth c H locs cells slots Q (F0 m 860 ls []) := by
  obtain ⟨F, L, A, ln, T, C, V, U, h16, hS⟩ := hS
  have hk := cS_ok hS
  refine lv_aload_n hE.x hE.b dL_law_860 rfl (lv_at hl 2 rfl) ?_
  refine lv_aload_n hE.x hE.b dL_law_861 rfl (lv_at hl 3 rfl) ?_
  refine lv_iload_n hE.x hE.b dL_law_862 rfl (lv_at hl 0 rfl) ?_
  refine lv_iconst (v := nI 1) hE.x hE.b dL_law_863 rfl ?_
  refine z_iaddN hE dL_law_864 ?_
  refine z_sld hE hB hX hbl hg hL (by omega) dL_law_865 ?_
  refine lv_aload_n hE.x hE.b dL_law_866 rfl (lv_at hl 3 rfl) ?_
  refine lv_iload_n hE.x hE.b dL_law_867 rfl (lv_at hl 0 rfl) ?_
  refine lv_iconst (v := nI 2) hE.x hE.b dL_law_868 rfl ?_
  refine z_iaddN hE dL_law_869 ?_
  refine z_sld hE hB hX hbl hg hL (by omega) dL_law_870 ?_
  refine K_presses hE hB hS q3_135 ⟨Nat.le_of_ble_eq_true rfl, Nat.le_of_ble_eq_true rfl⟩ ⟨by show cells + 0 ≤ 600000; omega, by show slots + 0 ≤ 7302250; omega⟩ hl.1 (Nat.le_of_ble_eq_true rfl) dL_law_871 (fun W1 H locs hS hB => ?_)
  refine lv_aload_n hE.x hE.b dL_law_874 rfl (lv_at hl 1 rfl) ?_
  refine lv_aload_n hE.x hE.b dL_law_875 rfl (lv_at hl 3 rfl) ?_
  refine lv_iload_n hE.x hE.b dL_law_876 rfl (lv_at hl 0 rfl) ?_
  refine lv_iconst (v := nI 1) hE.x hE.b dL_law_877 rfl ?_
  refine z_iaddN hE dL_law_878 ?_
  refine z_sld hE hB hX hbl hg hL (by omega) dL_law_879 ?_
  refine lv_aload_n hE.x hE.b dL_law_880 rfl (lv_at hl 3 rfl) ?_
  refine lv_iload_n hE.x hE.b dL_law_881 rfl (lv_at hl 0 rfl) ?_
  refine lv_iconst (v := nI 2) hE.x hE.b dL_law_882 rfl ?_
  refine z_iaddN hE dL_law_883 ?_
  refine z_sld hE hB hX hbl hg hL (by omega) dL_law_884 ?_
  refine N_presses hE hB h16 hk hS q5_14 ⟨Nat.le_of_ble_eq_true rfl, Nat.le_of_ble_eq_true rfl⟩ ⟨by show cells + 0 + 0 ≤ 600000; omega, by show slots + 0 + 0 ≤ 7302250; omega⟩ hl.1 (Nat.le_of_ble_eq_true rfl) dL_law_885 (fun W2 H locs hS hB => ?_)
  refine lv_icmp_eq (tgt := 1295) hE.x hE.b dL_law_888 (by decide) (fun _ => ?_) (fun h => absurd rfl h)
  refine W.widen (k := cells + 151) (n := slots + 757) (by omega) (by omega) ?_
  exact kk _ _ _ hS hB

set_option maxRecDepth 100000 in
theorem law_leave {p : Program} {l : Launch} {e : Env} {s : State} {m : MethodId} {args : Array Value} {below : List Frame} {meth : Method} {c : Code} {H : Heap} {locs : List Loc} {cells slots : Nat} {Q : State → Prop} {ls : Array Slot} {g : zG} {b L9 : Nat} {xs : Nat → Int32} {x9 o i : Nat} {a : Nat → Nat} {W0 : va_W} (hE : zE g p s m args c code RL 4 meth) (hX : va_X b L9 xs s s.heap) (hbl : b < s.heap.size) (hg : gz g = s.heap.size) (hL : L9 ≤ 3584) (hi : i + 7 ≤ L9) (hl : lv_has ls 4 [(3, .int (nI i)), (2, .ref o), (1, .ref x9), (0, .ref b)]) (hc : cells + 151 ≤ 600000 ∧ slots + 757 ≤ 7302250) (hS : LI g x9 o a W0) (hB : zB g s W0 H locs)
    (kk : ∀ (W1 : va_W) (H1 : Heap) (locs1 : List Loc), LI g x9 o a W1 → zB g s W1 H1 locs1 → W p l e room_1 s m args below meth c H1 locs1 (cells + 151) (slots + 757) Q (F0 m 1295 ls [])) : W p l e room_1 s m args below meth c H locs cells slots Q (F0 m 893 ls []) := by
  obtain ⟨F, L, A, ln, T, C, V, U, h16, hS⟩ := hS
  have hk := cS_ok hS
  refine lv_aload_n hE.x hE.b dL_law_893 rfl (lv_at hl 2 rfl) ?_
  refine lv_aload_n hE.x hE.b dL_law_894 rfl (lv_at hl 3 rfl) ?_
  refine lv_iload_n hE.x hE.b dL_law_895 rfl (lv_at hl 0 rfl) ?_
  refine lv_iconst (v := nI 1) hE.x hE.b dL_law_896 rfl ?_
  refine z_iaddN hE dL_law_897 ?_
  refine z_sld hE hB hX hbl hg hL (by omega) dL_law_898 ?_
  refine lv_aload_n hE.x hE.b dL_law_899 rfl (lv_at hl 3 rfl) ?_
  refine lv_iload_n hE.x hE.b dL_law_900 rfl (lv_at hl 0 rfl) ?_
  refine lv_iconst (v := nI 2) hE.x hE.b dL_law_901 rfl ?_
  refine z_iaddN hE dL_law_902 ?_
  refine z_sld hE hB hX hbl hg hL (by omega) dL_law_903 ?_
  refine lv_aload_n hE.x hE.b dL_law_904 rfl (lv_at hl 3 rfl) ?_
  refine lv_iload_n hE.x hE.b dL_law_905 rfl (lv_at hl 0 rfl) ?_
  refine lv_iconst (v := nI 3) hE.x hE.b dL_law_906 rfl ?_
  refine z_iaddN hE dL_law_907 ?_
  refine z_sld hE hB hX hbl hg hL (by omega) dL_law_908 ?_
  refine lv_aload_n hE.x hE.b dL_law_909 rfl (lv_at hl 3 rfl) ?_
  refine lv_iload_n hE.x hE.b dL_law_910 rfl (lv_at hl 0 rfl) ?_
  refine lv_iconst (v := nI 4) hE.x hE.b dL_law_911 rfl ?_
  refine z_iaddN hE dL_law_912 ?_
  refine z_sld hE hB hX hbl hg hL (by omega) dL_law_913 ?_
  refine lv_aload_n hE.x hE.b dL_law_914 rfl (lv_at hl 3 rfl) ?_
  refine lv_iload_n hE.x hE.b dL_law_915 rfl (lv_at hl 0 rfl) ?_
  refine lv_iconst (v := nI 5) hE.x hE.b dL_law_916 rfl ?_
  refine z_iaddN hE dL_law_917 ?_
  refine z_sld hE hB hX hbl hg hL (by omega) dL_law_918 ?_
  refine K_leave hE hB hS q3_143 ⟨Nat.le_of_ble_eq_true rfl, Nat.le_of_ble_eq_true rfl⟩ ⟨by show cells + 0 ≤ 600000; omega, by show slots + 0 ≤ 7302250; omega⟩ hl.1 (Nat.le_of_ble_eq_true rfl) dL_law_919 (fun W1 H locs hS hB => ?_)
  refine lv_aload_n hE.x hE.b dL_law_922 rfl (lv_at hl 1 rfl) ?_
  refine lv_aload_n hE.x hE.b dL_law_923 rfl (lv_at hl 3 rfl) ?_
  refine lv_iload_n hE.x hE.b dL_law_924 rfl (lv_at hl 0 rfl) ?_
  refine lv_iconst (v := nI 1) hE.x hE.b dL_law_925 rfl ?_
  refine z_iaddN hE dL_law_926 ?_
  refine z_sld hE hB hX hbl hg hL (by omega) dL_law_927 ?_
  refine lv_aload_n hE.x hE.b dL_law_928 rfl (lv_at hl 3 rfl) ?_
  refine lv_iload_n hE.x hE.b dL_law_929 rfl (lv_at hl 0 rfl) ?_
  refine lv_iconst (v := nI 2) hE.x hE.b dL_law_930 rfl ?_
  refine z_iaddN hE dL_law_931 ?_
  refine z_sld hE hB hX hbl hg hL (by omega) dL_law_932 ?_
  refine lv_aload_n hE.x hE.b dL_law_933 rfl (lv_at hl 3 rfl) ?_
  refine lv_iload_n hE.x hE.b dL_law_934 rfl (lv_at hl 0 rfl) ?_
  refine lv_iconst (v := nI 3) hE.x hE.b dL_law_935 rfl ?_
  refine z_iaddN hE dL_law_936 ?_
  refine z_sld hE hB hX hbl hg hL (by omega) dL_law_937 ?_
  refine lv_aload_n hE.x hE.b dL_law_938 rfl (lv_at hl 3 rfl) ?_
  refine lv_iload_n hE.x hE.b dL_law_939 rfl (lv_at hl 0 rfl) ?_
  refine lv_iconst (v := nI 4) hE.x hE.b dL_law_940 rfl ?_
  refine z_iaddN hE dL_law_941 ?_
  refine z_sld hE hB hX hbl hg hL (by omega) dL_law_942 ?_
  refine lv_aload_n hE.x hE.b dL_law_943 rfl (lv_at hl 3 rfl) ?_
  refine lv_iload_n hE.x hE.b dL_law_944 rfl (lv_at hl 0 rfl) ?_
  refine lv_iconst (v := nI 5) hE.x hE.b dL_law_945 rfl ?_
  refine z_iaddN hE dL_law_946 ?_
  refine z_sld hE hB hX hbl hg hL (by omega) dL_law_947 ?_
  refine N_leave hE hB h16 hk hS q5_18 ⟨Nat.le_of_ble_eq_true rfl, Nat.le_of_ble_eq_true rfl⟩ ⟨by show cells + 0 + 0 ≤ 600000; omega, by show slots + 0 + 0 ≤ 7302250; omega⟩ hl.1 (Nat.le_of_ble_eq_true rfl) dL_law_948 (fun W2 H locs hS hB => ?_)
  refine lv_icmp_eq (tgt := 1295) hE.x hE.b dL_law_951 (by decide) (fun _ => ?_) (fun h => absurd rfl h)
  refine W.widen (k := cells + 151) (n := slots + 757) (by omega) (by omega) ?_
  exact kk _ _ _ hS hB

set_option maxRecDepth 100000 in
theorem law_burn {p : Program} {l : Launch} {e : Env} {s : State} {m : MethodId} {args : Array Value} {below : List Frame} {meth : Method} {c : Code} {H : Heap} {locs : List Loc} {cells slots : Nat} {Q : State → Prop} {ls : Array Slot} {g : zG} {b L9 : Nat} {xs : Nat → Int32} {x9 o i : Nat} {a : Nat → Nat} {W0 : va_W} (hE : zE g p s m args c code RL 4 meth) (hX : va_X b L9 xs s s.heap) (hbl : b < s.heap.size) (hg : gz g = s.heap.size) (hL : L9 ≤ 3584) (hi : i + 7 ≤ L9) (hl : lv_has ls 4 [(3, .int (nI i)), (2, .ref o), (1, .ref x9), (0, .ref b)]) (hc : cells + 151 ≤ 600000 ∧ slots + 757 ≤ 7302250) (hS : LI g x9 o a W0) (hB : zB g s W0 H locs)
    (kk : ∀ (W1 : va_W) (H1 : Heap) (locs1 : List Loc), LI g x9 o a W1 → zB g s W1 H1 locs1 → W p l e room_1 s m args below meth c H1 locs1 (cells + 151) (slots + 757) Q (F0 m 1295 ls [])) : W p l e room_1 s m args below meth c H locs cells slots Q (F0 m 956 ls []) := by
  obtain ⟨F, L, A, ln, T, C, V, U, h16, hS⟩ := hS
  have hk := cS_ok hS
  refine lv_aload_n hE.x hE.b dL_law_956 rfl (lv_at hl 2 rfl) ?_
  refine K_burn hE hB hS q3_151 ⟨Nat.le_of_ble_eq_true rfl, Nat.le_of_ble_eq_true rfl⟩ ⟨by show cells + 0 ≤ 600000; omega, by show slots + 0 ≤ 7302250; omega⟩ hl.1 (Nat.le_of_ble_eq_true rfl) dL_law_957 (fun W1 H locs hS hB => ?_)
  refine lv_aload_n hE.x hE.b dL_law_960 rfl (lv_at hl 1 rfl) ?_
  refine N_burn hE hB h16 hk hS q5_22 ⟨Nat.le_of_ble_eq_true rfl, Nat.le_of_ble_eq_true rfl⟩ ⟨by show cells + 0 + 0 ≤ 600000; omega, by show slots + 0 + 0 ≤ 7302250; omega⟩ hl.1 (Nat.le_of_ble_eq_true rfl) dL_law_961 (fun W2 H locs hS hB => ?_)
  refine lv_icmp_eq (tgt := 1295) hE.x hE.b dL_law_964 (by decide) (fun _ => ?_) (fun h => absurd rfl h)
  refine W.widen (k := cells + 151) (n := slots + 757) (by omega) (by omega) ?_
  exact kk _ _ _ hS hB

set_option maxRecDepth 100000 in
theorem law_forged {p : Program} {l : Launch} {e : Env} {s : State} {m : MethodId} {args : Array Value} {below : List Frame} {meth : Method} {c : Code} {H : Heap} {locs : List Loc} {cells slots : Nat} {Q : State → Prop} {ls : Array Slot} {g : zG} {b L9 : Nat} {xs : Nat → Int32} {x9 o i : Nat} {a : Nat → Nat} {W0 : va_W} (hE : zE g p s m args c code RL 4 meth) (hX : va_X b L9 xs s s.heap) (hbl : b < s.heap.size) (hg : gz g = s.heap.size) (hL : L9 ≤ 3584) (hi : i + 7 ≤ L9) (hl : lv_has ls 4 [(3, .int (nI i)), (2, .ref o), (1, .ref x9), (0, .ref b)]) (hc : cells + 151 ≤ 600000 ∧ slots + 757 ≤ 7302250) (hS : LI g x9 o a W0) (hB : zB g s W0 H locs)
    (kk : ∀ (W1 : va_W) (H1 : Heap) (locs1 : List Loc), LI g x9 o a W1 → zB g s W1 H1 locs1 → W p l e room_1 s m args below meth c H1 locs1 (cells + 151) (slots + 757) Q (F0 m 1295 ls [])) : W p l e room_1 s m args below meth c H locs cells slots Q (F0 m 969 ls []) := by
  obtain ⟨F, L, A, ln, T, C, V, U, h16, hS⟩ := hS
  have hk := cS_ok hS
  refine lv_aload_n hE.x hE.b dL_law_969 rfl (lv_at hl 2 rfl) ?_
  refine K_forged hE hB hS q3_155 ⟨Nat.le_of_ble_eq_true rfl, Nat.le_of_ble_eq_true rfl⟩ ⟨by show cells + 0 ≤ 600000; omega, by show slots + 0 ≤ 7302250; omega⟩ hl.1 (Nat.le_of_ble_eq_true rfl) dL_law_970 (fun W1 H locs hS hB => ?_)
  refine lv_aload_n hE.x hE.b dL_law_973 rfl (lv_at hl 1 rfl) ?_
  refine N_forged hE hB h16 hk hS q5_26 ⟨Nat.le_of_ble_eq_true rfl, Nat.le_of_ble_eq_true rfl⟩ ⟨by show cells + 0 + 0 ≤ 600000; omega, by show slots + 0 + 0 ≤ 7302250; omega⟩ hl.1 (Nat.le_of_ble_eq_true rfl) dL_law_974 (fun W2 H locs hS hB => ?_)
  refine lv_icmp_eq (tgt := 1295) hE.x hE.b dL_law_977 (by decide) (fun _ => ?_) (fun h => absurd rfl h)
  refine W.widen (k := cells + 151) (n := slots + 757) (by omega) (by omega) ?_
  exact kk _ _ _ hS hB

set_option maxRecDepth 100000 in
theorem law_whose {p : Program} {l : Launch} {e : Env} {s : State} {m : MethodId} {args : Array Value} {below : List Frame} {meth : Method} {c : Code} {H : Heap} {locs : List Loc} {cells slots : Nat} {Q : State → Prop} {ls : Array Slot} {g : zG} {b L9 : Nat} {xs : Nat → Int32} {x9 o i : Nat} {a : Nat → Nat} {W0 : va_W} (hE : zE g p s m args c code RL 4 meth) (hX : va_X b L9 xs s s.heap) (hbl : b < s.heap.size) (hg : gz g = s.heap.size) (hL : L9 ≤ 3584) (hi : i + 7 ≤ L9) (hl : lv_has ls 4 [(3, .int (nI i)), (2, .ref o), (1, .ref x9), (0, .ref b)]) (hc : cells + 151 ≤ 600000 ∧ slots + 757 ≤ 7302250) (hS : LI g x9 o a W0) (hB : zB g s W0 H locs)
    (kk : ∀ (W1 : va_W) (H1 : Heap) (locs1 : List Loc), LI g x9 o a W1 → zB g s W1 H1 locs1 → W p l e room_1 s m args below meth c H1 locs1 (cells + 151) (slots + 757) Q (F0 m 1295 ls [])) : W p l e room_1 s m args below meth c H locs cells slots Q (F0 m 982 ls []) := by
  obtain ⟨F, L, A, ln, T, C, V, U, h16, hS⟩ := hS
  have hk := cS_ok hS
  refine lv_aload_n hE.x hE.b dL_law_982 rfl (lv_at hl 2 rfl) ?_
  refine lv_aload_n hE.x hE.b dL_law_983 rfl (lv_at hl 3 rfl) ?_
  refine lv_iload_n hE.x hE.b dL_law_984 rfl (lv_at hl 0 rfl) ?_
  refine lv_iconst (v := nI 1) hE.x hE.b dL_law_985 rfl ?_
  refine z_iaddN hE dL_law_986 ?_
  refine z_sld hE hB hX hbl hg hL (by omega) dL_law_987 ?_
  refine lv_aload_n hE.x hE.b dL_law_988 rfl (lv_at hl 3 rfl) ?_
  refine lv_iload_n hE.x hE.b dL_law_989 rfl (lv_at hl 0 rfl) ?_
  refine lv_iconst (v := nI 2) hE.x hE.b dL_law_990 rfl ?_
  refine z_iaddN hE dL_law_991 ?_
  refine z_sld hE hB hX hbl hg hL (by omega) dL_law_992 ?_
  refine lv_aload_n hE.x hE.b dL_law_993 rfl (lv_at hl 3 rfl) ?_
  refine lv_iload_n hE.x hE.b dL_law_994 rfl (lv_at hl 0 rfl) ?_
  refine lv_iconst (v := nI 3) hE.x hE.b dL_law_995 rfl ?_
  refine z_iaddN hE dL_law_996 ?_
  refine z_sld hE hB hX hbl hg hL (by omega) dL_law_997 ?_
  refine lv_aload_n hE.x hE.b dL_law_998 rfl (lv_at hl 3 rfl) ?_
  refine lv_iload_n hE.x hE.b dL_law_999 rfl (lv_at hl 0 rfl) ?_
  refine lv_iconst (v := nI 4) hE.x hE.b dL_law_1000 rfl ?_
  refine z_iaddN hE dL_law_1001 ?_
  refine z_sld hE hB hX hbl hg hL (by omega) dL_law_1002 ?_
  refine lv_aload_n hE.x hE.b dL_law_1003 rfl (lv_at hl 3 rfl) ?_
  refine lv_iload_n hE.x hE.b dL_law_1004 rfl (lv_at hl 0 rfl) ?_
  refine lv_iconst (v := nI 5) hE.x hE.b dL_law_1005 rfl ?_
  refine z_iaddN hE dL_law_1006 ?_
  refine z_sld hE hB hX hbl hg hL (by omega) dL_law_1007 ?_
  refine lv_aload_n hE.x hE.b dL_law_1008 rfl (lv_at hl 3 rfl) ?_
  refine lv_iload_n hE.x hE.b dL_law_1009 rfl (lv_at hl 0 rfl) ?_
  refine lv_bipush (v := nI 6) hE.x hE.b dL_law_1010 rfl ?_
  refine z_iaddN hE dL_law_1012 ?_
  refine z_sld hE hB hX hbl hg hL (by omega) dL_law_1013 ?_
  refine K_whose hE hB hS q3_164 ⟨Nat.le_of_ble_eq_true rfl, Nat.le_of_ble_eq_true rfl⟩ ⟨by show cells + 0 ≤ 600000; omega, by show slots + 0 ≤ 7302250; omega⟩ hl.1 (Nat.le_of_ble_eq_true rfl) dL_law_1014 (fun W1 H locs hS hB => ?_)
  refine lv_aload_n hE.x hE.b dL_law_1017 rfl (lv_at hl 1 rfl) ?_
  refine lv_aload_n hE.x hE.b dL_law_1018 rfl (lv_at hl 3 rfl) ?_
  refine lv_iload_n hE.x hE.b dL_law_1019 rfl (lv_at hl 0 rfl) ?_
  refine lv_iconst (v := nI 1) hE.x hE.b dL_law_1020 rfl ?_
  refine z_iaddN hE dL_law_1021 ?_
  refine z_sld hE hB hX hbl hg hL (by omega) dL_law_1022 ?_
  refine lv_aload_n hE.x hE.b dL_law_1023 rfl (lv_at hl 3 rfl) ?_
  refine lv_iload_n hE.x hE.b dL_law_1024 rfl (lv_at hl 0 rfl) ?_
  refine lv_iconst (v := nI 2) hE.x hE.b dL_law_1025 rfl ?_
  refine z_iaddN hE dL_law_1026 ?_
  refine z_sld hE hB hX hbl hg hL (by omega) dL_law_1027 ?_
  refine lv_aload_n hE.x hE.b dL_law_1028 rfl (lv_at hl 3 rfl) ?_
  refine lv_iload_n hE.x hE.b dL_law_1029 rfl (lv_at hl 0 rfl) ?_
  refine lv_iconst (v := nI 3) hE.x hE.b dL_law_1030 rfl ?_
  refine z_iaddN hE dL_law_1031 ?_
  refine z_sld hE hB hX hbl hg hL (by omega) dL_law_1032 ?_
  refine lv_aload_n hE.x hE.b dL_law_1033 rfl (lv_at hl 3 rfl) ?_
  refine lv_iload_n hE.x hE.b dL_law_1034 rfl (lv_at hl 0 rfl) ?_
  refine lv_iconst (v := nI 4) hE.x hE.b dL_law_1035 rfl ?_
  refine z_iaddN hE dL_law_1036 ?_
  refine z_sld hE hB hX hbl hg hL (by omega) dL_law_1037 ?_
  refine lv_aload_n hE.x hE.b dL_law_1038 rfl (lv_at hl 3 rfl) ?_
  refine lv_iload_n hE.x hE.b dL_law_1039 rfl (lv_at hl 0 rfl) ?_
  refine lv_iconst (v := nI 5) hE.x hE.b dL_law_1040 rfl ?_
  refine z_iaddN hE dL_law_1041 ?_
  refine z_sld hE hB hX hbl hg hL (by omega) dL_law_1042 ?_
  refine lv_aload_n hE.x hE.b dL_law_1043 rfl (lv_at hl 3 rfl) ?_
  refine lv_iload_n hE.x hE.b dL_law_1044 rfl (lv_at hl 0 rfl) ?_
  refine lv_bipush (v := nI 6) hE.x hE.b dL_law_1045 rfl ?_
  refine z_iaddN hE dL_law_1047 ?_
  refine z_sld hE hB hX hbl hg hL (by omega) dL_law_1048 ?_
  refine N_whose hE hB h16 hk hS q5_30 ⟨Nat.le_of_ble_eq_true rfl, Nat.le_of_ble_eq_true rfl⟩ ⟨by show cells + 0 + 0 ≤ 600000; omega, by show slots + 0 + 0 ≤ 7302250; omega⟩ hl.1 (Nat.le_of_ble_eq_true rfl) dL_law_1049 (fun W2 H locs hS hB => ?_)
  refine lv_icmp_eq (tgt := 1295) hE.x hE.b dL_law_1052 (by decide) (fun _ => ?_) (fun h => absurd rfl h)
  refine W.widen (k := cells + 151) (n := slots + 757) (by omega) (by omega) ?_
  exact kk _ _ _ hS hB

set_option maxRecDepth 100000 in
theorem law_odds {p : Program} {l : Launch} {e : Env} {s : State} {m : MethodId} {args : Array Value} {below : List Frame} {meth : Method} {c : Code} {H : Heap} {locs : List Loc} {cells slots : Nat} {Q : State → Prop} {ls : Array Slot} {g : zG} {b L9 : Nat} {xs : Nat → Int32} {x9 o i : Nat} {a : Nat → Nat} {W0 : va_W} (hE : zE g p s m args c code RL 4 meth) (hX : va_X b L9 xs s s.heap) (hbl : b < s.heap.size) (hg : gz g = s.heap.size) (hL : L9 ≤ 3584) (hi : i + 7 ≤ L9) (hl : lv_has ls 4 [(3, .int (nI i)), (2, .ref o), (1, .ref x9), (0, .ref b)]) (hc : cells + 151 ≤ 600000 ∧ slots + 757 ≤ 7302250) (hS : LI g x9 o a W0) (hB : zB g s W0 H locs)
    (kk : ∀ (W1 : va_W) (H1 : Heap) (locs1 : List Loc), LI g x9 o a W1 → zB g s W1 H1 locs1 → W p l e room_1 s m args below meth c H1 locs1 (cells + 151) (slots + 757) Q (F0 m 1295 ls [])) : W p l e room_1 s m args below meth c H locs cells slots Q (F0 m 1057 ls []) := by
  obtain ⟨F, L, A, ln, T, C, V, U, h16, hS⟩ := hS
  have hk := cS_ok hS
  refine lv_aload_n hE.x hE.b dL_law_1057 rfl (lv_at hl 2 rfl) ?_
  refine lv_aload_n hE.x hE.b dL_law_1058 rfl (lv_at hl 3 rfl) ?_
  refine lv_iload_n hE.x hE.b dL_law_1059 rfl (lv_at hl 0 rfl) ?_
  refine lv_iconst (v := nI 1) hE.x hE.b dL_law_1060 rfl ?_
  refine z_iaddN hE dL_law_1061 ?_
  refine z_sld hE hB hX hbl hg hL (by omega) dL_law_1062 ?_
  refine lv_aload_n hE.x hE.b dL_law_1063 rfl (lv_at hl 3 rfl) ?_
  refine lv_iload_n hE.x hE.b dL_law_1064 rfl (lv_at hl 0 rfl) ?_
  refine lv_iconst (v := nI 2) hE.x hE.b dL_law_1065 rfl ?_
  refine z_iaddN hE dL_law_1066 ?_
  refine z_sld hE hB hX hbl hg hL (by omega) dL_law_1067 ?_
  refine lv_aload_n hE.x hE.b dL_law_1068 rfl (lv_at hl 3 rfl) ?_
  refine lv_iload_n hE.x hE.b dL_law_1069 rfl (lv_at hl 0 rfl) ?_
  refine lv_iconst (v := nI 3) hE.x hE.b dL_law_1070 rfl ?_
  refine z_iaddN hE dL_law_1071 ?_
  refine z_sld hE hB hX hbl hg hL (by omega) dL_law_1072 ?_
  refine lv_aload_n hE.x hE.b dL_law_1073 rfl (lv_at hl 3 rfl) ?_
  refine lv_iload_n hE.x hE.b dL_law_1074 rfl (lv_at hl 0 rfl) ?_
  refine lv_iconst (v := nI 4) hE.x hE.b dL_law_1075 rfl ?_
  refine z_iaddN hE dL_law_1076 ?_
  refine z_sld hE hB hX hbl hg hL (by omega) dL_law_1077 ?_
  refine lv_aload_n hE.x hE.b dL_law_1078 rfl (lv_at hl 3 rfl) ?_
  refine lv_iload_n hE.x hE.b dL_law_1079 rfl (lv_at hl 0 rfl) ?_
  refine lv_iconst (v := nI 5) hE.x hE.b dL_law_1080 rfl ?_
  refine z_iaddN hE dL_law_1081 ?_
  refine z_sld hE hB hX hbl hg hL (by omega) dL_law_1082 ?_
  refine lv_aload_n hE.x hE.b dL_law_1083 rfl (lv_at hl 3 rfl) ?_
  refine lv_iload_n hE.x hE.b dL_law_1084 rfl (lv_at hl 0 rfl) ?_
  refine lv_bipush (v := nI 6) hE.x hE.b dL_law_1085 rfl ?_
  refine z_iaddN hE dL_law_1087 ?_
  refine z_sld hE hB hX hbl hg hL (by omega) dL_law_1088 ?_
  refine K_odds hE hB hS q3_168 ⟨Nat.le_of_ble_eq_true rfl, Nat.le_of_ble_eq_true rfl⟩ ⟨by show cells + 0 ≤ 600000; omega, by show slots + 0 ≤ 7302250; omega⟩ hl.1 (Nat.le_of_ble_eq_true rfl) dL_law_1089 (fun W1 H locs hS hB => ?_)
  refine lv_aload_n hE.x hE.b dL_law_1092 rfl (lv_at hl 1 rfl) ?_
  refine lv_aload_n hE.x hE.b dL_law_1093 rfl (lv_at hl 3 rfl) ?_
  refine lv_iload_n hE.x hE.b dL_law_1094 rfl (lv_at hl 0 rfl) ?_
  refine lv_iconst (v := nI 1) hE.x hE.b dL_law_1095 rfl ?_
  refine z_iaddN hE dL_law_1096 ?_
  refine z_sld hE hB hX hbl hg hL (by omega) dL_law_1097 ?_
  refine lv_aload_n hE.x hE.b dL_law_1098 rfl (lv_at hl 3 rfl) ?_
  refine lv_iload_n hE.x hE.b dL_law_1099 rfl (lv_at hl 0 rfl) ?_
  refine lv_iconst (v := nI 2) hE.x hE.b dL_law_1100 rfl ?_
  refine z_iaddN hE dL_law_1101 ?_
  refine z_sld hE hB hX hbl hg hL (by omega) dL_law_1102 ?_
  refine lv_aload_n hE.x hE.b dL_law_1103 rfl (lv_at hl 3 rfl) ?_
  refine lv_iload_n hE.x hE.b dL_law_1104 rfl (lv_at hl 0 rfl) ?_
  refine lv_iconst (v := nI 3) hE.x hE.b dL_law_1105 rfl ?_
  refine z_iaddN hE dL_law_1106 ?_
  refine z_sld hE hB hX hbl hg hL (by omega) dL_law_1107 ?_
  refine lv_aload_n hE.x hE.b dL_law_1108 rfl (lv_at hl 3 rfl) ?_
  refine lv_iload_n hE.x hE.b dL_law_1109 rfl (lv_at hl 0 rfl) ?_
  refine lv_iconst (v := nI 4) hE.x hE.b dL_law_1110 rfl ?_
  refine z_iaddN hE dL_law_1111 ?_
  refine z_sld hE hB hX hbl hg hL (by omega) dL_law_1112 ?_
  refine lv_aload_n hE.x hE.b dL_law_1113 rfl (lv_at hl 3 rfl) ?_
  refine lv_iload_n hE.x hE.b dL_law_1114 rfl (lv_at hl 0 rfl) ?_
  refine lv_iconst (v := nI 5) hE.x hE.b dL_law_1115 rfl ?_
  refine z_iaddN hE dL_law_1116 ?_
  refine z_sld hE hB hX hbl hg hL (by omega) dL_law_1117 ?_
  refine lv_aload_n hE.x hE.b dL_law_1118 rfl (lv_at hl 3 rfl) ?_
  refine lv_iload_n hE.x hE.b dL_law_1119 rfl (lv_at hl 0 rfl) ?_
  refine lv_bipush (v := nI 6) hE.x hE.b dL_law_1120 rfl ?_
  refine z_iaddN hE dL_law_1122 ?_
  refine z_sld hE hB hX hbl hg hL (by omega) dL_law_1123 ?_
  refine N_odds hE hB h16 hk hS q5_35 ⟨Nat.le_of_ble_eq_true rfl, Nat.le_of_ble_eq_true rfl⟩ ⟨by show cells + 0 + 0 ≤ 600000; omega, by show slots + 0 + 0 ≤ 7302250; omega⟩ hl.1 (Nat.le_of_ble_eq_true rfl) dL_law_1124 (fun W2 H locs hS hB => ?_)
  refine lv_icmp_eq (tgt := 1295) hE.x hE.b dL_law_1127 (by decide) (fun _ => ?_) (fun h => absurd rfl h)
  refine W.widen (k := cells + 151) (n := slots + 757) (by omega) (by omega) ?_
  exact kk _ _ _ hS hB

set_option maxRecDepth 100000 in
theorem law_drawn {p : Program} {l : Launch} {e : Env} {s : State} {m : MethodId} {args : Array Value} {below : List Frame} {meth : Method} {c : Code} {H : Heap} {locs : List Loc} {cells slots : Nat} {Q : State → Prop} {ls : Array Slot} {g : zG} {b L9 : Nat} {xs : Nat → Int32} {x9 o i : Nat} {a : Nat → Nat} {W0 : va_W} (hE : zE g p s m args c code RL 4 meth) (hX : va_X b L9 xs s s.heap) (hbl : b < s.heap.size) (hg : gz g = s.heap.size) (hL : L9 ≤ 3584) (hi : i + 7 ≤ L9) (hl : lv_has ls 4 [(3, .int (nI i)), (2, .ref o), (1, .ref x9), (0, .ref b)]) (hc : cells + 151 ≤ 600000 ∧ slots + 757 ≤ 7302250) (hS : LI g x9 o a W0) (hB : zB g s W0 H locs)
    (kk : ∀ (W1 : va_W) (H1 : Heap) (locs1 : List Loc), LI g x9 o a W1 → zB g s W1 H1 locs1 → W p l e room_1 s m args below meth c H1 locs1 (cells + 151) (slots + 757) Q (F0 m 1295 ls [])) : W p l e room_1 s m args below meth c H locs cells slots Q (F0 m 1132 ls []) := by
  obtain ⟨F, L, A, ln, T, C, V, U, h16, hS⟩ := hS
  have hk := cS_ok hS
  refine lv_aload_n hE.x hE.b dL_law_1132 rfl (lv_at hl 2 rfl) ?_
  refine lv_aload_n hE.x hE.b dL_law_1133 rfl (lv_at hl 3 rfl) ?_
  refine lv_iload_n hE.x hE.b dL_law_1134 rfl (lv_at hl 0 rfl) ?_
  refine lv_iconst (v := nI 1) hE.x hE.b dL_law_1135 rfl ?_
  refine z_iaddN hE dL_law_1136 ?_
  refine z_sld hE hB hX hbl hg hL (by omega) dL_law_1137 ?_
  refine lv_aload_n hE.x hE.b dL_law_1138 rfl (lv_at hl 3 rfl) ?_
  refine lv_iload_n hE.x hE.b dL_law_1139 rfl (lv_at hl 0 rfl) ?_
  refine lv_iconst (v := nI 2) hE.x hE.b dL_law_1140 rfl ?_
  refine z_iaddN hE dL_law_1141 ?_
  refine z_sld hE hB hX hbl hg hL (by omega) dL_law_1142 ?_
  refine K_drawn hE hB hS q3_175 ⟨Nat.le_of_ble_eq_true rfl, Nat.le_of_ble_eq_true rfl⟩ ⟨by show cells + 0 ≤ 600000; omega, by show slots + 0 ≤ 7302250; omega⟩ hl.1 (Nat.le_of_ble_eq_true rfl) dL_law_1143 (fun W1 H locs hS hB => ?_)
  refine lv_aload_n hE.x hE.b dL_law_1146 rfl (lv_at hl 1 rfl) ?_
  refine lv_aload_n hE.x hE.b dL_law_1147 rfl (lv_at hl 3 rfl) ?_
  refine lv_iload_n hE.x hE.b dL_law_1148 rfl (lv_at hl 0 rfl) ?_
  refine lv_iconst (v := nI 1) hE.x hE.b dL_law_1149 rfl ?_
  refine z_iaddN hE dL_law_1150 ?_
  refine z_sld hE hB hX hbl hg hL (by omega) dL_law_1151 ?_
  refine lv_aload_n hE.x hE.b dL_law_1152 rfl (lv_at hl 3 rfl) ?_
  refine lv_iload_n hE.x hE.b dL_law_1153 rfl (lv_at hl 0 rfl) ?_
  refine lv_iconst (v := nI 2) hE.x hE.b dL_law_1154 rfl ?_
  refine z_iaddN hE dL_law_1155 ?_
  refine z_sld hE hB hX hbl hg hL (by omega) dL_law_1156 ?_
  refine N_drawn hE hB h16 hk hS q5_43 ⟨Nat.le_of_ble_eq_true rfl, Nat.le_of_ble_eq_true rfl⟩ ⟨by show cells + 0 + 0 ≤ 600000; omega, by show slots + 0 + 0 ≤ 7302250; omega⟩ hl.1 (Nat.le_of_ble_eq_true rfl) dL_law_1157 (fun W2 H locs hS hB => ?_)
  refine lv_icmp_eq (tgt := 1295) hE.x hE.b dL_law_1160 (by decide) (fun _ => ?_) (fun h => absurd rfl h)
  refine W.widen (k := cells + 151) (n := slots + 757) (by omega) (by omega) ?_
  exact kk _ _ _ hS hB

set_option maxRecDepth 100000 in
theorem law_part {p : Program} {l : Launch} {e : Env} {s : State} {m : MethodId} {args : Array Value} {below : List Frame} {meth : Method} {c : Code} {H : Heap} {locs : List Loc} {cells slots : Nat} {Q : State → Prop} {ls : Array Slot} {g : zG} {b L9 : Nat} {xs : Nat → Int32} {x9 o i : Nat} {a : Nat → Nat} {W0 : va_W} (hE : zE g p s m args c code RL 4 meth) (hX : va_X b L9 xs s s.heap) (hbl : b < s.heap.size) (hg : gz g = s.heap.size) (hL : L9 ≤ 3584) (hi : i + 7 ≤ L9) (hl : lv_has ls 4 [(3, .int (nI i)), (2, .ref o), (1, .ref x9), (0, .ref b)]) (hc : cells + 151 ≤ 600000 ∧ slots + 757 ≤ 7302250) (hS : LI g x9 o a W0) (hB : zB g s W0 H locs)
    (kk : ∀ (W1 : va_W) (H1 : Heap) (locs1 : List Loc), LI g x9 o a W1 → zB g s W1 H1 locs1 → W p l e room_1 s m args below meth c H1 locs1 (cells + 151) (slots + 757) Q (F0 m 1295 ls [])) : W p l e room_1 s m args below meth c H locs cells slots Q (F0 m 1165 ls []) := by
  obtain ⟨F, L, A, ln, T, C, V, U, h16, hS⟩ := hS
  have hk := cS_ok hS
  refine lv_aload_n hE.x hE.b dL_law_1165 rfl (lv_at hl 2 rfl) ?_
  refine lv_aload_n hE.x hE.b dL_law_1166 rfl (lv_at hl 3 rfl) ?_
  refine lv_iload_n hE.x hE.b dL_law_1167 rfl (lv_at hl 0 rfl) ?_
  refine lv_iconst (v := nI 1) hE.x hE.b dL_law_1168 rfl ?_
  refine z_iaddN hE dL_law_1169 ?_
  refine z_sld hE hB hX hbl hg hL (by omega) dL_law_1170 ?_
  refine K_part hE hB hS q3_190 ⟨Nat.le_of_ble_eq_true rfl, Nat.le_of_ble_eq_true rfl⟩ ⟨by show cells + 0 ≤ 600000; omega, by show slots + 0 ≤ 7302250; omega⟩ hl.1 (Nat.le_of_ble_eq_true rfl) dL_law_1171 (fun W1 H locs hS hB => ?_)
  refine lv_aload_n hE.x hE.b dL_law_1174 rfl (lv_at hl 1 rfl) ?_
  refine lv_aload_n hE.x hE.b dL_law_1175 rfl (lv_at hl 3 rfl) ?_
  refine lv_iload_n hE.x hE.b dL_law_1176 rfl (lv_at hl 0 rfl) ?_
  refine lv_iconst (v := nI 1) hE.x hE.b dL_law_1177 rfl ?_
  refine z_iaddN hE dL_law_1178 ?_
  refine z_sld hE hB hX hbl hg hL (by omega) dL_law_1179 ?_
  refine N_part hE hB h16 hk hS q5_111 ⟨Nat.le_of_ble_eq_true rfl, Nat.le_of_ble_eq_true rfl⟩ ⟨by show cells + 0 + 0 ≤ 600000; omega, by show slots + 0 + 0 ≤ 7302250; omega⟩ hl.1 (Nat.le_of_ble_eq_true rfl) dL_law_1180 (fun W2 H locs hS hB => ?_)
  refine W.lcmp hE.x hE.b dL_law_1183 ?_
  refine z_top (y := nI 0) (lgc _) ?_
  refine lv_if_eq (tgt := 1295) hE.x hE.b dL_law_1184 (by decide) (fun _ => ?_) (fun h => absurd rfl h)
  refine W.widen (k := cells + 151) (n := slots + 757) (by omega) (by omega) ?_
  exact kk _ _ _ hS hB

set_option maxRecDepth 100000 in
theorem law_image {p : Program} {l : Launch} {e : Env} {s : State} {m : MethodId} {args : Array Value} {below : List Frame} {meth : Method} {c : Code} {H : Heap} {locs : List Loc} {cells slots : Nat} {Q : State → Prop} {ls : Array Slot} {g : zG} {b L9 : Nat} {xs : Nat → Int32} {x9 o i : Nat} {a : Nat → Nat} {W0 : va_W} (hE : zE g p s m args c code RL 4 meth) (hX : va_X b L9 xs s s.heap) (hbl : b < s.heap.size) (hg : gz g = s.heap.size) (hL : L9 ≤ 3584) (hi : i + 7 ≤ L9) (hl : lv_has ls 4 [(3, .int (nI i)), (2, .ref o), (1, .ref x9), (0, .ref b)]) (hc : cells + 151 ≤ 600000 ∧ slots + 757 ≤ 7302250) (hS : LI g x9 o a W0) (hB : zB g s W0 H locs)
    (kk : ∀ (W1 : va_W) (H1 : Heap) (locs1 : List Loc), LI g x9 o a W1 → zB g s W1 H1 locs1 → W p l e room_1 s m args below meth c H1 locs1 (cells + 151) (slots + 757) Q (F0 m 1295 ls [])) : W p l e room_1 s m args below meth c H locs cells slots Q (F0 m 1189 ls []) := by
  obtain ⟨F, L, A, ln, T, C, V, U, h16, hS⟩ := hS
  have hk := cS_ok hS
  refine lv_aload_n hE.x hE.b dL_law_1189 rfl (lv_at hl 2 rfl) ?_
  refine lv_aload_n hE.x hE.b dL_law_1190 rfl (lv_at hl 3 rfl) ?_
  refine lv_iload_n hE.x hE.b dL_law_1191 rfl (lv_at hl 0 rfl) ?_
  refine lv_iconst (v := nI 1) hE.x hE.b dL_law_1192 rfl ?_
  refine z_iaddN hE dL_law_1193 ?_
  refine z_sld hE hB hX hbl hg hL (by omega) dL_law_1194 ?_
  refine K_image hE hB hS q3_194 ⟨Nat.le_of_ble_eq_true rfl, Nat.le_of_ble_eq_true rfl⟩ ⟨by show cells + 9 ≤ 600000; omega, by show slots + 216 ≤ 7302250; omega⟩ hl.1 (Nat.le_of_ble_eq_true rfl) dL_law_1195 (fun W1 H locs hS hB => ?_)
  refine lv_aload_n hE.x hE.b dL_law_1198 rfl (lv_at hl 1 rfl) ?_
  refine lv_aload_n hE.x hE.b dL_law_1199 rfl (lv_at hl 3 rfl) ?_
  refine lv_iload_n hE.x hE.b dL_law_1200 rfl (lv_at hl 0 rfl) ?_
  refine lv_iconst (v := nI 1) hE.x hE.b dL_law_1201 rfl ?_
  refine z_iaddN hE dL_law_1202 ?_
  refine z_sld hE hB hX hbl hg hL (by omega) dL_law_1203 ?_
  refine N_image hE hB h16 hk hS q5_115 ⟨Nat.le_of_ble_eq_true rfl, Nat.le_of_ble_eq_true rfl⟩ ⟨by show cells + 9 + 0 ≤ 600000; omega, by show slots + 216 + 0 ≤ 7302250; omega⟩ hl.1 (Nat.le_of_ble_eq_true rfl) dL_law_1204 (fun W2 H locs hS hB => ?_)
  refine lv_icmp_eq (tgt := 1295) hE.x hE.b dL_law_1207 (by decide) (fun _ => ?_) (fun h => absurd rfl h)
  refine W.widen (k := cells + 151) (n := slots + 757) (by omega) (by omega) ?_
  exact kk _ _ _ hS hB

set_option maxRecDepth 100000 in
theorem law_from {p : Program} {l : Launch} {e : Env} {s : State} {m : MethodId} {args : Array Value} {below : List Frame} {meth : Method} {c : Code} {H : Heap} {locs : List Loc} {cells slots : Nat} {Q : State → Prop} {ls : Array Slot} {g : zG} {b L9 : Nat} {xs : Nat → Int32} {x9 o i : Nat} {a : Nat → Nat} {W0 : va_W} (hE : zE g p s m args c code RL 4 meth) (hX : va_X b L9 xs s s.heap) (hbl : b < s.heap.size) (hg : gz g = s.heap.size) (hL : L9 ≤ 3584) (hi : i + 7 ≤ L9) (hl : lv_has ls 4 [(3, .int (nI i)), (2, .ref o), (1, .ref x9), (0, .ref b)]) (hc : cells + 151 ≤ 600000 ∧ slots + 757 ≤ 7302250) (hS : LI g x9 o a W0) (hB : zB g s W0 H locs)
    (kk : ∀ (W1 : va_W) (H1 : Heap) (locs1 : List Loc), LI g x9 o a W1 → zB g s W1 H1 locs1 → W p l e room_1 s m args below meth c H1 locs1 (cells + 151) (slots + 757) Q (F0 m 1295 ls [])) : W p l e room_1 s m args below meth c H locs cells slots Q (F0 m 1212 ls []) := by
  obtain ⟨F, L, A, ln, T, C, V, U, h16, hS⟩ := hS
  have hk := cS_ok hS
  refine lv_aload_n hE.x hE.b dL_law_1212 rfl (lv_at hl 2 rfl) ?_
  refine lv_aload_n hE.x hE.b dL_law_1213 rfl (lv_at hl 3 rfl) ?_
  refine lv_iload_n hE.x hE.b dL_law_1214 rfl (lv_at hl 0 rfl) ?_
  refine lv_iconst (v := nI 1) hE.x hE.b dL_law_1215 rfl ?_
  refine z_iaddN hE dL_law_1216 ?_
  refine z_sld hE hB hX hbl hg hL (by omega) dL_law_1217 ?_
  refine K_from hE hB hS q3_202 ⟨Nat.le_of_ble_eq_true rfl, Nat.le_of_ble_eq_true rfl⟩ ⟨by show cells + 0 ≤ 600000; omega, by show slots + 0 ≤ 7302250; omega⟩ hl.1 (Nat.le_of_ble_eq_true rfl) dL_law_1218 (fun W1 H locs hS hB => ?_)
  refine lv_aload_n hE.x hE.b dL_law_1221 rfl (lv_at hl 1 rfl) ?_
  refine lv_aload_n hE.x hE.b dL_law_1222 rfl (lv_at hl 3 rfl) ?_
  refine lv_iload_n hE.x hE.b dL_law_1223 rfl (lv_at hl 0 rfl) ?_
  refine lv_iconst (v := nI 1) hE.x hE.b dL_law_1224 rfl ?_
  refine z_iaddN hE dL_law_1225 ?_
  refine z_sld hE hB hX hbl hg hL (by omega) dL_law_1226 ?_
  refine N_from hE hB h16 hk hS q5_119 ⟨Nat.le_of_ble_eq_true rfl, Nat.le_of_ble_eq_true rfl⟩ ⟨by show cells + 0 + 0 ≤ 600000; omega, by show slots + 0 + 0 ≤ 7302250; omega⟩ hl.1 (Nat.le_of_ble_eq_true rfl) dL_law_1227 (fun W2 H locs hS hB => ?_)
  refine lv_icmp_eq (tgt := 1295) hE.x hE.b dL_law_1230 (by decide) (fun _ => ?_) (fun h => absurd rfl h)
  refine W.widen (k := cells + 151) (n := slots + 757) (by omega) (by omega) ?_
  exact kk _ _ _ hS hB

set_option maxRecDepth 100000 in
theorem law_status {p : Program} {l : Launch} {e : Env} {s : State} {m : MethodId} {args : Array Value} {below : List Frame} {meth : Method} {c : Code} {H : Heap} {locs : List Loc} {cells slots : Nat} {Q : State → Prop} {ls : Array Slot} {g : zG} {b L9 : Nat} {xs : Nat → Int32} {x9 o i : Nat} {a : Nat → Nat} {W0 : va_W} (hE : zE g p s m args c code RL 4 meth) (hX : va_X b L9 xs s s.heap) (hbl : b < s.heap.size) (hg : gz g = s.heap.size) (hL : L9 ≤ 3584) (hi : i + 7 ≤ L9) (hl : lv_has ls 4 [(3, .int (nI i)), (2, .ref o), (1, .ref x9), (0, .ref b)]) (hc : cells + 151 ≤ 600000 ∧ slots + 757 ≤ 7302250) (hS : LI g x9 o a W0) (hB : zB g s W0 H locs)
    (kk : ∀ (W1 : va_W) (H1 : Heap) (locs1 : List Loc), LI g x9 o a W1 → zB g s W1 H1 locs1 → W p l e room_1 s m args below meth c H1 locs1 (cells + 151) (slots + 757) Q (F0 m 1295 ls [])) : W p l e room_1 s m args below meth c H locs cells slots Q (F0 m 1235 ls []) := by
  obtain ⟨F, L, A, ln, T, C, V, U, h16, hS⟩ := hS
  have hk := cS_ok hS
  refine lv_aload_n hE.x hE.b dL_law_1235 rfl (lv_at hl 2 rfl) ?_
  refine lv_aload_n hE.x hE.b dL_law_1236 rfl (lv_at hl 3 rfl) ?_
  refine lv_iload_n hE.x hE.b dL_law_1237 rfl (lv_at hl 0 rfl) ?_
  refine lv_iconst (v := nI 1) hE.x hE.b dL_law_1238 rfl ?_
  refine z_iaddN hE dL_law_1239 ?_
  refine z_sld hE hB hX hbl hg hL (by omega) dL_law_1240 ?_
  refine K_status hE hB hS q3_206 ⟨Nat.le_of_ble_eq_true rfl, Nat.le_of_ble_eq_true rfl⟩ ⟨by show cells + 0 ≤ 600000; omega, by show slots + 0 ≤ 7302250; omega⟩ hl.1 (Nat.le_of_ble_eq_true rfl) dL_law_1241 (fun W1 H locs hS hB => ?_)
  refine lv_aload_n hE.x hE.b dL_law_1244 rfl (lv_at hl 1 rfl) ?_
  refine lv_aload_n hE.x hE.b dL_law_1245 rfl (lv_at hl 3 rfl) ?_
  refine lv_iload_n hE.x hE.b dL_law_1246 rfl (lv_at hl 0 rfl) ?_
  refine lv_iconst (v := nI 1) hE.x hE.b dL_law_1247 rfl ?_
  refine z_iaddN hE dL_law_1248 ?_
  refine z_sld hE hB hX hbl hg hL (by omega) dL_law_1249 ?_
  refine N_status hE hB h16 hk hS q5_123 ⟨Nat.le_of_ble_eq_true rfl, Nat.le_of_ble_eq_true rfl⟩ ⟨by show cells + 0 + 0 ≤ 600000; omega, by show slots + 0 + 0 ≤ 7302250; omega⟩ hl.1 (Nat.le_of_ble_eq_true rfl) dL_law_1250 (fun W2 H locs hS hB => ?_)
  refine lv_icmp_eq (tgt := 1295) hE.x hE.b dL_law_1253 (by decide) (fun _ => ?_) (fun h => absurd rfl h)
  refine W.widen (k := cells + 151) (n := slots + 757) (by omega) (by omega) ?_
  exact kk _ _ _ hS hB

set_option maxRecDepth 100000 in
theorem law_count {p : Program} {l : Launch} {e : Env} {s : State} {m : MethodId} {args : Array Value} {below : List Frame} {meth : Method} {c : Code} {H : Heap} {locs : List Loc} {cells slots : Nat} {Q : State → Prop} {ls : Array Slot} {g : zG} {b L9 : Nat} {xs : Nat → Int32} {x9 o i : Nat} {a : Nat → Nat} {W0 : va_W} (hE : zE g p s m args c code RL 4 meth) (hX : va_X b L9 xs s s.heap) (hbl : b < s.heap.size) (hg : gz g = s.heap.size) (hL : L9 ≤ 3584) (hi : i + 7 ≤ L9) (hl : lv_has ls 4 [(3, .int (nI i)), (2, .ref o), (1, .ref x9), (0, .ref b)]) (hc : cells + 151 ≤ 600000 ∧ slots + 757 ≤ 7302250) (hS : LI g x9 o a W0) (hB : zB g s W0 H locs)
    (kk : ∀ (W1 : va_W) (H1 : Heap) (locs1 : List Loc), LI g x9 o a W1 → zB g s W1 H1 locs1 → W p l e room_1 s m args below meth c H1 locs1 (cells + 151) (slots + 757) Q (F0 m 1295 ls [])) : W p l e room_1 s m args below meth c H locs cells slots Q (F0 m 1258 ls []) := by
  obtain ⟨F, L, A, ln, T, C, V, U, h16, hS⟩ := hS
  have hk := cS_ok hS
  refine lv_aload_n hE.x hE.b dL_law_1258 rfl (lv_at hl 2 rfl) ?_
  refine lv_aload_n hE.x hE.b dL_law_1259 rfl (lv_at hl 3 rfl) ?_
  refine lv_iload_n hE.x hE.b dL_law_1260 rfl (lv_at hl 0 rfl) ?_
  refine lv_iconst (v := nI 1) hE.x hE.b dL_law_1261 rfl ?_
  refine z_iaddN hE dL_law_1262 ?_
  refine z_sld hE hB hX hbl hg hL (by omega) dL_law_1263 ?_
  refine K_count hE hB hS q3_210 ⟨Nat.le_of_ble_eq_true rfl, Nat.le_of_ble_eq_true rfl⟩ ⟨by show cells + 0 ≤ 600000; omega, by show slots + 0 ≤ 7302250; omega⟩ hl.1 (Nat.le_of_ble_eq_true rfl) dL_law_1264 (fun W1 H locs hS hB => ?_)
  refine lv_aload_n hE.x hE.b dL_law_1267 rfl (lv_at hl 1 rfl) ?_
  refine lv_aload_n hE.x hE.b dL_law_1268 rfl (lv_at hl 3 rfl) ?_
  refine lv_iload_n hE.x hE.b dL_law_1269 rfl (lv_at hl 0 rfl) ?_
  refine lv_iconst (v := nI 1) hE.x hE.b dL_law_1270 rfl ?_
  refine z_iaddN hE dL_law_1271 ?_
  refine z_sld hE hB hX hbl hg hL (by omega) dL_law_1272 ?_
  refine N_count hE hB h16 hk hS q5_127 ⟨Nat.le_of_ble_eq_true rfl, Nat.le_of_ble_eq_true rfl⟩ ⟨by show cells + 0 + 0 ≤ 600000; omega, by show slots + 0 + 0 ≤ 7302250; omega⟩ hl.1 (Nat.le_of_ble_eq_true rfl) dL_law_1273 (fun W2 H locs hS hB => ?_)
  refine lv_icmp_eq (tgt := 1295) hE.x hE.b dL_law_1276 (by decide) (fun _ => ?_) (fun h => absurd rfl h)
  refine W.widen (k := cells + 151) (n := slots + 757) (by omega) (by omega) ?_
  exact kk _ _ _ hS hB

set_option maxRecDepth 100000 in
theorem law_digest {p : Program} {l : Launch} {e : Env} {s : State} {m : MethodId} {args : Array Value} {below : List Frame} {meth : Method} {c : Code} {H : Heap} {locs : List Loc} {cells slots : Nat} {Q : State → Prop} {ls : Array Slot} {g : zG} {b L9 : Nat} {xs : Nat → Int32} {x9 o i : Nat} {a : Nat → Nat} {W0 : va_W} (hE : zE g p s m args c code RL 4 meth) (hX : va_X b L9 xs s s.heap) (hbl : b < s.heap.size) (hg : gz g = s.heap.size) (hL : L9 ≤ 3584) (hi : i + 7 ≤ L9) (hl : lv_has ls 4 [(3, .int (nI i)), (2, .ref o), (1, .ref x9), (0, .ref b)]) (hc : cells + 151 ≤ 600000 ∧ slots + 757 ≤ 7302250) (hS : LI g x9 o a W0) (hB : zB g s W0 H locs)
    (kk : ∀ (W1 : va_W) (H1 : Heap) (locs1 : List Loc), LI g x9 o a W1 → zB g s W1 H1 locs1 → W p l e room_1 s m args below meth c H1 locs1 (cells + 151) (slots + 757) Q (F0 m 1295 ls [])) : W p l e room_1 s m args below meth c H locs cells slots Q (F0 m 1281 ls []) := by
  obtain ⟨F, L, A, ln, T, C, V, U, h16, hS⟩ := hS
  have hk := cS_ok hS
  refine lv_aload_n hE.x hE.b dL_law_1281 rfl (lv_at hl 2 rfl) ?_
  refine K_digest hE hB hS q3_218 ⟨Nat.le_of_ble_eq_true rfl, Nat.le_of_ble_eq_true rfl⟩ ⟨by show cells + 0 ≤ 600000; omega, by show slots + 0 ≤ 7302250; omega⟩ hl.1 (Nat.le_of_ble_eq_true rfl) dL_law_1282 (fun W1 H locs hS hB => ?_)
  refine lv_aload_n hE.x hE.b dL_law_1285 rfl (lv_at hl 1 rfl) ?_
  refine N_digest hE hB h16 hk hS q5_139 ⟨Nat.le_of_ble_eq_true rfl, Nat.le_of_ble_eq_true rfl⟩ ⟨by show cells + 0 + 0 ≤ 600000; omega, by show slots + 0 + 0 ≤ 7302250; omega⟩ hl.1 (Nat.le_of_ble_eq_true rfl) dL_law_1286 (fun W2 H locs hS hB => ?_)
  refine W.lcmp hE.x hE.b dL_law_1289 ?_
  refine z_top (y := nI 0) (lgc _) ?_
  refine lv_if_eq (tgt := 1295) hE.x hE.b dL_law_1290 (by decide) (fun _ => ?_) (fun h => absurd rfl h)
  refine W.widen (k := cells + 151) (n := slots + 757) (by omega) (by omega) ?_
  exact kk _ _ _ hS hB
