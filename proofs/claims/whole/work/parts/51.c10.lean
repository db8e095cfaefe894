theorem dX6_advance_0 : decode cX6_advance 0 = .ok (.aload_n 0, 1) := by decide +kernel
theorem dX6_advance_1 : decode cX6_advance 1 = .ok (.aload_n 0, 1) := by decide +kernel
theorem dX6_advance_2 : decode cX6_advance 2 = .ok (.getfield 26, 3) := by decide +kernel
theorem dX6_advance_5 : decode cX6_advance 5 = .ok (.putfield 23, 3) := by decide +kernel
theorem dX6_advance_8 : decode cX6_advance 8 = .ok (.aload_n 0, 1) := by decide +kernel
theorem dX6_advance_9 : decode cX6_advance 9 = .ok (.getfield 23, 3) := by decide +kernel
theorem dX6_advance_12 : decode cX6_advance 12 = .ok (.aload_n 0, 1) := by decide +kernel
theorem dX6_advance_13 : decode cX6_advance 13 = .ok (.getfield 15, 3) := by decide +kernel
theorem dX6_advance_16 : decode cX6_advance 16 = .ok (.if_icmp .ge 30, 3) := by decide +kernel
theorem dX6_advance_19 : decode cX6_advance 19 = .ok (.aload_n 0, 1) := by decide +kernel
theorem dX6_advance_20 : decode cX6_advance 20 = .ok (.getfield 9, 3) := by decide +kernel
theorem dX6_advance_23 : decode cX6_advance 23 = .ok (.aload_n 0, 1) := by decide +kernel
theorem dX6_advance_24 : decode cX6_advance 24 = .ok (.getfield 23, 3) := by decide +kernel
theorem dX6_advance_27 : decode cX6_advance 27 = .ok (.baload, 1) := by decide +kernel
theorem dX6_advance_28 : decode cX6_advance 28 = .ok (.bipush 32, 2) := by decide +kernel
theorem dX6_advance_30 : decode cX6_advance 30 = .ok (.if_icmp .ne 16, 3) := by decide +kernel
theorem dX6_advance_33 : decode cX6_advance 33 = .ok (.aload_n 0, 1) := by decide +kernel
theorem dX6_advance_34 : decode cX6_advance 34 = .ok (.dup, 1) := by decide +kernel
theorem dX6_advance_35 : decode cX6_advance 35 = .ok (.getfield 23, 3) := by decide +kernel
theorem dX6_advance_38 : decode cX6_advance 38 = .ok (.iconst 1, 1) := by decide +kernel
theorem dX6_advance_39 : decode cX6_advance 39 = .ok (.iadd, 1) := by decide +kernel
theorem dX6_advance_40 : decode cX6_advance 40 = .ok (.putfield 23, 3) := by decide +kernel
theorem dX6_advance_43 : decode cX6_advance 43 = .ok (.goto (-35), 3) := by decide +kernel
theorem dX6_advance_46 : decode cX6_advance 46 = .ok (.aload_n 0, 1) := by decide +kernel
theorem dX6_advance_47 : decode cX6_advance 47 = .ok (.aload_n 0, 1) := by decide +kernel
theorem dX6_advance_48 : decode cX6_advance 48 = .ok (.getfield 23, 3) := by decide +kernel
theorem dX6_advance_51 : decode cX6_advance 51 = .ok (.putfield 26, 3) := by decide +kernel
theorem dX6_advance_54 : decode cX6_advance 54 = .ok (.aload_n 0, 1) := by decide +kernel
theorem dX6_advance_55 : decode cX6_advance 55 = .ok (.getfield 23, 3) := by decide +kernel
theorem dX6_advance_58 : decode cX6_advance 58 = .ok (.aload_n 0, 1) := by decide +kernel
theorem dX6_advance_59 : decode cX6_advance 59 = .ok (.getfield 15, 3) := by decide +kernel
theorem dX6_advance_62 : decode cX6_advance 62 = .ok (.if_icmp .lt 11, 3) := by decide +kernel
theorem dX6_advance_65 : decode cX6_advance 65 = .ok (.aload_n 0, 1) := by decide +kernel
theorem dX6_advance_66 : decode cX6_advance 66 = .ok (.iconst 1, 1) := by decide +kernel
theorem dX6_advance_67 : decode cX6_advance 67 = .ok (.putfield 29, 3) := by decide +kernel
theorem dX6_advance_70 : decode cX6_advance 70 = .ok (.goto 200, 3) := by decide +kernel
theorem dX6_advance_73 : decode cX6_advance 73 = .ok (.aload_n 0, 1) := by decide +kernel
theorem dX6_advance_74 : decode cX6_advance 74 = .ok (.getfield 9, 3) := by decide +kernel
theorem dX6_advance_77 : decode cX6_advance 77 = .ok (.aload_n 0, 1) := by decide +kernel
theorem dX6_advance_78 : decode cX6_advance 78 = .ok (.getfield 23, 3) := by decide +kernel
theorem dX6_advance_81 : decode cX6_advance 81 = .ok (.baload, 1) := by decide +kernel
theorem dX6_advance_82 : decode cX6_advance 82 = .ok (.bipush 59, 2) := by decide +kernel
theorem dX6_advance_84 : decode cX6_advance 84 = .ok (.if_icmp .ne 21, 3) := by decide +kernel
theorem dX6_advance_87 : decode cX6_advance 87 = .ok (.aload_n 0, 1) := by decide +kernel
theorem dX6_advance_88 : decode cX6_advance 88 = .ok (.aload_n 0, 1) := by decide +kernel
theorem dX6_advance_89 : decode cX6_advance 89 = .ok (.getfield 23, 3) := by decide +kernel
theorem dX6_advance_92 : decode cX6_advance 92 = .ok (.iconst 1, 1) := by decide +kernel
theorem dX6_advance_93 : decode cX6_advance 93 = .ok (.iadd, 1) := by decide +kernel
theorem dX6_advance_94 : decode cX6_advance 94 = .ok (.putfield 26, 3) := by decide +kernel
theorem dX6_advance_97 : decode cX6_advance 97 = .ok (.aload_n 0, 1) := by decide +kernel
theorem dX6_advance_98 : decode cX6_advance 98 = .ok (.iconst 4, 1) := by decide +kernel
theorem dX6_advance_99 : decode cX6_advance 99 = .ok (.putfield 29, 3) := by decide +kernel
theorem dX6_advance_102 : decode cX6_advance 102 = .ok (.goto 168, 3) := by decide +kernel
theorem dX6_advance_105 : decode cX6_advance 105 = .ok (.aload_n 0, 1) := by decide +kernel
theorem dX6_advance_106 : decode cX6_advance 106 = .ok (.getfield 9, 3) := by decide +kernel
theorem dX6_advance_109 : decode cX6_advance 109 = .ok (.aload_n 0, 1) := by decide +kernel
theorem dX6_advance_110 : decode cX6_advance 110 = .ok (.getfield 23, 3) := by decide +kernel
theorem dX6_advance_113 : decode cX6_advance 113 = .ok (.baload, 1) := by decide +kernel
theorem dX6_advance_114 : decode cX6_advance 114 = .ok (.invokestatic 98, 3) := by decide +kernel
theorem dX6_advance_117 : decode cX6_advance 117 = .ok (.ifCond .eq 50, 3) := by decide +kernel
theorem dX6_advance_120 : decode cX6_advance 120 = .ok (.aload_n 0, 1) := by decide +kernel
theorem dX6_advance_121 : decode cX6_advance 121 = .ok (.getfield 26, 3) := by decide +kernel
theorem dX6_advance_124 : decode cX6_advance 124 = .ok (.aload_n 0, 1) := by decide +kernel
theorem dX6_advance_125 : decode cX6_advance 125 = .ok (.getfield 15, 3) := by decide +kernel
theorem dX6_advance_128 : decode cX6_advance 128 = .ok (.if_icmp .ge 31, 3) := by decide +kernel
theorem dX6_advance_131 : decode cX6_advance 131 = .ok (.aload_n 0, 1) := by decide +kernel
theorem dX6_advance_132 : decode cX6_advance 132 = .ok (.getfield 9, 3) := by decide +kernel
theorem dX6_advance_135 : decode cX6_advance 135 = .ok (.aload_n 0, 1) := by decide +kernel
theorem dX6_advance_136 : decode cX6_advance 136 = .ok (.getfield 26, 3) := by decide +kernel
theorem dX6_advance_139 : decode cX6_advance 139 = .ok (.baload, 1) := by decide +kernel
theorem dX6_advance_140 : decode cX6_advance 140 = .ok (.invokestatic 98, 3) := by decide +kernel
theorem dX6_advance_143 : decode cX6_advance 143 = .ok (.ifCond .eq 16, 3) := by decide +kernel
theorem dX6_advance_146 : decode cX6_advance 146 = .ok (.aload_n 0, 1) := by decide +kernel
theorem dX6_advance_147 : decode cX6_advance 147 = .ok (.dup, 1) := by decide +kernel
theorem dX6_advance_148 : decode cX6_advance 148 = .ok (.getfield 26, 3) := by decide +kernel
theorem dX6_advance_151 : decode cX6_advance 151 = .ok (.iconst 1, 1) := by decide +kernel
theorem dX6_advance_152 : decode cX6_advance 152 = .ok (.iadd, 1) := by decide +kernel
theorem dX6_advance_153 : decode cX6_advance 153 = .ok (.putfield 26, 3) := by decide +kernel
theorem dX6_advance_156 : decode cX6_advance 156 = .ok (.goto (-36), 3) := by decide +kernel
theorem dX6_advance_159 : decode cX6_advance 159 = .ok (.aload_n 0, 1) := by decide +kernel
theorem dX6_advance_160 : decode cX6_advance 160 = .ok (.iconst 2, 1) := by decide +kernel
theorem dX6_advance_161 : decode cX6_advance 161 = .ok (.putfield 29, 3) := by decide +kernel
theorem dX6_advance_164 : decode cX6_advance 164 = .ok (.goto 106, 3) := by decide +kernel
theorem dX6_advance_167 : decode cX6_advance 167 = .ok (.aload_n 0, 1) := by decide +kernel
theorem dX6_advance_168 : decode cX6_advance 168 = .ok (.iconst 0, 1) := by decide +kernel
theorem dX6_advance_169 : decode cX6_advance 169 = .ok (.putfield 32, 3) := by decide +kernel
theorem dX6_advance_172 : decode cX6_advance 172 = .ok (.aload_n 0, 1) := by decide +kernel
theorem dX6_advance_173 : decode cX6_advance 173 = .ok (.getfield 26, 3) := by decide +kernel
theorem dX6_advance_176 : decode cX6_advance 176 = .ok (.aload_n 0, 1) := by decide +kernel
theorem dX6_advance_177 : decode cX6_advance 177 = .ok (.getfield 15, 3) := by decide +kernel
theorem dX6_advance_180 : decode cX6_advance 180 = .ok (.if_icmp .ge 55, 3) := by decide +kernel
theorem dX6_advance_183 : decode cX6_advance 183 = .ok (.aload_n 0, 1) := by decide +kernel
theorem dX6_advance_184 : decode cX6_advance 184 = .ok (.getfield 9, 3) := by decide +kernel
theorem dX6_advance_187 : decode cX6_advance 187 = .ok (.aload_n 0, 1) := by decide +kernel
theorem dX6_advance_188 : decode cX6_advance 188 = .ok (.getfield 26, 3) := by decide +kernel
theorem dX6_advance_191 : decode cX6_advance 191 = .ok (.baload, 1) := by decide +kernel
theorem dX6_advance_192 : decode cX6_advance 192 = .ok (.invokestatic 102, 3) := by decide +kernel
theorem dX6_advance_195 : decode cX6_advance 195 = .ok (.ifCond .eq 40, 3) := by decide +kernel
theorem dX6_advance_198 : decode cX6_advance 198 = .ok (.aload_n 0, 1) := by decide +kernel
theorem dX6_advance_199 : decode cX6_advance 199 = .ok (.bipush 10, 2) := by decide +kernel
theorem dX6_advance_201 : decode cX6_advance 201 = .ok (.aload_n 0, 1) := by decide +kernel
theorem dX6_advance_202 : decode cX6_advance 202 = .ok (.getfield 32, 3) := by decide +kernel
theorem dX6_advance_205 : decode cX6_advance 205 = .ok (.imul, 1) := by decide +kernel
theorem dX6_advance_206 : decode cX6_advance 206 = .ok (.aload_n 0, 1) := by decide +kernel
theorem dX6_advance_207 : decode cX6_advance 207 = .ok (.getfield 9, 3) := by decide +kernel
theorem dX6_advance_210 : decode cX6_advance 210 = .ok (.aload_n 0, 1) := by decide +kernel
theorem dX6_advance_211 : decode cX6_advance 211 = .ok (.getfield 26, 3) := by decide +kernel
theorem dX6_advance_214 : decode cX6_advance 214 = .ok (.baload, 1) := by decide +kernel
theorem dX6_advance_215 : decode cX6_advance 215 = .ok (.iadd, 1) := by decide +kernel
theorem dX6_advance_216 : decode cX6_advance 216 = .ok (.bipush 48, 2) := by decide +kernel
theorem dX6_advance_218 : decode cX6_advance 218 = .ok (.isub, 1) := by decide +kernel
theorem dX6_advance_219 : decode cX6_advance 219 = .ok (.putfield 32, 3) := by decide +kernel
theorem dX6_advance_222 : decode cX6_advance 222 = .ok (.aload_n 0, 1) := by decide +kernel
theorem dX6_advance_223 : decode cX6_advance 223 = .ok (.dup, 1) := by decide +kernel
theorem dX6_advance_224 : decode cX6_advance 224 = .ok (.getfield 26, 3) := by decide +kernel
theorem dX6_advance_227 : decode cX6_advance 227 = .ok (.iconst 1, 1) := by decide +kernel
theorem dX6_advance_228 : decode cX6_advance 228 = .ok (.iadd, 1) := by decide +kernel
theorem dX6_advance_229 : decode cX6_advance 229 = .ok (.putfield 26, 3) := by decide +kernel
theorem dX6_advance_232 : decode cX6_advance 232 = .ok (.goto (-60), 3) := by decide +kernel
theorem dX6_advance_235 : decode cX6_advance 235 = .ok (.aload_n 0, 1) := by decide +kernel
theorem dX6_advance_236 : decode cX6_advance 236 = .ok (.aload_n 0, 1) := by decide +kernel
theorem dX6_advance_237 : decode cX6_advance 237 = .ok (.getfield 26, 3) := by decide +kernel
theorem dX6_advance_240 : decode cX6_advance 240 = .ok (.aload_n 0, 1) := by decide +kernel
theorem dX6_advance_241 : decode cX6_advance 241 = .ok (.getfield 23, 3) := by decide +kernel
theorem dX6_advance_244 : decode cX6_advance 244 = .ok (.isub, 1) := by decide +kernel
theorem dX6_advance_245 : decode cX6_advance 245 = .ok (.iconst 1, 1) := by decide +kernel
theorem dX6_advance_246 : decode cX6_advance 246 = .ok (.if_icmp .eq 16, 3) := by decide +kernel
theorem dX6_advance_249 : decode cX6_advance 249 = .ok (.aload_n 0, 1) := by decide +kernel
theorem dX6_advance_250 : decode cX6_advance 250 = .ok (.getfield 26, 3) := by decide +kernel
theorem dX6_advance_253 : decode cX6_advance 253 = .ok (.aload_n 0, 1) := by decide +kernel
theorem dX6_advance_254 : decode cX6_advance 254 = .ok (.getfield 23, 3) := by decide +kernel
theorem dX6_advance_257 : decode cX6_advance 257 = .ok (.isub, 1) := by decide +kernel
theorem dX6_advance_258 : decode cX6_advance 258 = .ok (.iconst 2, 1) := by decide +kernel
theorem dX6_advance_259 : decode cX6_advance 259 = .ok (.if_icmp .ne 7, 3) := by decide +kernel
theorem dX6_advance_262 : decode cX6_advance 262 = .ok (.iconst 3, 1) := by decide +kernel
theorem dX6_advance_263 : decode cX6_advance 263 = .ok (.goto 4, 3) := by decide +kernel
theorem dX6_advance_266 : decode cX6_advance 266 = .ok (.iconst 0, 1) := by decide +kernel
theorem dX6_advance_267 : decode cX6_advance 267 = .ok (.putfield 29, 3) := by decide +kernel
theorem dX6_advance_270 : decode cX6_advance 270 = .ok (.return_, 1) := by decide +kernel
theorem kX6_advance : zCV yX6_advance RX6 cX6_advance 1 none 0 := ⟨q2_100, qp3, q1_11, q2_101, rfl, by decide +kernel, by decide +kernel, by decide +kernel⟩
set_option maxHeartbeats 4000000 in
set_option maxRecDepth 100000 in
theorem c_X6_advance (l : Launch) (g : zG) (r : Nat) (tx : Nat) (tg : Nat) (ln : Nat) (pz : Nat) (st : Int32) (tk : Int32) (nu : Int32) (x9 : Nat) (d : Nat) (rr : Nat) (im : Nat) (lx : Int32) (ab : Int32) (be : Int32) (bd : Int32) (no : Int32) (fl : Int32) (tb : Nat → Int32) (ib : Nat → Option Nat) (bb : Nat → Int32) (X : va_W) (hln : ln ≤ 150) (hby : byOK bb ln) (htb : ∀ i, i < ln → tb i = bb i) (hpz : pz ≤ ln) : Met l yX6_advance (Cond.code yX6_advance cX6_advance 1 none :: TBL) { frames := 1, cells := 0, slots := 0, locals := 20 } (zPc [.ref r] g (rW r tx (nI ln) tg st (nI pz) tk nu ++ (xW g x9 d rr im tx lx ab be bd no fl tb ib ++ X))) (zQv g (fun ws => ∃ (e9 : Int32) (u9 : Int32), ws = rW r tx (nI ln) tg (nI (sk bb ln pz)) e9 (nI (ctk (kd bb ln (sk bb ln pz)))) u9 ++ (xW g x9 d rr im tx lx ab be bd no fl tb ib ++ X) ∧ rdK bb ln (sk bb ln pz) e9 u9)) 0 0 (zA (gz g)) := by
  refine z_start (by decide +kernel) rfl (Nat.le_of_ble_eq_true rfl) ?_
  intro p e s m args below meth c ls hE hr hnm hB hl
  have hl : lv_has ls 1 [(0, .ref r)] := hl
  revert hB
  generalize s.heap = H
  generalize ([] : List Loc) = locs
  intro hB
  refine lv_aload_n hE.x hE.b dX6_advance_0 rfl (lv_at hl 0 rfl) ?_
  refine lv_aload_n hE.x hE.b dX6_advance_1 rfl (lv_at hl 0 rfl) ?_
  refine z_get (v := .int (nI pz)) hE hB inX6 0 rfl rfl 4 (by decide) q2_76 (fun _ h9 => h9) rfl dX6_advance_2 ?_
  refine z_put (v := .int (nI pz)) (ty := .int) (ws' := rW r tx (nI ln) tg (nI pz) (nI pz) tk nu ++ (xW g x9 d rr im tx lx ab be bd no fl tb ib ++ X)) hE hB inX6 tyX6 tyX6_ok nmX6 0 rfl rfl 3 (by decide) q2_74 (fun _ h9 => h9) rfl (by decide +kernel) rfl rfl (Nat.le_of_ble_eq_true rfl) rfl dX6_advance_5 (fun H locs hB => ?_)
  have k46 : ∀ (t : Nat) (H : Heap) (locs : List Loc) (ls : Array Slot), (t ≤ ln) → ((sk bb ln pz) = t) → zB g s (rW r tx (nI ln) tg (nI t) (nI pz) tk nu ++ (xW g x9 d rr im tx lx ab be bd no fl tb ib ++ X)) H locs → lv_has ls 1 [(0, .ref r)] → W p l e { frames := 1, cells := 0, slots := 0, locals := 20 } s m args below meth c H locs 0 0 (MQ below (zQv g (fun ws => ∃ (e9 : Int32) (u9 : Int32), ws = rW r tx (nI ln) tg (nI (sk bb ln pz)) e9 (nI (ctk (kd bb ln (sk bb ln pz)))) u9 ++ (xW g x9 d rr im tx lx ab be bd no fl tb ib ++ X) ∧ rdK bb ln (sk bb ln pz) e9 u9)) args s 0 0 (zA (gz g))) (F0 m 46 ls []) := by
    intro t H locs ls htl hsk hB hl
    refine lv_aload_n hE.x hE.b dX6_advance_46 rfl (lv_at hl 0 rfl) ?_
    refine lv_aload_n hE.x hE.b dX6_advance_47 rfl (lv_at hl 0 rfl) ?_
    refine z_get (v := .int (nI t)) hE hB inX6 0 rfl rfl 3 (by decide) q2_74 (fun _ h9 => h9) rfl dX6_advance_48 ?_
    refine z_put (v := .int (nI t)) (ty := .int) (ws' := rW r tx (nI ln) tg (nI t) (nI t) tk nu ++ (xW g x9 d rr im tx lx ab be bd no fl tb ib ++ X)) hE hB inX6 tyX6 tyX6_ok nmX6 0 rfl rfl 4 (by decide) q2_76 (fun _ h9 => h9) rfl (by decide +kernel) rfl rfl (Nat.le_of_ble_eq_true rfl) rfl dX6_advance_51 (fun H locs hB => ?_)
    refine lv_aload_n hE.x hE.b dX6_advance_54 rfl (lv_at hl 0 rfl) ?_
    refine z_get (v := .int (nI t)) hE hB inX6 0 rfl rfl 3 (by decide) q2_74 (fun _ h9 => h9) rfl dX6_advance_55 ?_
    refine lv_aload_n hE.x hE.b dX6_advance_58 rfl (lv_at hl 0 rfl) ?_
    refine z_get (v := .int (nI ln)) hE hB inX6 0 rfl rfl 1 (by decide) q2_72 (fun _ h9 => h9) rfl dX6_advance_59 ?_
    refine z_lt (tgt := 73) (X := ((t : Nat) : Int)) (Y := ((ln : Nat) : Int)) hE dX6_advance_62 (by decide) (nI_toInt (n := t) (by omega)) (nI_toInt (n := ln) (by omega)) (fun c_1 => ?_) (fun c_1 => ?_)
    · have htn : t < ln := by omega
      refine lv_aload_n hE.x hE.b dX6_advance_73 rfl (lv_at hl 0 rfl) ?_
      refine z_get (v := .ref tx) hE hB inX6 0 rfl rfl 0 (by decide) q2_71 (fun _ h9 => h9) rfl dX6_advance_74 ?_
      refine lv_aload_n hE.x hE.b dX6_advance_77 rfl (lv_at hl 0 rfl) ?_
      refine z_get (v := .int (nI t)) hE hB inX6 0 rfl rfl 3 (by decide) q2_74 (fun _ h9 => h9) rfl dX6_advance_78 ?_
      refine z_bald (k := t) (f := tb) hE hB 2 rfl (by omega) (by decide) dX6_advance_81 ?_
      refine z_top (y := (bb t)) (htb _ (by omega)) ?_
      refine lv_bipush (v := (nI 59)) hE.x hE.b dX6_advance_82 rfl ?_
      refine lv_icmp_ne (tgt := 105) hE.x hE.b dX6_advance_84 (by decide) (fun c_2 => ?_) (fun c_2 => ?_)
      · refine lv_aload_n hE.x hE.b dX6_advance_105 rfl (lv_at hl 0 rfl) ?_
        refine z_get (v := .ref tx) hE hB inX6 0 rfl rfl 0 (by decide) q2_71 (fun _ h9 => h9) rfl dX6_advance_106 ?_
        refine lv_aload_n hE.x hE.b dX6_advance_109 rfl (lv_at hl 0 rfl) ?_
        refine z_get (v := .int (nI t)) hE hB inX6 0 rfl rfl 3 (by decide) q2_74 (fun _ h9 => h9) rfl dX6_advance_110 ?_
        refine z_bald (k := t) (f := tb) hE hB 2 rfl (by omega) (by decide) dX6_advance_113 ?_
        refine z_top (y := (bb t)) (htb _ (by omega)) ?_
        refine z_qi hB (z_cS hE hB (c_X6_isLetter l g (bb t) (rW r tx (nI ln) tg (nI t) (nI t) tk nu ++ (xW g x9 d rr im tx lx ab be bd no fl tb ib ++ X))) q2_102 kX6_isLetter ⟨rfl, rfl⟩ ⟨Nat.le_of_ble_eq_true rfl, Nat.le_of_ble_eq_true rfl⟩ rfl hl.1 rfl (Nat.le_of_ble_eq_true rfl) dX6_advance_114 ⟨Nat.le_of_ble_eq_true rfl, Nat.le_of_ble_eq_true rfl⟩) (fun r_3 w_4 H locs hw hB => ?_)
        obtain ⟨hr9, hw9⟩ := hw
        have hr9 := hr9.symm
        subst hr9
        have hw9 := hw9.symm
        subst hw9
        refine z_bf (b := (isSm (bb t))) (tgt := 167) hE dX6_advance_117 (by decide) (fun c_5 => ?_) (fun c_5 => ?_)
        · refine lv_aload_n hE.x hE.b dX6_advance_167 rfl (lv_at hl 0 rfl) ?_
          refine lv_iconst (v := nI 0) hE.x hE.b dX6_advance_168 rfl ?_
          refine z_put (v := .int (nI 0)) (ty := .int) (ws' := rW r tx (nI ln) tg (nI t) (nI t) tk (nI 0) ++ (xW g x9 d rr im tx lx ab be bd no fl tb ib ++ X)) hE hB inX6 tyX6 tyX6_ok nmX6 0 rfl rfl 6 (by decide) q2_78 (fun _ h9 => h9) rfl (by decide +kernel) rfl rfl (Nat.le_of_ble_eq_true rfl) rfl dX6_advance_169 (fun H locs hB => ?_)
          have k172 : ∀ (fu : Nat) (j : Nat) (v : Int32) (H : Heap) (locs : List Loc) (ls : Array Slot), ln - (t + j) < fu → (t + j ≤ ln) → (rn isFg bb ln t = j + rn isFg bb ln (t + j)) → (j ≤ 2 → v = nI (vlF bb t j)) → zB g s (rW r tx (nI ln) tg (nI t) (nI (t + j)) tk v ++ (xW g x9 d rr im tx lx ab be bd no fl tb ib ++ X)) H locs → lv_has ls 1 [(0, .ref r)] → W p l e { frames := 1, cells := 0, slots := 0, locals := 20 } s m args below meth c H locs 0 0 (MQ below (zQv g (fun ws => ∃ (e9 : Int32) (u9 : Int32), ws = rW r tx (nI ln) tg (nI (sk bb ln pz)) e9 (nI (ctk (kd bb ln (sk bb ln pz)))) u9 ++ (xW g x9 d rr im tx lx ab be bd no fl tb ib ++ X) ∧ rdK bb ln (sk bb ln pz) e9 u9)) args s 0 0 (zA (gz g))) (F0 m 172 ls []) := by
            intro fu
            induction fu with
            | zero => intro j v H locs ls hfu hj hrn hv hB hl; exact absurd hfu (Nat.not_lt_zero _)
            | succ fu ih172 =>
              intro j v H locs ls hfu hj hrn hv hB hl
              refine lv_aload_n hE.x hE.b dX6_advance_172 rfl (lv_at hl 0 rfl) ?_
              refine z_get (v := .int (nI (t + j))) hE hB inX6 0 rfl rfl 4 (by decide) q2_76 (fun _ h9 => h9) rfl dX6_advance_173 ?_
              refine lv_aload_n hE.x hE.b dX6_advance_176 rfl (lv_at hl 0 rfl) ?_
              refine z_get (v := .int (nI ln)) hE hB inX6 0 rfl rfl 1 (by decide) q2_72 (fun _ h9 => h9) rfl dX6_advance_177 ?_
              refine z_ge (tgt := 235) (X := (((t + j) : Nat) : Int)) (Y := ((ln : Nat) : Int)) hE dX6_advance_180 (by decide) (nI_toInt (n := (t + j)) (by omega)) (nI_toInt (n := ln) (by omega)) (fun c_6 => ?_) (fun c_6 => ?_)
              · refine lv_aload_n hE.x hE.b dX6_advance_235 rfl (lv_at hl 0 rfl) ?_
                refine lv_aload_n hE.x hE.b dX6_advance_236 rfl (lv_at hl 0 rfl) ?_
                refine z_get (v := .int (nI (t + j))) hE hB inX6 0 rfl rfl 4 (by decide) q2_76 (fun _ h9 => h9) rfl dX6_advance_237 ?_
                refine lv_aload_n hE.x hE.b dX6_advance_240 rfl (lv_at hl 0 rfl) ?_
                refine z_get (v := .int (nI t)) hE hB inX6 0 rfl rfl 3 (by decide) q2_74 (fun _ h9 => h9) rfl dX6_advance_241 ?_
                refine z_isubN hE (by omega) dX6_advance_244 ?_
                refine lv_iconst (v := nI 1) hE.x hE.b dX6_advance_245 rfl ?_
                refine z_eq (tgt := 262) (X := ((((t + j) - t) : Nat) : Int)) (Y := (1 : Int)) hE dX6_advance_246 (by decide) (nI_toInt (n := ((t + j) - t)) (by omega)) rfl (fun c_7 => ?_) (fun c_7 => ?_)
                · refine lv_iconst (v := nI 3) hE.x hE.b dX6_advance_262 rfl ?_
                  refine lv_goto (tgt := 267) hE.x hE.b dX6_advance_263 (by decide) ?_
                  refine z_put (v := .int (nI 3)) (ty := .int) (ws' := rW r tx (nI ln) tg (nI t) (nI (t + j)) (nI 3) v ++ (xW g x9 d rr im tx lx ab be bd no fl tb ib ++ X)) hE hB inX6 tyX6 tyX6_ok nmX6 0 rfl rfl 5 (by decide) q2_77 (fun _ h9 => h9) rfl (by decide +kernel) rfl rfl (Nat.le_of_ble_eq_true rfl) rfl dX6_advance_267 (fun H locs hB => ?_)
                  exact z_vret (ws := rW r tx (nI ln) tg (nI t) (nI (t + j)) (nI 3) v ++ (xW g x9 d rr im tx lx ab be bd no fl tb ib ++ X)) hE hB hr (⟨(nI (t + j)), v, by rw [hsk, (rd_num (b := bb) htn c_5 c_2 (rn_end hrn (Or.inl (by omega))) hv (nu := v)).1, if_pos (by omega)]; rfl, by rw [hsk]; exact (rd_num (b := bb) htn c_5 c_2 (rn_end hrn (Or.inl (by omega))) hv (nu := v)).2⟩) dX6_advance_270
                · refine lv_aload_n hE.x hE.b dX6_advance_249 rfl (lv_at hl 0 rfl) ?_
                  refine z_get (v := .int (nI (t + j))) hE hB inX6 0 rfl rfl 4 (by decide) q2_76 (fun _ h9 => h9) rfl dX6_advance_250 ?_
                  refine lv_aload_n hE.x hE.b dX6_advance_253 rfl (lv_at hl 0 rfl) ?_
                  refine z_get (v := .int (nI t)) hE hB inX6 0 rfl rfl 3 (by decide) q2_74 (fun _ h9 => h9) rfl dX6_advance_254 ?_
                  refine z_isubN hE (by omega) dX6_advance_257 ?_
                  refine lv_iconst (v := nI 2) hE.x hE.b dX6_advance_258 rfl ?_
                  refine z_ne (tgt := 266) (X := ((((t + j) - t) : Nat) : Int)) (Y := (2 : Int)) hE dX6_advance_259 (by decide) (nI_toInt (n := ((t + j) - t)) (by omega)) rfl (fun c_8 => ?_) (fun c_8 => ?_)
                  · refine lv_iconst (v := nI 0) hE.x hE.b dX6_advance_266 rfl ?_
                    refine z_put (v := .int (nI 0)) (ty := .int) (ws' := rW r tx (nI ln) tg (nI t) (nI (t + j)) (nI 0) v ++ (xW g x9 d rr im tx lx ab be bd no fl tb ib ++ X)) hE hB inX6 tyX6 tyX6_ok nmX6 0 rfl rfl 5 (by decide) q2_77 (fun _ h9 => h9) rfl (by decide +kernel) rfl rfl (Nat.le_of_ble_eq_true rfl) rfl dX6_advance_267 (fun H locs hB => ?_)
                    exact z_vret (ws := rW r tx (nI ln) tg (nI t) (nI (t + j)) (nI 0) v ++ (xW g x9 d rr im tx lx ab be bd no fl tb ib ++ X)) hE hB hr (⟨(nI (t + j)), v, by rw [hsk, (rd_num (b := bb) htn c_5 c_2 (rn_end hrn (Or.inl (by omega))) hv (nu := v)).1, if_neg (by omega)]; rfl, by rw [hsk]; exact (rd_num (b := bb) htn c_5 c_2 (rn_end hrn (Or.inl (by omega))) hv (nu := v)).2⟩) dX6_advance_270
                  · refine lv_iconst (v := nI 3) hE.x hE.b dX6_advance_262 rfl ?_
                    refine lv_goto (tgt := 267) hE.x hE.b dX6_advance_263 (by decide) ?_
                    refine z_put (v := .int (nI 3)) (ty := .int) (ws' := rW r tx (nI ln) tg (nI t) (nI (t + j)) (nI 3) v ++ (xW g x9 d rr im tx lx ab be bd no fl tb ib ++ X)) hE hB inX6 tyX6 tyX6_ok nmX6 0 rfl rfl 5 (by decide) q2_77 (fun _ h9 => h9) rfl (by decide +kernel) rfl rfl (Nat.le_of_ble_eq_true rfl) rfl dX6_advance_267 (fun H locs hB => ?_)
                    exact z_vret (ws := rW r tx (nI ln) tg (nI t) (nI (t + j)) (nI 3) v ++ (xW g x9 d rr im tx lx ab be bd no fl tb ib ++ X)) hE hB hr (⟨(nI (t + j)), v, by rw [hsk, (rd_num (b := bb) htn c_5 c_2 (rn_end hrn (Or.inl (by omega))) hv (nu := v)).1, if_pos (by omega)]; rfl, by rw [hsk]; exact (rd_num (b := bb) htn c_5 c_2 (rn_end hrn (Or.inl (by omega))) hv (nu := v)).2⟩) dX6_advance_270
              · refine lv_aload_n hE.x hE.b dX6_advance_183 rfl (lv_at hl 0 rfl) ?_
                refine z_get (v := .ref tx) hE hB inX6 0 rfl rfl 0 (by decide) q2_71 (fun _ h9 => h9) rfl dX6_advance_184 ?_
                refine lv_aload_n hE.x hE.b dX6_advance_187 rfl (lv_at hl 0 rfl) ?_
                refine z_get (v := .int (nI (t + j))) hE hB inX6 0 rfl rfl 4 (by decide) q2_76 (fun _ h9 => h9) rfl dX6_advance_188 ?_
                refine z_bald (k := (t + j)) (f := tb) hE hB 2 rfl (by omega) (by decide) dX6_advance_191 ?_
                refine z_top (y := (bb (t + j))) (htb _ (by omega)) ?_
                refine z_qi hB (z_cS hE hB (c_X6_isFigure l g (bb (t + j)) (rW r tx (nI ln) tg (nI t) (nI (t + j)) tk v ++ (xW g x9 d rr im tx lx ab be bd no fl tb ib ++ X))) q2_105 kX6_isFigure ⟨rfl, rfl⟩ ⟨Nat.le_of_ble_eq_true rfl, Nat.le_of_ble_eq_true rfl⟩ rfl hl.1 rfl (Nat.le_of_ble_eq_true rfl) dX6_advance_192 ⟨Nat.le_of_ble_eq_true rfl, Nat.le_of_ble_eq_true rfl⟩) (fun r_9 w_10 H locs hw hB => ?_)
                obtain ⟨hr9, hw9⟩ := hw
                have hr9 := hr9.symm
                subst hr9
                have hw9 := hw9.symm
                subst hw9
                refine z_bf (b := (isFg (bb (t + j)))) (tgt := 235) hE dX6_advance_195 (by decide) (fun c_11 => ?_) (fun c_11 => ?_)
                · refine lv_aload_n hE.x hE.b dX6_advance_235 rfl (lv_at hl 0 rfl) ?_
                  refine lv_aload_n hE.x hE.b dX6_advance_236 rfl (lv_at hl 0 rfl) ?_
                  refine z_get (v := .int (nI (t + j))) hE hB inX6 0 rfl rfl 4 (by decide) q2_76 (fun _ h9 => h9) rfl dX6_advance_237 ?_
                  refine lv_aload_n hE.x hE.b dX6_advance_240 rfl (lv_at hl 0 rfl) ?_
                  refine z_get (v := .int (nI t)) hE hB inX6 0 rfl rfl 3 (by decide) q2_74 (fun _ h9 => h9) rfl dX6_advance_241 ?_
                  refine z_isubN hE (by omega) dX6_advance_244 ?_
                  refine lv_iconst (v := nI 1) hE.x hE.b dX6_advance_245 rfl ?_
                  refine z_eq (tgt := 262) (X := ((((t + j) - t) : Nat) : Int)) (Y := (1 : Int)) hE dX6_advance_246 (by decide) (nI_toInt (n := ((t + j) - t)) (by omega)) rfl (fun c_12 => ?_) (fun c_12 => ?_)
                  · refine lv_iconst (v := nI 3) hE.x hE.b dX6_advance_262 rfl ?_
                    refine lv_goto (tgt := 267) hE.x hE.b dX6_advance_263 (by decide) ?_
                    refine z_put (v := .int (nI 3)) (ty := .int) (ws' := rW r tx (nI ln) tg (nI t) (nI (t + j)) (nI 3) v ++ (xW g x9 d rr im tx lx ab be bd no fl tb ib ++ X)) hE hB inX6 tyX6 tyX6_ok nmX6 0 rfl rfl 5 (by decide) q2_77 (fun _ h9 => h9) rfl (by decide +kernel) rfl rfl (Nat.le_of_ble_eq_true rfl) rfl dX6_advance_267 (fun H locs hB => ?_)
                    exact z_vret (ws := rW r tx (nI ln) tg (nI t) (nI (t + j)) (nI 3) v ++ (xW g x9 d rr im tx lx ab be bd no fl tb ib ++ X)) hE hB hr (⟨(nI (t + j)), v, by rw [hsk, (rd_num (b := bb) htn c_5 c_2 (rn_end hrn (Or.inr c_11)) hv (nu := v)).1, if_pos (by omega)]; rfl, by rw [hsk]; exact (rd_num (b := bb) htn c_5 c_2 (rn_end hrn (Or.inr c_11)) hv (nu := v)).2⟩) dX6_advance_270
                  · refine lv_aload_n hE.x hE.b dX6_advance_249 rfl (lv_at hl 0 rfl) ?_
                    refine z_get (v := .int (nI (t + j))) hE hB inX6 0 rfl rfl 4 (by decide) q2_76 (fun _ h9 => h9) rfl dX6_advance_250 ?_
                    refine lv_aload_n hE.x hE.b dX6_advance_253 rfl (lv_at hl 0 rfl) ?_
                    refine z_get (v := .int (nI t)) hE hB inX6 0 rfl rfl 3 (by decide) q2_74 (fun _ h9 => h9) rfl dX6_advance_254 ?_
                    refine z_isubN hE (by omega) dX6_advance_257 ?_
                    refine lv_iconst (v := nI 2) hE.x hE.b dX6_advance_258 rfl ?_
                    refine z_ne (tgt := 266) (X := ((((t + j) - t) : Nat) : Int)) (Y := (2 : Int)) hE dX6_advance_259 (by decide) (nI_toInt (n := ((t + j) - t)) (by omega)) rfl (fun c_13 => ?_) (fun c_13 => ?_)
                    · refine lv_iconst (v := nI 0) hE.x hE.b dX6_advance_266 rfl ?_
                      refine z_put (v := .int (nI 0)) (ty := .int) (ws' := rW r tx (nI ln) tg (nI t) (nI (t + j)) (nI 0) v ++ (xW g x9 d rr im tx lx ab be bd no fl tb ib ++ X)) hE hB inX6 tyX6 tyX6_ok nmX6 0 rfl rfl 5 (by decide) q2_77 (fun _ h9 => h9) rfl (by decide +kernel) rfl rfl (Nat.le_of_ble_eq_true rfl) rfl dX6_advance_267 (fun H locs hB => ?_)
                      exact z_vret (ws := rW r tx (nI ln) tg (nI t) (nI (t + j)) (nI 0) v ++ (xW g x9 d rr im tx lx ab be bd no fl tb ib ++ X)) hE hB hr (⟨(nI (t + j)), v, by rw [hsk, (rd_num (b := bb) htn c_5 c_2 (rn_end hrn (Or.inr c_11)) hv (nu := v)).1, if_neg (by omega)]; rfl, by rw [hsk]; exact (rd_num (b := bb) htn c_5 c_2 (rn_end hrn (Or.inr c_11)) hv (nu := v)).2⟩) dX6_advance_270
                    · refine lv_iconst (v := nI 3) hE.x hE.b dX6_advance_262 rfl ?_
                      refine lv_goto (tgt := 267) hE.x hE.b dX6_advance_263 (by decide) ?_
                      refine z_put (v := .int (nI 3)) (ty := .int) (ws' := rW r tx (nI ln) tg (nI t) (nI (t + j)) (nI 3) v ++ (xW g x9 d rr im tx lx ab be bd no fl tb ib ++ X)) hE hB inX6 tyX6 tyX6_ok nmX6 0 rfl rfl 5 (by decide) q2_77 (fun _ h9 => h9) rfl (by decide +kernel) rfl rfl (Nat.le_of_ble_eq_true rfl) rfl dX6_advance_267 (fun H locs hB => ?_)
                      exact z_vret (ws := rW r tx (nI ln) tg (nI t) (nI (t + j)) (nI 3) v ++ (xW g x9 d rr im tx lx ab be bd no fl tb ib ++ X)) hE hB hr (⟨(nI (t + j)), v, by rw [hsk, (rd_num (b := bb) htn c_5 c_2 (rn_end hrn (Or.inr c_11)) hv (nu := v)).1, if_pos (by omega)]; rfl, by rw [hsk]; exact (rd_num (b := bb) htn c_5 c_2 (rn_end hrn (Or.inr c_11)) hv (nu := v)).2⟩) dX6_advance_270
                · refine lv_aload_n hE.x hE.b dX6_advance_198 rfl (lv_at hl 0 rfl) ?_
                  refine lv_bipush (v := (nI 10)) hE.x hE.b dX6_advance_199 rfl ?_
                  refine lv_aload_n hE.x hE.b dX6_advance_201 rfl (lv_at hl 0 rfl) ?_
                  refine z_get (v := .int v) hE hB inX6 0 rfl rfl 6 (by decide) q2_78 (fun _ h9 => h9) rfl dX6_advance_202 ?_
                  refine lv_imul hE.x hE.b dX6_advance_205 ?_
                  refine lv_aload_n hE.x hE.b dX6_advance_206 rfl (lv_at hl 0 rfl) ?_
                  refine z_get (v := .ref tx) hE hB inX6 0 rfl rfl 0 (by decide) q2_71 (fun _ h9 => h9) rfl dX6_advance_207 ?_
                  refine lv_aload_n hE.x hE.b dX6_advance_210 rfl (lv_at hl 0 rfl) ?_
                  refine z_get (v := .int (nI (t + j))) hE hB inX6 0 rfl rfl 4 (by decide) q2_76 (fun _ h9 => h9) rfl dX6_advance_211 ?_
                  refine z_bald (k := (t + j)) (f := tb) hE hB 2 rfl (by omega) (by decide) dX6_advance_214 ?_
                  refine z_top (y := (bb (t + j))) (htb _ (by omega)) ?_
                  refine lv_iadd hE.x hE.b dX6_advance_215 ?_
                  refine lv_bipush (v := (nI 48)) hE.x hE.b dX6_advance_216 rfl ?_
                  refine lv_isub hE.x hE.b dX6_advance_218 ?_
                  refine z_put (v := .int ((((nI 10) * v) + (bb (t + j))) - (nI 48))) (ty := .int) (ws' := rW r tx (nI ln) tg (nI t) (nI (t + j)) tk ((((nI 10) * v) + (bb (t + j))) - (nI 48)) ++ (xW g x9 d rr im tx lx ab be bd no fl tb ib ++ X)) hE hB inX6 tyX6 tyX6_ok nmX6 0 rfl rfl 6 (by decide) q2_78 (fun _ h9 => h9) rfl (by decide +kernel) rfl rfl (Nat.le_of_ble_eq_true rfl) rfl dX6_advance_219 (fun H locs hB => ?_)
                  refine lv_aload_n hE.x hE.b dX6_advance_222 rfl (lv_at hl 0 rfl) ?_
                  refine lv_dup hE.x hE.b dX6_advance_223 rfl ?_
                  refine z_get (v := .int (nI (t + j))) hE hB inX6 0 rfl rfl 4 (by decide) q2_76 (fun _ h9 => h9) rfl dX6_advance_224 ?_
                  refine lv_iconst (v := nI 1) hE.x hE.b dX6_advance_227 rfl ?_
                  refine z_iaddN hE dX6_advance_228 ?_
                  refine z_put (v := .int (nI ((t + j) + 1))) (ty := .int) (ws' := rW r tx (nI ln) tg (nI t) (nI ((t + j) + 1)) tk ((((nI 10) * v) + (bb (t + j))) - (nI 48)) ++ (xW g x9 d rr im tx lx ab be bd no fl tb ib ++ X)) hE hB inX6 tyX6 tyX6_ok nmX6 0 rfl rfl 4 (by decide) q2_76 (fun _ h9 => h9) rfl (by decide +kernel) rfl rfl (Nat.le_of_ble_eq_true rfl) rfl dX6_advance_229 (fun H locs hB => ?_)
                  refine lv_goto (tgt := 172) hE.x hE.b dX6_advance_232 (by decide) ?_
                  exact ih172 (j + 1) ((((nI 10) * v) + (bb (t + j))) - (nI 48)) _ _ _ (by omega) (by omega) (rn_go hrn (by omega) c_11) (num_go hby hv (by omega) hrn c_11) hB hl
          exact k172 (ln - (t + 0) + 1) 0 (nI 0) _ _ _ (Nat.lt_succ_self _) (by omega) (by rw [Nat.zero_add]; rfl) (fun _ => rfl) hB hl
        · have k120 : ∀ (fu : Nat) (j : Nat) (H : Heap) (locs : List Loc) (ls : Array Slot), ln - (t + j) < fu → (t + j ≤ ln) → (rn isSm bb ln t = j + rn isSm bb ln (t + j)) → zB g s (rW r tx (nI ln) tg (nI t) (nI (t + j)) tk nu ++ (xW g x9 d rr im tx lx ab be bd no fl tb ib ++ X)) H locs → lv_has ls 1 [(0, .ref r)] → W p l e { frames := 1, cells := 0, slots := 0, locals := 20 } s m args below meth c H locs 0 0 (MQ below (zQv g (fun ws => ∃ (e9 : Int32) (u9 : Int32), ws = rW r tx (nI ln) tg (nI (sk bb ln pz)) e9 (nI (ctk (kd bb ln (sk bb ln pz)))) u9 ++ (xW g x9 d rr im tx lx ab be bd no fl tb ib ++ X) ∧ rdK bb ln (sk bb ln pz) e9 u9)) args s 0 0 (zA (gz g))) (F0 m 120 ls []) := by
            intro fu
            induction fu with
            | zero => intro j H locs ls hfu hj hrn hB hl; exact absurd hfu (Nat.not_lt_zero _)
            | succ fu ih120 =>
              intro j H locs ls hfu hj hrn hB hl
              refine lv_aload_n hE.x hE.b dX6_advance_120 rfl (lv_at hl 0 rfl) ?_
              refine z_get (v := .int (nI (t + j))) hE hB inX6 0 rfl rfl 4 (by decide) q2_76 (fun _ h9 => h9) rfl dX6_advance_121 ?_
              refine lv_aload_n hE.x hE.b dX6_advance_124 rfl (lv_at hl 0 rfl) ?_
              refine z_get (v := .int (nI ln)) hE hB inX6 0 rfl rfl 1 (by decide) q2_72 (fun _ h9 => h9) rfl dX6_advance_125 ?_
              refine z_ge (tgt := 159) (X := (((t + j) : Nat) : Int)) (Y := ((ln : Nat) : Int)) hE dX6_advance_128 (by decide) (nI_toInt (n := (t + j)) (by omega)) (nI_toInt (n := ln) (by omega)) (fun c_14 => ?_) (fun c_14 => ?_)
              · refine lv_aload_n hE.x hE.b dX6_advance_159 rfl (lv_at hl 0 rfl) ?_
                refine lv_iconst (v := nI 2) hE.x hE.b dX6_advance_160 rfl ?_
                refine z_put (v := .int (nI 2)) (ty := .int) (ws' := rW r tx (nI ln) tg (nI t) (nI (t + j)) (nI 2) nu ++ (xW g x9 d rr im tx lx ab be bd no fl tb ib ++ X)) hE hB inX6 tyX6 tyX6_ok nmX6 0 rfl rfl 5 (by decide) q2_77 (fun _ h9 => h9) rfl (by decide +kernel) rfl rfl (Nat.le_of_ble_eq_true rfl) rfl dX6_advance_161 (fun H locs hB => ?_)
                refine lv_goto (tgt := 270) hE.x hE.b dX6_advance_164 (by decide) ?_
                exact z_vret (ws := rW r tx (nI ln) tg (nI t) (nI (t + j)) (nI 2) nu ++ (xW g x9 d rr im tx lx ab be bd no fl tb ib ++ X)) hE hB hr (⟨(nI (t + j)), nu, by rw [hsk, (rd_word (b := bb) htn c_5 (rn_end hrn (Or.inl (by omega))) (nu := nu)).1]; rfl, by rw [hsk]; exact (rd_word (b := bb) htn c_5 (rn_end hrn (Or.inl (by omega))) (nu := nu)).2⟩) dX6_advance_270
              · refine lv_aload_n hE.x hE.b dX6_advance_131 rfl (lv_at hl 0 rfl) ?_
                refine z_get (v := .ref tx) hE hB inX6 0 rfl rfl 0 (by decide) q2_71 (fun _ h9 => h9) rfl dX6_advance_132 ?_
                refine lv_aload_n hE.x hE.b dX6_advance_135 rfl (lv_at hl 0 rfl) ?_
                refine z_get (v := .int (nI (t + j))) hE hB inX6 0 rfl rfl 4 (by decide) q2_76 (fun _ h9 => h9) rfl dX6_advance_136 ?_
                refine z_bald (k := (t + j)) (f := tb) hE hB 2 rfl (by omega) (by decide) dX6_advance_139 ?_
                refine z_top (y := (bb (t + j))) (htb _ (by omega)) ?_
                refine z_qi hB (z_cS hE hB (c_X6_isLetter l g (bb (t + j)) (rW r tx (nI ln) tg (nI t) (nI (t + j)) tk nu ++ (xW g x9 d rr im tx lx ab be bd no fl tb ib ++ X))) q2_102 kX6_isLetter ⟨rfl, rfl⟩ ⟨Nat.le_of_ble_eq_true rfl, Nat.le_of_ble_eq_true rfl⟩ rfl hl.1 rfl (Nat.le_of_ble_eq_true rfl) dX6_advance_140 ⟨Nat.le_of_ble_eq_true rfl, Nat.le_of_ble_eq_true rfl⟩) (fun r_15 w_16 H locs hw hB => ?_)
                obtain ⟨hr9, hw9⟩ := hw
                have hr9 := hr9.symm
                subst hr9
                have hw9 := hw9.symm
                subst hw9
                refine z_bf (b := (isSm (bb (t + j)))) (tgt := 159) hE dX6_advance_143 (by decide) (fun c_17 => ?_) (fun c_17 => ?_)
                · refine lv_aload_n hE.x hE.b dX6_advance_159 rfl (lv_at hl 0 rfl) ?_
                  refine lv_iconst (v := nI 2) hE.x hE.b dX6_advance_160 rfl ?_
                  refine z_put (v := .int (nI 2)) (ty := .int) (ws' := rW r tx (nI ln) tg (nI t) (nI (t + j)) (nI 2) nu ++ (xW g x9 d rr im tx lx ab be bd no fl tb ib ++ X)) hE hB inX6 tyX6 tyX6_ok nmX6 0 rfl rfl 5 (by decide) q2_77 (fun _ h9 => h9) rfl (by decide +kernel) rfl rfl (Nat.le_of_ble_eq_true rfl) rfl dX6_advance_161 (fun H locs hB => ?_)
                  refine lv_goto (tgt := 270) hE.x hE.b dX6_advance_164 (by decide) ?_
                  exact z_vret (ws := rW r tx (nI ln) tg (nI t) (nI (t + j)) (nI 2) nu ++ (xW g x9 d rr im tx lx ab be bd no fl tb ib ++ X)) hE hB hr (⟨(nI (t + j)), nu, by rw [hsk, (rd_word (b := bb) htn c_5 (rn_end hrn (Or.inr c_17)) (nu := nu)).1]; rfl, by rw [hsk]; exact (rd_word (b := bb) htn c_5 (rn_end hrn (Or.inr c_17)) (nu := nu)).2⟩) dX6_advance_270
                · refine lv_aload_n hE.x hE.b dX6_advance_146 rfl (lv_at hl 0 rfl) ?_
                  refine lv_dup hE.x hE.b dX6_advance_147 rfl ?_
                  refine z_get (v := .int (nI (t + j))) hE hB inX6 0 rfl rfl 4 (by decide) q2_76 (fun _ h9 => h9) rfl dX6_advance_148 ?_
                  refine lv_iconst (v := nI 1) hE.x hE.b dX6_advance_151 rfl ?_
                  refine z_iaddN hE dX6_advance_152 ?_
                  refine z_put (v := .int (nI ((t + j) + 1))) (ty := .int) (ws' := rW r tx (nI ln) tg (nI t) (nI ((t + j) + 1)) tk nu ++ (xW g x9 d rr im tx lx ab be bd no fl tb ib ++ X)) hE hB inX6 tyX6 tyX6_ok nmX6 0 rfl rfl 4 (by decide) q2_76 (fun _ h9 => h9) rfl (by decide +kernel) rfl rfl (Nat.le_of_ble_eq_true rfl) rfl dX6_advance_153 (fun H locs hB => ?_)
                  refine lv_goto (tgt := 120) hE.x hE.b dX6_advance_156 (by decide) ?_
                  exact ih120 (j + 1) _ _ _ (by omega) (by omega) (rn_go hrn (by omega) c_17) hB hl
          exact k120 (ln - (t + 0) + 1) 0 _ _ _ (Nat.lt_succ_self _) (by omega) (by rw [Nat.zero_add]; rfl) hB hl
      · refine lv_aload_n hE.x hE.b dX6_advance_87 rfl (lv_at hl 0 rfl) ?_
        refine lv_aload_n hE.x hE.b dX6_advance_88 rfl (lv_at hl 0 rfl) ?_
        refine z_get (v := .int (nI t)) hE hB inX6 0 rfl rfl 3 (by decide) q2_74 (fun _ h9 => h9) rfl dX6_advance_89 ?_
        refine lv_iconst (v := nI 1) hE.x hE.b dX6_advance_92 rfl ?_
        refine z_iaddN hE dX6_advance_93 ?_
        refine z_put (v := .int (nI (t + 1))) (ty := .int) (ws' := rW r tx (nI ln) tg (nI t) (nI (t + 1)) tk nu ++ (xW g x9 d rr im tx lx ab be bd no fl tb ib ++ X)) hE hB inX6 tyX6 tyX6_ok nmX6 0 rfl rfl 4 (by decide) q2_76 (fun _ h9 => h9) rfl (by decide +kernel) rfl rfl (Nat.le_of_ble_eq_true rfl) rfl dX6_advance_94 (fun H locs hB => ?_)
        refine lv_aload_n hE.x hE.b dX6_advance_97 rfl (lv_at hl 0 rfl) ?_
        refine lv_iconst (v := nI 4) hE.x hE.b dX6_advance_98 rfl ?_
        refine z_put (v := .int (nI 4)) (ty := .int) (ws' := rW r tx (nI ln) tg (nI t) (nI (t + 1)) (nI 4) nu ++ (xW g x9 d rr im tx lx ab be bd no fl tb ib ++ X)) hE hB inX6 tyX6 tyX6_ok nmX6 0 rfl rfl 5 (by decide) q2_77 (fun _ h9 => h9) rfl (by decide +kernel) rfl rfl (Nat.le_of_ble_eq_true rfl) rfl dX6_advance_99 (fun H locs hB => ?_)
        refine lv_goto (tgt := 270) hE.x hE.b dX6_advance_102 (by decide) ?_
        exact z_vret (ws := rW r tx (nI ln) tg (nI t) (nI (t + 1)) (nI 4) nu ++ (xW g x9 d rr im tx lx ab be bd no fl tb ib ++ X)) hE hB hr (⟨(nI (t + 1)), nu, by rw [hsk, (rd_semi (b := bb) htn c_2 (nu := nu)).1]; rfl, by rw [hsk]; exact (rd_semi (b := bb) htn c_2 (nu := nu)).2⟩) dX6_advance_270
    · refine lv_aload_n hE.x hE.b dX6_advance_65 rfl (lv_at hl 0 rfl) ?_
      refine lv_iconst (v := nI 1) hE.x hE.b dX6_advance_66 rfl ?_
      refine z_put (v := .int (nI 1)) (ty := .int) (ws' := rW r tx (nI ln) tg (nI t) (nI t) (nI 1) nu ++ (xW g x9 d rr im tx lx ab be bd no fl tb ib ++ X)) hE hB inX6 tyX6 tyX6_ok nmX6 0 rfl rfl 5 (by decide) q2_77 (fun _ h9 => h9) rfl (by decide +kernel) rfl rfl (Nat.le_of_ble_eq_true rfl) rfl dX6_advance_67 (fun H locs hB => ?_)
      refine lv_goto (tgt := 270) hE.x hE.b dX6_advance_70 (by decide) ?_
      exact z_vret (ws := rW r tx (nI ln) tg (nI t) (nI t) (nI 1) nu ++ (xW g x9 d rr im tx lx ab be bd no fl tb ib ++ X)) hE hB hr (⟨(nI t), nu, by rw [hsk, (rd_end (b := bb) (by omega) (nu := nu)).1]; rfl, by rw [hsk]; exact (rd_end (b := bb) (by omega) (nu := nu)).2⟩) dX6_advance_270
  have k8 : ∀ (fu : Nat) (t : Nat) (H : Heap) (locs : List Loc) (ls : Array Slot), ln - t < fu → (t ≤ ln) → ((sk bb ln pz) = sk bb ln t) → zB g s (rW r tx (nI ln) tg (nI t) (nI pz) tk nu ++ (xW g x9 d rr im tx lx ab be bd no fl tb ib ++ X)) H locs → lv_has ls 1 [(0, .ref r)] → W p l e { frames := 1, cells := 0, slots := 0, locals := 20 } s m args below meth c H locs 0 0 (MQ below (zQv g (fun ws => ∃ (e9 : Int32) (u9 : Int32), ws = rW r tx (nI ln) tg (nI (sk bb ln pz)) e9 (nI (ctk (kd bb ln (sk bb ln pz)))) u9 ++ (xW g x9 d rr im tx lx ab be bd no fl tb ib ++ X) ∧ rdK bb ln (sk bb ln pz) e9 u9)) args s 0 0 (zA (gz g))) (F0 m 8 ls []) := by
    intro fu
    induction fu with
    | zero => intro t H locs ls hfu htl hsk hB hl; exact absurd hfu (Nat.not_lt_zero _)
    | succ fu ih8 =>
      intro t H locs ls hfu htl hsk hB hl
      refine lv_aload_n hE.x hE.b dX6_advance_8 rfl (lv_at hl 0 rfl) ?_
      refine z_get (v := .int (nI t)) hE hB inX6 0 rfl rfl 3 (by decide) q2_74 (fun _ h9 => h9) rfl dX6_advance_9 ?_
      refine lv_aload_n hE.x hE.b dX6_advance_12 rfl (lv_at hl 0 rfl) ?_
      refine z_get (v := .int (nI ln)) hE hB inX6 0 rfl rfl 1 (by decide) q2_72 (fun _ h9 => h9) rfl dX6_advance_13 ?_
      refine z_ge (tgt := 46) (X := ((t : Nat) : Int)) (Y := ((ln : Nat) : Int)) hE dX6_advance_16 (by decide) (nI_toInt (n := t) (by omega)) (nI_toInt (n := ln) (by omega)) (fun c_18 => ?_) (fun c_18 => ?_)
      · exact k46 t _ _ _ (by omega) (hsk.trans (sk_no (fun z => by omega))) hB hl
      · refine lv_aload_n hE.x hE.b dX6_advance_19 rfl (lv_at hl 0 rfl) ?_
        refine z_get (v := .ref tx) hE hB inX6 0 rfl rfl 0 (by decide) q2_71 (fun _ h9 => h9) rfl dX6_advance_20 ?_
        refine lv_aload_n hE.x hE.b dX6_advance_23 rfl (lv_at hl 0 rfl) ?_
        refine z_get (v := .int (nI t)) hE hB inX6 0 rfl rfl 3 (by decide) q2_74 (fun _ h9 => h9) rfl dX6_advance_24 ?_
        refine z_bald (k := t) (f := tb) hE hB 2 rfl (by omega) (by decide) dX6_advance_27 ?_
        refine z_top (y := (bb t)) (htb _ (by omega)) ?_
        refine lv_bipush (v := (nI 32)) hE.x hE.b dX6_advance_28 rfl ?_
        refine lv_icmp_ne (tgt := 46) hE.x hE.b dX6_advance_30 (by decide) (fun c_19 => ?_) (fun c_19 => ?_)
        · exact k46 t _ _ _ (by omega) (hsk.trans (sk_no (fun z => c_19 z.2))) hB hl
        · refine lv_aload_n hE.x hE.b dX6_advance_33 rfl (lv_at hl 0 rfl) ?_
          refine lv_dup hE.x hE.b dX6_advance_34 rfl ?_
          refine z_get (v := .int (nI t)) hE hB inX6 0 rfl rfl 3 (by decide) q2_74 (fun _ h9 => h9) rfl dX6_advance_35 ?_
          refine lv_iconst (v := nI 1) hE.x hE.b dX6_advance_38 rfl ?_
          refine z_iaddN hE dX6_advance_39 ?_
          refine z_put (v := .int (nI (t + 1))) (ty := .int) (ws' := rW r tx (nI ln) tg (nI (t + 1)) (nI pz) tk nu ++ (xW g x9 d rr im tx lx ab be bd no fl tb ib ++ X)) hE hB inX6 tyX6 tyX6_ok nmX6 0 rfl rfl 3 (by decide) q2_74 (fun _ h9 => h9) rfl (by decide +kernel) rfl rfl (Nat.le_of_ble_eq_true rfl) rfl dX6_advance_40 (fun H locs hB => ?_)
          refine lv_goto (tgt := 8) hE.x hE.b dX6_advance_43 (by decide) ?_
          exact ih8 (t + 1) _ _ _ (by omega) (by omega) (hsk.trans (sk_yes (by omega) c_19)) hB hl
  exact k8 (ln - pz + 1) pz _ _ _ (Nat.lt_succ_self _) (by omega) rfl hB hl
