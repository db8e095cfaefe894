theorem dX4_shortenFrom_0 : decode cX4_shortenFrom 0 = .ok (.iconst 0, 1) := by decide +kernel
theorem dX4_shortenFrom_1 : decode cX4_shortenFrom 1 = .ok (.istore_n 2, 1) := by decide +kernel
theorem dX4_shortenFrom_2 : decode cX4_shortenFrom 2 = .ok (.iload_n 2, 1) := by decide +kernel
theorem dX4_shortenFrom_3 : decode cX4_shortenFrom 3 = .ok (.aload_n 0, 1) := by decide +kernel
theorem dX4_shortenFrom_4 : decode cX4_shortenFrom 4 = .ok (.getfield 39, 3) := by decide +kernel
theorem dX4_shortenFrom_7 : decode cX4_shortenFrom 7 = .ok (.if_icmp .ge 51, 3) := by decide +kernel
theorem dX4_shortenFrom_10 : decode cX4_shortenFrom 10 = .ok (.aload_n 0, 1) := by decide +kernel
theorem dX4_shortenFrom_11 : decode cX4_shortenFrom 11 = .ok (.iload_n 1, 1) := by decide +kernel
theorem dX4_shortenFrom_12 : decode cX4_shortenFrom 12 = .ok (.iload_n 2, 1) := by decide +kernel
theorem dX4_shortenFrom_13 : decode cX4_shortenFrom 13 = .ok (.invokevirtual 62, 3) := by decide +kernel
theorem dX4_shortenFrom_16 : decode cX4_shortenFrom 16 = .ok (.istore_n 3, 1) := by decide +kernel
theorem dX4_shortenFrom_17 : decode cX4_shortenFrom 17 = .ok (.iload_n 3, 1) := by decide +kernel
theorem dX4_shortenFrom_18 : decode cX4_shortenFrom 18 = .ok (.ifCond .le 34, 3) := by decide +kernel
theorem dX4_shortenFrom_21 : decode cX4_shortenFrom 21 = .ok (.aload_n 0, 1) := by decide +kernel
theorem dX4_shortenFrom_22 : decode cX4_shortenFrom 22 = .ok (.getfield 33, 3) := by decide +kernel
theorem dX4_shortenFrom_25 : decode cX4_shortenFrom 25 = .ok (.iload_n 1, 1) := by decide +kernel
theorem dX4_shortenFrom_26 : decode cX4_shortenFrom 26 = .ok (.iaload, 1) := by decide +kernel
theorem dX4_shortenFrom_27 : decode cX4_shortenFrom 27 = .ok (.iload_n 3, 1) := by decide +kernel
theorem dX4_shortenFrom_28 : decode cX4_shortenFrom 28 = .ok (.iadd, 1) := by decide +kernel
theorem dX4_shortenFrom_29 : decode cX4_shortenFrom 29 = .ok (.aload_n 0, 1) := by decide +kernel
theorem dX4_shortenFrom_30 : decode cX4_shortenFrom 30 = .ok (.getfield 33, 3) := by decide +kernel
theorem dX4_shortenFrom_33 : decode cX4_shortenFrom 33 = .ok (.iload_n 2, 1) := by decide +kernel
theorem dX4_shortenFrom_34 : decode cX4_shortenFrom 34 = .ok (.iaload, 1) := by decide +kernel
theorem dX4_shortenFrom_35 : decode cX4_shortenFrom 35 = .ok (.if_icmp .ge 17, 3) := by decide +kernel
theorem dX4_shortenFrom_38 : decode cX4_shortenFrom 38 = .ok (.aload_n 0, 1) := by decide +kernel
theorem dX4_shortenFrom_39 : decode cX4_shortenFrom 39 = .ok (.getfield 33, 3) := by decide +kernel
theorem dX4_shortenFrom_42 : decode cX4_shortenFrom 42 = .ok (.iload_n 2, 1) := by decide +kernel
theorem dX4_shortenFrom_43 : decode cX4_shortenFrom 43 = .ok (.aload_n 0, 1) := by decide +kernel
theorem dX4_shortenFrom_44 : decode cX4_shortenFrom 44 = .ok (.getfield 33, 3) := by decide +kernel
theorem dX4_shortenFrom_47 : decode cX4_shortenFrom 47 = .ok (.iload_n 1, 1) := by decide +kernel
theorem dX4_shortenFrom_48 : decode cX4_shortenFrom 48 = .ok (.iaload, 1) := by decide +kernel
theorem dX4_shortenFrom_49 : decode cX4_shortenFrom 49 = .ok (.iload_n 3, 1) := by decide +kernel
theorem dX4_shortenFrom_50 : decode cX4_shortenFrom 50 = .ok (.iadd, 1) := by decide +kernel
theorem dX4_shortenFrom_51 : decode cX4_shortenFrom 51 = .ok (.iastore, 1) := by decide +kernel
theorem dX4_shortenFrom_52 : decode cX4_shortenFrom 52 = .ok (.iinc 2 1, 3) := by decide +kernel
theorem dX4_shortenFrom_55 : decode cX4_shortenFrom 55 = .ok (.goto (-53), 3) := by decide +kernel
theorem dX4_shortenFrom_58 : decode cX4_shortenFrom 58 = .ok (.return_, 1) := by decide +kernel
theorem dX4_measure_0 : decode cX4_measure 0 = .ok (.iconst 0, 1) := by decide +kernel
theorem dX4_measure_1 : decode cX4_measure 1 = .ok (.istore_n 2, 1) := by decide +kernel
theorem dX4_measure_2 : decode cX4_measure 2 = .ok (.iload_n 2, 1) := by decide +kernel
theorem dX4_measure_3 : decode cX4_measure 3 = .ok (.bipush 6, 2) := by decide +kernel
theorem dX4_measure_5 : decode cX4_measure 5 = .ok (.if_icmp .ge 27, 3) := by decide +kernel
theorem dX4_measure_8 : decode cX4_measure 8 = .ok (.aload_n 0, 1) := by decide +kernel
theorem dX4_measure_9 : decode cX4_measure 9 = .ok (.getfield 33, 3) := by decide +kernel
theorem dX4_measure_12 : decode cX4_measure 12 = .ok (.iload_n 2, 1) := by decide +kernel
theorem dX4_measure_13 : decode cX4_measure 13 = .ok (.iload_n 2, 1) := by decide +kernel
theorem dX4_measure_14 : decode cX4_measure 14 = .ok (.iload_n 1, 1) := by decide +kernel
theorem dX4_measure_15 : decode cX4_measure 15 = .ok (.if_icmp .ne 7, 3) := by decide +kernel
theorem dX4_measure_18 : decode cX4_measure 18 = .ok (.iconst 0, 1) := by decide +kernel
theorem dX4_measure_19 : decode cX4_measure 19 = .ok (.goto 6, 3) := by decide +kernel
theorem dX4_measure_22 : decode cX4_measure 22 = .ok (.sipush 1000, 3) := by decide +kernel
theorem dX4_measure_25 : decode cX4_measure 25 = .ok (.iastore, 1) := by decide +kernel
theorem dX4_measure_26 : decode cX4_measure 26 = .ok (.iinc 2 1, 3) := by decide +kernel
theorem dX4_measure_29 : decode cX4_measure 29 = .ok (.goto (-27), 3) := by decide +kernel
theorem dX4_measure_32 : decode cX4_measure 32 = .ok (.iconst 1, 1) := by decide +kernel
theorem dX4_measure_33 : decode cX4_measure 33 = .ok (.istore_n 2, 1) := by decide +kernel
theorem dX4_measure_34 : decode cX4_measure 34 = .ok (.iload_n 2, 1) := by decide +kernel
theorem dX4_measure_35 : decode cX4_measure 35 = .ok (.aload_n 0, 1) := by decide +kernel
theorem dX4_measure_36 : decode cX4_measure 36 = .ok (.getfield 39, 3) := by decide +kernel
theorem dX4_measure_39 : decode cX4_measure 39 = .ok (.if_icmp .ge 30, 3) := by decide +kernel
theorem dX4_measure_42 : decode cX4_measure 42 = .ok (.iconst 0, 1) := by decide +kernel
theorem dX4_measure_43 : decode cX4_measure 43 = .ok (.istore_n 3, 1) := by decide +kernel
theorem dX4_measure_44 : decode cX4_measure 44 = .ok (.iload_n 3, 1) := by decide +kernel
theorem dX4_measure_45 : decode cX4_measure 45 = .ok (.aload_n 0, 1) := by decide +kernel
theorem dX4_measure_46 : decode cX4_measure 46 = .ok (.getfield 39, 3) := by decide +kernel
theorem dX4_measure_49 : decode cX4_measure 49 = .ok (.if_icmp .ge 14, 3) := by decide +kernel
theorem dX4_measure_52 : decode cX4_measure 52 = .ok (.aload_n 0, 1) := by decide +kernel
theorem dX4_measure_53 : decode cX4_measure 53 = .ok (.iload_n 3, 1) := by decide +kernel
theorem dX4_measure_54 : decode cX4_measure 54 = .ok (.invokevirtual 73, 3) := by decide +kernel
theorem dX4_measure_57 : decode cX4_measure 57 = .ok (.iinc 3 1, 3) := by decide +kernel
theorem dX4_measure_60 : decode cX4_measure 60 = .ok (.goto (-16), 3) := by decide +kernel
theorem dX4_measure_63 : decode cX4_measure 63 = .ok (.iinc 2 1, 3) := by decide +kernel
theorem dX4_measure_66 : decode cX4_measure 66 = .ok (.goto (-32), 3) := by decide +kernel
theorem dX4_measure_69 : decode cX4_measure 69 = .ok (.return_, 1) := by decide +kernel
theorem dX4_nearestThatAllows_0 : decode cX4_nearestThatAllows 0 = .ok (.iconst (-1), 1) := by decide +kernel
theorem dX4_nearestThatAllows_1 : decode cX4_nearestThatAllows 1 = .ok (.istore 5, 2) := by decide +kernel
theorem dX4_nearestThatAllows_3 : decode cX4_nearestThatAllows 3 = .ok (.iconst 0, 1) := by decide +kernel
theorem dX4_nearestThatAllows_4 : decode cX4_nearestThatAllows 4 = .ok (.istore 6, 2) := by decide +kernel
theorem dX4_nearestThatAllows_6 : decode cX4_nearestThatAllows 6 = .ok (.iload 6, 2) := by decide +kernel
theorem dX4_nearestThatAllows_8 : decode cX4_nearestThatAllows 8 = .ok (.aload_n 0, 1) := by decide +kernel
theorem dX4_nearestThatAllows_9 : decode cX4_nearestThatAllows 9 = .ok (.getfield 39, 3) := by decide +kernel
theorem dX4_nearestThatAllows_12 : decode cX4_nearestThatAllows 12 = .ok (.if_icmp .ge 60, 3) := by decide +kernel
theorem dX4_nearestThatAllows_15 : decode cX4_nearestThatAllows 15 = .ok (.aload_n 0, 1) := by decide +kernel
theorem dX4_nearestThatAllows_16 : decode cX4_nearestThatAllows 16 = .ok (.getfield 33, 3) := by decide +kernel
theorem dX4_nearestThatAllows_19 : decode cX4_nearestThatAllows 19 = .ok (.iload 6, 2) := by decide +kernel
theorem dX4_nearestThatAllows_21 : decode cX4_nearestThatAllows 21 = .ok (.iaload, 1) := by decide +kernel
theorem dX4_nearestThatAllows_22 : decode cX4_nearestThatAllows 22 = .ok (.iload 4, 2) := by decide +kernel
theorem dX4_nearestThatAllows_24 : decode cX4_nearestThatAllows 24 = .ok (.if_icmp .gt 42, 3) := by decide +kernel
theorem dX4_nearestThatAllows_27 : decode cX4_nearestThatAllows 27 = .ok (.iload 5, 2) := by decide +kernel
theorem dX4_nearestThatAllows_29 : decode cX4_nearestThatAllows 29 = .ok (.iconst (-1), 1) := by decide +kernel
theorem dX4_nearestThatAllows_30 : decode cX4_nearestThatAllows 30 = .ok (.if_icmp .eq 20, 3) := by decide +kernel
theorem dX4_nearestThatAllows_33 : decode cX4_nearestThatAllows 33 = .ok (.aload_n 0, 1) := by decide +kernel
theorem dX4_nearestThatAllows_34 : decode cX4_nearestThatAllows 34 = .ok (.getfield 33, 3) := by decide +kernel
theorem dX4_nearestThatAllows_37 : decode cX4_nearestThatAllows 37 = .ok (.iload 6, 2) := by decide +kernel
theorem dX4_nearestThatAllows_39 : decode cX4_nearestThatAllows 39 = .ok (.iaload, 1) := by decide +kernel
theorem dX4_nearestThatAllows_40 : decode cX4_nearestThatAllows 40 = .ok (.aload_n 0, 1) := by decide +kernel
theorem dX4_nearestThatAllows_41 : decode cX4_nearestThatAllows 41 = .ok (.getfield 33, 3) := by decide +kernel
theorem dX4_nearestThatAllows_44 : decode cX4_nearestThatAllows 44 = .ok (.iload 5, 2) := by decide +kernel
theorem dX4_nearestThatAllows_46 : decode cX4_nearestThatAllows 46 = .ok (.iaload, 1) := by decide +kernel
theorem dX4_nearestThatAllows_47 : decode cX4_nearestThatAllows 47 = .ok (.if_icmp .ge 19, 3) := by decide +kernel
theorem dX4_nearestThatAllows_50 : decode cX4_nearestThatAllows 50 = .ok (.aload_n 0, 1) := by decide +kernel
theorem dX4_nearestThatAllows_51 : decode cX4_nearestThatAllows 51 = .ok (.iload 6, 2) := by decide +kernel
theorem dX4_nearestThatAllows_53 : decode cX4_nearestThatAllows 53 = .ok (.iload_n 1, 1) := by decide +kernel
theorem dX4_nearestThatAllows_54 : decode cX4_nearestThatAllows 54 = .ok (.iload_n 2, 1) := by decide +kernel
theorem dX4_nearestThatAllows_55 : decode cX4_nearestThatAllows 55 = .ok (.iload_n 3, 1) := by decide +kernel
theorem dX4_nearestThatAllows_56 : decode cX4_nearestThatAllows 56 = .ok (.invokevirtual 69, 3) := by decide +kernel
theorem dX4_nearestThatAllows_59 : decode cX4_nearestThatAllows 59 = .ok (.ifCond .ne 7, 3) := by decide +kernel
theorem dX4_nearestThatAllows_62 : decode cX4_nearestThatAllows 62 = .ok (.iload 6, 2) := by decide +kernel
theorem dX4_nearestThatAllows_64 : decode cX4_nearestThatAllows 64 = .ok (.istore 5, 2) := by decide +kernel
theorem dX4_nearestThatAllows_66 : decode cX4_nearestThatAllows 66 = .ok (.iinc 6 1, 3) := by decide +kernel
theorem dX4_nearestThatAllows_69 : decode cX4_nearestThatAllows 69 = .ok (.goto (-63), 3) := by decide +kernel
theorem dX4_nearestThatAllows_72 : decode cX4_nearestThatAllows 72 = .ok (.iload 5, 2) := by decide +kernel
theorem dX4_nearestThatAllows_74 : decode cX4_nearestThatAllows 74 = .ok (.ireturn, 1) := by decide +kernel
theorem kX4_shortenFrom : zCV yX4_shortenFrom RX4 cX4_shortenFrom 4 none 1 := ⟨q2_235, qp11, q1_2, q2_236, rfl, by decide +kernel, by decide +kernel, by decide +kernel⟩
theorem kX4_measure : zCV yX4_measure RX4 cX4_measure 4 none 1 := ⟨q2_230, q2_231, q1_2, q2_232, rfl, by decide +kernel, by decide +kernel, by decide +kernel⟩
theorem kX4_nearestThatAllows : zCV yX4_nearestThatAllows RX4 cX4_nearestThatAllows 7 (some .int) 4 := ⟨q3_77, q3_78, q1_2, q3_79, rfl, by decide +kernel, by decide +kernel, by decide +kernel⟩
set_option maxHeartbeats 4000000 in
set_option maxRecDepth 100000 in
theorem c_X4_shortenFrom (l : Launch) (g : zG) (b : Nat) (a : Nat → Nat) (T : Nat) (C : Nat) (U : Nat) (V : Nat) (rd : Nat → Int32) (ro : Nat → Int32) (lw : Nat → Option Nat) (pl : Nat → Option Nat) (pc : Nat → Int32) (gv : Nat → Int32) (aw : Nat → Int32) (nt : Nat → Int32) (i : Nat) (dz : Nat → Nat) (n : Nat → Int32) (B : va_W) (X : va_W) (hn : nOK n T C V U) (hrel : relL n T C U V rd ro lw pl pc gv B) (hBX : ∀ x ∈ B, x ∈ X) (hi : i < T) (haw : ∀ x, x < 6 → aw x = nI (dz x)) (hle : ∀ x, dz x ≤ 1000) : Met l yX4_shortenFrom (Cond.code yX4_shortenFrom cX4_shortenFrom 4 none :: TBL) { frames := 1, cells := 0, slots := 0, locals := 22 } (zPc [.ref b, .int (nI i)] g (lW g b a (nI T) (nI C) (nI U) (nI V) rd ro lw pl pc gv aw nt ++ X)) (zQv g (fun ws => ∃ (f9 : Nat → Int32), ws = lW g b a (nI T) (nI C) (nI U) (nI V) rd ro lw pl pc gv f9 nt ++ X ∧ (∀ x, x < 6 → f9 x = nI (rB (rwE n) dz i T x)))) 0 0 (zA (gz g)) := by
  refine z_start (by decide +kernel) rfl (Nat.le_of_ble_eq_true rfl) ?_
  intro p e s m args below meth c ls hE hr hnm hB hl
  have hl : lv_has ls 4 [(0, .ref b), (1, .int (nI i))] := hl
  revert hB
  generalize s.heap = H
  generalize ([] : List Loc) = locs
  intro hB
  have hT6 := hn.T6
  have hC8 := hn.C8
  have hV8 := hn.V8
  have hU8 := hn.U8
  refine lv_iconst (v := nI 0) hE.x hE.b dX4_shortenFrom_0 rfl ?_
  refine lv_istore_n (lv' := [(2, .int (nI 0)), (0, .ref b), (1, .int (nI i))]) hE.x hE.b dX4_shortenFrom_1 rfl hl (by decide) rfl (fun ls hl => ?_)
  have k2 : ∀ (fu : Nat) (j : Nat) (f : Nat → Int32) (d : Nat → Nat) (H : Heap) (locs : List Loc) (ls : Array Slot), T - j < fu → (j ≤ T) → (d = rB (rwE n) dz i j) → (∀ x, d x ≤ 1000) → (∀ x, x < 6 → f x = nI (d x)) → zB g s (lW g b a (nI T) (nI C) (nI U) (nI V) rd ro lw pl pc gv f nt ++ X) H locs → lv_has ls 4 [(2, .int (nI j)), (0, .ref b), (1, .int (nI i))] → W p l e { frames := 1, cells := 0, slots := 0, locals := 22 } s m args below meth c H locs 0 0 (MQ below (zQv g (fun ws => ∃ (f9 : Nat → Int32), ws = lW g b a (nI T) (nI C) (nI U) (nI V) rd ro lw pl pc gv f9 nt ++ X ∧ (∀ x, x < 6 → f9 x = nI (rB (rwE n) dz i T x)))) args s 0 0 (zA (gz g))) (F0 m 2 ls []) := by
    intro fu
    induction fu with
    | zero => intro j f d H locs ls hfu hj hd hle hf hB hl; exact absurd hfu (Nat.not_lt_zero _)
    | succ fu ih2 =>
      intro j f d H locs ls hfu hj hd hle hf hB hl
      refine lv_iload_n hE.x hE.b dX4_shortenFrom_2 rfl (lv_at hl 0 rfl) ?_
      refine lv_aload_n hE.x hE.b dX4_shortenFrom_3 rfl (lv_at hl 1 rfl) ?_
      refine z_get (v := .int (nI T)) hE hB inX4 0 rfl rfl 0 (by decide) q1_33 (fun _ h9 => h9) rfl dX4_shortenFrom_4 ?_
      refine z_ge (tgt := 58) (X := ((j : Nat) : Int)) (Y := ((T : Nat) : Int)) hE dX4_shortenFrom_7 (by decide) (nI_toInt (n := j) (by omega)) (nI_toInt (n := T) (by omega)) (fun c_1 => ?_) (fun c_1 => ?_)
      · exact z_vret (ws := lW g b a (nI T) (nI C) (nI U) (nI V) rd ro lw pl pc gv f nt ++ X) hE hB hr (⟨f, rfl, by rw [show j = T by omega] at hd; rw [hd] at hf; exact hf⟩) dX4_shortenFrom_58
      · refine lv_aload_n hE.x hE.b dX4_shortenFrom_10 rfl (lv_at hl 1 rfl) ?_
        refine lv_iload_n hE.x hE.b dX4_shortenFrom_11 rfl (lv_at hl 2 rfl) ?_
        refine lv_iload_n hE.x hE.b dX4_shortenFrom_12 rfl (lv_at hl 0 rfl) ?_
        refine z_qi hB (z_cV hE hB (c_X4_roadDays l g b a T C U V rd ro lw pl pc gv f nt i j n B X hn hrel hBX (by omega) (by omega)) q2_237 kX4_roadDays ⟨rfl, rfl⟩ ⟨Nat.le_of_ble_eq_true rfl, Nat.le_of_ble_eq_true rfl⟩ 0 rfl rfl rfl hl.1 rfl (Nat.le_of_ble_eq_true rfl) dX4_shortenFrom_13 ⟨Nat.le_of_ble_eq_true rfl, Nat.le_of_ble_eq_true rfl⟩) (fun r_2 w_3 H locs hw hB => ?_)
        obtain ⟨hr9, hw9⟩ := hw
        have hr9 := hr9.symm
        subst hr9
        have hw9 := hw9.symm
        subst hw9
        refine lv_istore_n (lv' := [(3, .int (nI (rwE n (6 * i + j)))), (2, .int (nI j)), (0, .ref b), (1, .int (nI i))]) hE.x hE.b dX4_shortenFrom_16 rfl hl (by decide) rfl (fun ls hl => ?_)
        have hw9 := rwE_9 hn (i := 6 * i + j) (by omega)
        have hdi := hle i
        have hdj := hle j
        refine lv_iload_n hE.x hE.b dX4_shortenFrom_17 rfl (lv_at hl 0 rfl) ?_
        refine z_le0 (tgt := 52) (X := (((rwE n (6 * i + j)) : Nat) : Int)) hE dX4_shortenFrom_18 (by decide) (nI_toInt (n := (rwE n (6 * i + j))) (by omega)) (fun c_4 => ?_) (fun c_4 => ?_)
        · refine lv_iinc (v := (nI (j + 1))) (lv' := [(2, .int (nI (j + 1))), (3, .int (nI (rwE n (6 * i + j)))), (0, .ref b), (1, .int (nI i))]) hE.x hE.b dX4_shortenFrom_52 hl (k := 1) rfl (nI_add _ _) (by decide) rfl (fun ls hl => ?_)
          refine lv_goto (tgt := 2) hE.x hE.b dX4_shortenFrom_55 (by decide) ?_
          exact ih2 (j + 1) f (rl (rwE n) d i j) _ _ _ (by omega) (by omega) (by rw [hd]; rfl) (fun x => Nat.le_trans rl_le (hle x)) (rl_nn (by omega) hf) hB (lv_sub hl [0, 2, 3] rfl)
        · refine lv_aload_n hE.x hE.b dX4_shortenFrom_21 rfl (lv_at hl 2 rfl) ?_
          refine z_get (v := .ref (a 6)) hE hB inX4 0 rfl rfl 10 (by decide) q1_49 (fun _ h9 => h9) rfl dX4_shortenFrom_22 ?_
          refine lv_iload_n hE.x hE.b dX4_shortenFrom_25 rfl (lv_at hl 3 rfl) ?_
          refine z_iald (k := i) (f := f) hE hB 7 rfl (by omega) (by decide) dX4_shortenFrom_26 ?_
          refine z_top (y := (nI (d i))) (hf i (by omega)) ?_
          refine lv_iload_n hE.x hE.b dX4_shortenFrom_27 rfl (lv_at hl 0 rfl) ?_
          refine z_iaddN hE dX4_shortenFrom_28 ?_
          refine lv_aload_n hE.x hE.b dX4_shortenFrom_29 rfl (lv_at hl 2 rfl) ?_
          refine z_get (v := .ref (a 6)) hE hB inX4 0 rfl rfl 10 (by decide) q1_49 (fun _ h9 => h9) rfl dX4_shortenFrom_30 ?_
          refine lv_iload_n hE.x hE.b dX4_shortenFrom_33 rfl (lv_at hl 1 rfl) ?_
          refine z_iald (k := j) (f := f) hE hB 7 rfl (by omega) (by decide) dX4_shortenFrom_34 ?_
          refine z_top (y := (nI (d j))) (hf j (by omega)) ?_
          refine z_ge (tgt := 52) (X := ((((d i) + (rwE n (6 * i + j))) : Nat) : Int)) (Y := (((d j) : Nat) : Int)) hE dX4_shortenFrom_35 (by decide) (nI_toInt (n := ((d i) + (rwE n (6 * i + j)))) (by omega)) (nI_toInt (n := (d j)) (by omega)) (fun c_5 => ?_) (fun c_5 => ?_)
          · refine lv_iinc (v := (nI (j + 1))) (lv' := [(2, .int (nI (j + 1))), (3, .int (nI (rwE n (6 * i + j)))), (0, .ref b), (1, .int (nI i))]) hE.x hE.b dX4_shortenFrom_52 hl (k := 1) rfl (nI_add _ _) (by decide) rfl (fun ls hl => ?_)
            refine lv_goto (tgt := 2) hE.x hE.b dX4_shortenFrom_55 (by decide) ?_
            exact ih2 (j + 1) f (rl (rwE n) d i j) _ _ _ (by omega) (by omega) (by rw [hd]; rfl) (fun x => Nat.le_trans rl_le (hle x)) (rl_nn (by omega) hf) hB (lv_sub hl [0, 2, 3] rfl)
          · refine lv_aload_n hE.x hE.b dX4_shortenFrom_38 rfl (lv_at hl 2 rfl) ?_
            refine z_get (v := .ref (a 6)) hE hB inX4 0 rfl rfl 10 (by decide) q1_49 (fun _ h9 => h9) rfl dX4_shortenFrom_39 ?_
            refine lv_iload_n hE.x hE.b dX4_shortenFrom_42 rfl (lv_at hl 1 rfl) ?_
            refine lv_aload_n hE.x hE.b dX4_shortenFrom_43 rfl (lv_at hl 2 rfl) ?_
            refine z_get (v := .ref (a 6)) hE hB inX4 0 rfl rfl 10 (by decide) q1_49 (fun _ h9 => h9) rfl dX4_shortenFrom_44 ?_
            refine lv_iload_n hE.x hE.b dX4_shortenFrom_47 rfl (lv_at hl 3 rfl) ?_
            refine z_iald (k := i) (f := f) hE hB 7 rfl (by omega) (by decide) dX4_shortenFrom_48 ?_
            refine z_top (y := (nI (d i))) (hf i (by omega)) ?_
            refine lv_iload_n hE.x hE.b dX4_shortenFrom_49 rfl (lv_at hl 0 rfl) ?_
            refine z_iaddN hE dX4_shortenFrom_50 ?_
            refine z_iast (k := j) (f := f) (x := (nI ((d i) + (rwE n (6 * i + j))))) (ws' := lW g b a (nI T) (nI C) (nI U) (nI V) rd ro lw pl pc gv (upd f j (nI ((d i) + (rwE n (6 * i + j))))) nt ++ X) hE hB 7 rfl (by omega) (by decide) rfl dX4_shortenFrom_51 (fun H locs hB => ?_)
            refine lv_iinc (v := (nI (j + 1))) (lv' := [(2, .int (nI (j + 1))), (3, .int (nI (rwE n (6 * i + j)))), (0, .ref b), (1, .int (nI i))]) hE.x hE.b dX4_shortenFrom_52 hl (k := 1) rfl (nI_add _ _) (by decide) rfl (fun ls hl => ?_)
            refine lv_goto (tgt := 2) hE.x hE.b dX4_shortenFrom_55 (by decide) ?_
            exact ih2 (j + 1) (upd f j (nI ((d i) + (rwE n (6 * i + j))))) (rl (rwE n) d i j) _ _ _ (by omega) (by omega) (by rw [hd]; rfl) (fun x => Nat.le_trans rl_le (hle x)) (rl_yes (by omega) (by omega) hf) hB (lv_sub hl [0, 2, 3] rfl)
  exact k2 (T - 0 + 1) 0 aw dz _ _ _ (Nat.lt_succ_self _) (by omega) rfl hle haw hB hl

set_option maxHeartbeats 4000000 in
set_option maxRecDepth 100000 in
theorem c_X4_measure (l : Launch) (g : zG) (b : Nat) (a : Nat → Nat) (T : Nat) (C : Nat) (U : Nat) (V : Nat) (rd : Nat → Int32) (ro : Nat → Int32) (lw : Nat → Option Nat) (pl : Nat → Option Nat) (pc : Nat → Int32) (gv : Nat → Int32) (aw : Nat → Int32) (nt : Nat → Int32) (fr : Nat) (n : Nat → Int32) (B : va_W) (X : va_W) (hn : nOK n T C V U) (hrel : relL n T C U V rd ro lw pl pc gv B) (hBX : ∀ x ∈ B, x ∈ X) (hfr : fr < T) : Met l yX4_measure (Cond.code yX4_measure cX4_measure 4 none :: TBL) { frames := 2, cells := 0, slots := 0, locals := 45 } (zPc [.ref b, .int (nI fr)] g (lW g b a (nI T) (nI C) (nI U) (nI V) rd ro lw pl pc gv aw nt ++ X)) (zQv g (fun ws => ∃ (f9 : Nat → Int32), ws = lW g b a (nI T) (nI C) (nI U) (nI V) rd ro lw pl pc gv f9 nt ++ X ∧ (∀ x, x < 6 → f9 x = nI (fC n T fr x)))) 0 0 (zA (gz g)) := by
  refine z_start (by decide +kernel) rfl (Nat.le_of_ble_eq_true rfl) ?_
  intro p e s m args below meth c ls hE hr hnm hB hl
  have hl : lv_has ls 4 [(0, .ref b), (1, .int (nI fr))] := hl
  revert hB
  generalize s.heap = H
  generalize ([] : List Loc) = locs
  intro hB
  have hT6 := hn.T6
  have hC8 := hn.C8
  have hV8 := hn.V8
  have hU8 := hn.U8
  refine lv_iconst (v := nI 0) hE.x hE.b dX4_measure_0 rfl ?_
  refine lv_istore_n (lv' := [(2, .int (nI 0)), (0, .ref b), (1, .int (nI fr))]) hE.x hE.b dX4_measure_1 rfl hl (by decide) rfl (fun ls hl => ?_)
  have k2 : ∀ (fu : Nat) (t : Nat) (f : Nat → Int32) (H : Heap) (locs : List Loc) (ls : Array Slot), 6 - t < fu → (t ≤ 6) → (∀ x, x < t → f x = nI ((d0 fr 1000) x)) → zB g s (lW g b a (nI T) (nI C) (nI U) (nI V) rd ro lw pl pc gv f nt ++ X) H locs → lv_has ls 4 [(2, .int (nI t)), (0, .ref b), (1, .int (nI fr))] → W p l e { frames := 2, cells := 0, slots := 0, locals := 45 } s m args below meth c H locs 0 0 (MQ below (zQv g (fun ws => ∃ (f9 : Nat → Int32), ws = lW g b a (nI T) (nI C) (nI U) (nI V) rd ro lw pl pc gv f9 nt ++ X ∧ (∀ x, x < 6 → f9 x = nI (fC n T fr x)))) args s 0 0 (zA (gz g))) (F0 m 2 ls []) := by
    intro fu
    induction fu with
    | zero => intro t f H locs ls hfu ht hf hB hl; exact absurd hfu (Nat.not_lt_zero _)
    | succ fu ih2 =>
      intro t f H locs ls hfu ht hf hB hl
      refine lv_iload_n hE.x hE.b dX4_measure_2 rfl (lv_at hl 0 rfl) ?_
      refine lv_bipush (v := (nI 6)) hE.x hE.b dX4_measure_3 rfl ?_
      refine z_ge (tgt := 32) (X := ((t : Nat) : Int)) (Y := (6 : Int)) hE dX4_measure_5 (by decide) (nI_toInt (n := t) (by omega)) rfl (fun c_1 => ?_) (fun c_1 => ?_)
      · refine lv_iconst (v := nI 1) hE.x hE.b dX4_measure_32 rfl ?_
        refine lv_istore_n (lv' := [(2, .int (nI 1)), (0, .ref b), (1, .int (nI fr))]) hE.x hE.b dX4_measure_33 rfl hl (by decide) rfl (fun ls hl => ?_)
        have k34 : ∀ (fu : Nat) (tu : Nat) (f : Nat → Int32) (H : Heap) (locs : List Loc) (ls : Array Slot), T - tu < fu → (tu + 1 ≤ T) → (∀ x, x < 6 → f x = nI (rN (rwE n) T (d0 fr 1000) tu x)) → zB g s (lW g b a (nI T) (nI C) (nI U) (nI V) rd ro lw pl pc gv f nt ++ X) H locs → lv_has ls 4 [(2, .int (nI (tu + 1))), (0, .ref b), (1, .int (nI fr))] → W p l e { frames := 2, cells := 0, slots := 0, locals := 45 } s m args below meth c H locs 0 0 (MQ below (zQv g (fun ws => ∃ (f9 : Nat → Int32), ws = lW g b a (nI T) (nI C) (nI U) (nI V) rd ro lw pl pc gv f9 nt ++ X ∧ (∀ x, x < 6 → f9 x = nI (fC n T fr x)))) args s 0 0 (zA (gz g))) (F0 m 34 ls []) := by
          intro fu
          induction fu with
          | zero => intro tu f H locs ls hfu htu hf hB hl; exact absurd hfu (Nat.not_lt_zero _)
          | succ fu ih34 =>
            intro tu f H locs ls hfu htu hf hB hl
            refine lv_iload_n hE.x hE.b dX4_measure_34 rfl (lv_at hl 0 rfl) ?_
            refine lv_aload_n hE.x hE.b dX4_measure_35 rfl (lv_at hl 1 rfl) ?_
            refine z_get (v := .int (nI T)) hE hB inX4 0 rfl rfl 0 (by decide) q1_33 (fun _ h9 => h9) rfl dX4_measure_36 ?_
            refine z_ge (tgt := 69) (X := (((tu + 1) : Nat) : Int)) (Y := ((T : Nat) : Int)) hE dX4_measure_39 (by decide) (nI_toInt (n := (tu + 1)) (by omega)) (nI_toInt (n := T) (by omega)) (fun c_2 => ?_) (fun c_2 => ?_)
            · exact z_vret (ws := lW g b a (nI T) (nI C) (nI U) (nI V) rd ro lw pl pc gv f nt ++ X) hE hB hr (⟨f, rfl, by unfold fC; rw [show T - 1 = tu by omega]; exact hf⟩) dX4_measure_69
            · refine lv_iconst (v := nI 0) hE.x hE.b dX4_measure_42 rfl ?_
              refine lv_istore_n (lv' := [(3, .int (nI 0)), (2, .int (nI (tu + 1))), (0, .ref b), (1, .int (nI fr))]) hE.x hE.b dX4_measure_43 rfl hl (by decide) rfl (fun ls hl => ?_)
              have k44 : ∀ (fu : Nat) (i : Nat) (f : Nat → Int32) (H : Heap) (locs : List Loc) (ls : Array Slot), T - i < fu → (i ≤ T) → (∀ x, x < 6 → f x = nI (rA (rwE n) T (rN (rwE n) T (d0 fr 1000) tu) i x)) → zB g s (lW g b a (nI T) (nI C) (nI U) (nI V) rd ro lw pl pc gv f nt ++ X) H locs → lv_has ls 4 [(3, .int (nI i)), (2, .int (nI (tu + 1))), (0, .ref b), (1, .int (nI fr))] → W p l e { frames := 2, cells := 0, slots := 0, locals := 45 } s m args below meth c H locs 0 0 (MQ below (zQv g (fun ws => ∃ (f9 : Nat → Int32), ws = lW g b a (nI T) (nI C) (nI U) (nI V) rd ro lw pl pc gv f9 nt ++ X ∧ (∀ x, x < 6 → f9 x = nI (fC n T fr x)))) args s 0 0 (zA (gz g))) (F0 m 44 ls []) := by
                intro fu
                induction fu with
                | zero => intro i f H locs ls hfu hi hf hB hl; exact absurd hfu (Nat.not_lt_zero _)
                | succ fu ih44 =>
                  intro i f H locs ls hfu hi hf hB hl
                  refine lv_iload_n hE.x hE.b dX4_measure_44 rfl (lv_at hl 0 rfl) ?_
                  refine lv_aload_n hE.x hE.b dX4_measure_45 rfl (lv_at hl 2 rfl) ?_
                  refine z_get (v := .int (nI T)) hE hB inX4 0 rfl rfl 0 (by decide) q1_33 (fun _ h9 => h9) rfl dX4_measure_46 ?_
                  refine z_ge (tgt := 63) (X := ((i : Nat) : Int)) (Y := ((T : Nat) : Int)) hE dX4_measure_49 (by decide) (nI_toInt (n := i) (by omega)) (nI_toInt (n := T) (by omega)) (fun c_3 => ?_) (fun c_3 => ?_)
                  · refine lv_iinc (v := (nI ((tu + 1) + 1))) (lv' := [(2, .int (nI ((tu + 1) + 1))), (3, .int (nI i)), (0, .ref b), (1, .int (nI fr))]) hE.x hE.b dX4_measure_63 hl (k := 1) rfl (nI_add _ _) (by decide) rfl (fun ls hl => ?_)
                    refine lv_goto (tgt := 34) hE.x hE.b dX4_measure_66 (by decide) ?_
                    exact ih34 (tu + 1) f _ _ _ (by omega) (by omega) (by rw [show i = T by omega] at hf; exact hf) hB (lv_sub hl [0, 2, 3] rfl)
                  · refine lv_aload_n hE.x hE.b dX4_measure_52 rfl (lv_at hl 2 rfl) ?_
                    refine lv_iload_n hE.x hE.b dX4_measure_53 rfl (lv_at hl 0 rfl) ?_
                    refine z_qv hB (z_cV hE hB (c_X4_shortenFrom l g b a T C U V rd ro lw pl pc gv f nt i (rA (rwE n) T (rN (rwE n) T (d0 fr 1000) tu) i) n B X hn hrel hBX (by omega) hf (fun x => Nat.le_trans rA_le (Nat.le_trans rN_le d0_le))) q2_233 kX4_shortenFrom ⟨rfl, rfl⟩ ⟨Nat.le_of_ble_eq_true rfl, Nat.le_of_ble_eq_true rfl⟩ 0 rfl rfl rfl hl.1 rfl (Nat.le_of_ble_eq_true rfl) dX4_measure_54 ⟨Nat.le_of_ble_eq_true rfl, Nat.le_of_ble_eq_true rfl⟩) (fun w_5 H locs hw hB => ?_)
                    obtain ⟨f9_6, hw9, hf_7⟩ := hw
                    have hw9 := hw9.symm
                    subst hw9
                    refine lv_iinc (v := (nI (i + 1))) (lv' := [(3, .int (nI (i + 1))), (2, .int (nI (tu + 1))), (0, .ref b), (1, .int (nI fr))]) hE.x hE.b dX4_measure_57 hl (k := 0) rfl (nI_add _ _) (by decide) rfl (fun ls hl => ?_)
                    refine lv_goto (tgt := 44) hE.x hE.b dX4_measure_60 (by decide) ?_
                    exact ih44 (i + 1) f9_6 _ _ _ (by omega) (by omega) hf_7 hB hl
              exact k44 (T - 0 + 1) 0 f _ _ _ (Nat.lt_succ_self _) (by omega) hf hB hl
        exact k34 (T - 0 + 1) 0 f _ _ _ (Nat.lt_succ_self _) (by omega) (fun x hx => hf x (by omega)) hB hl
      · refine lv_aload_n hE.x hE.b dX4_measure_8 rfl (lv_at hl 1 rfl) ?_
        refine z_get (v := .ref (a 6)) hE hB inX4 0 rfl rfl 10 (by decide) q1_49 (fun _ h9 => h9) rfl dX4_measure_9 ?_
        refine lv_iload_n hE.x hE.b dX4_measure_12 rfl (lv_at hl 0 rfl) ?_
        refine lv_iload_n hE.x hE.b dX4_measure_13 rfl (lv_at hl 0 rfl) ?_
        refine lv_iload_n hE.x hE.b dX4_measure_14 rfl (lv_at hl 2 rfl) ?_
        refine z_ne (tgt := 22) (X := ((t : Nat) : Int)) (Y := ((fr : Nat) : Int)) hE dX4_measure_15 (by decide) (nI_toInt (n := t) (by omega)) (nI_toInt (n := fr) (by omega)) (fun c_8 => ?_) (fun c_8 => ?_)
        · refine lv_sipush (v := (nI 1000)) hE.x hE.b dX4_measure_22 rfl ?_
          refine z_iast (k := t) (f := f) (x := (nI 1000)) (ws' := lW g b a (nI T) (nI C) (nI U) (nI V) rd ro lw pl pc gv (upd f t (nI 1000)) nt ++ X) hE hB 7 rfl (by omega) (by decide) rfl dX4_measure_25 (fun H locs hB => ?_)
          refine lv_iinc (v := (nI (t + 1))) (lv' := [(2, .int (nI (t + 1))), (0, .ref b), (1, .int (nI fr))]) hE.x hE.b dX4_measure_26 hl (k := 0) rfl (nI_add _ _) (by decide) rfl (fun ls hl => ?_)
          refine lv_goto (tgt := 2) hE.x hE.b dX4_measure_29 (by decide) ?_
          exact ih2 (t + 1) (upd f t (nI 1000)) _ _ _ (by omega) (by omega) (d0_st (by unfold d0; rw [if_neg (by omega)]) hf) hB hl
        · refine lv_iconst (v := nI 0) hE.x hE.b dX4_measure_18 rfl ?_
          refine lv_goto (tgt := 25) hE.x hE.b dX4_measure_19 (by decide) ?_
          refine z_iast (k := t) (f := f) (x := (nI 0)) (ws' := lW g b a (nI T) (nI C) (nI U) (nI V) rd ro lw pl pc gv (upd f t (nI 0)) nt ++ X) hE hB 7 rfl (by omega) (by decide) rfl dX4_measure_25 (fun H locs hB => ?_)
          refine lv_iinc (v := (nI (t + 1))) (lv' := [(2, .int (nI (t + 1))), (0, .ref b), (1, .int (nI fr))]) hE.x hE.b dX4_measure_26 hl (k := 0) rfl (nI_add _ _) (by decide) rfl (fun ls hl => ?_)
          refine lv_goto (tgt := 2) hE.x hE.b dX4_measure_29 (by decide) ?_
          exact ih2 (t + 1) (upd f t (nI 0)) _ _ _ (by omega) (by omega) (d0_st (by unfold d0; rw [if_pos (by omega)]) hf) hB hl
  exact k2 (6 - 0 + 1) 0 aw _ _ _ (Nat.lt_succ_self _) (by omega) (fun x hx => absurd hx (Nat.not_lt_zero x)) hB hl

set_option maxHeartbeats 4000000 in
set_option maxRecDepth 100000 in
theorem c_X4_nearestThatAllows (l : Launch) (g : zG) (b : Nat) (a : Nat → Nat) (T : Nat) (C : Nat) (U : Nat) (V : Nat) (rd : Nat → Int32) (ro : Nat → Int32) (lw : Nat → Option Nat) (pl : Nat → Option Nat) (pc : Nat → Int32) (gv : Nat → Int32) (aw : Nat → Int32) (nt : Nat → Int32) (fr : Nat) (ac : Int32) (dd : Int32) (w : Nat) (mo : Nat) (n : Nat → Int32) (B : va_W) (X : va_W) (hn : nOK n T C V U) (hrel : relL n T C U V rd ro lw pl pc gv B) (hBX : ∀ x ∈ B, x ∈ X) (hfr : fr < T) (hw : w < 4) (hmo : mo ≤ 59) (haw : ∀ x, x < 6 → aw x = nI (fC n T fr x)) : Met l yX4_nearestThatAllows (Cond.code yX4_nearestThatAllows cX4_nearestThatAllows 7 (some .int) :: TBL) { frames := 4, cells := 0, slots := 0, locals := 92 } (zPc [.ref b, .int ac, .int dd, .int (nI w), .int (nI mo)] g (lW g b a (nI T) (nI C) (nI U) (nI V) rd ro lw pl pc gv aw nt ++ X)) (zQi g (fun r ws => r = (oI (nrT (fun t => isA n C t ac dd (nI (w / 2)) (nI (w % 2)) 0) (fD n T fr) mo T)) ∧ ws = lW g b a (nI T) (nI C) (nI U) (nI V) rd ro lw pl pc gv aw nt ++ X)) 0 0 (zA (gz g)) := by
  refine z_start (by decide +kernel) rfl (Nat.le_of_ble_eq_true rfl) ?_
  intro p e s m args below meth c ls hE hr hnm hB hl
  have hl : lv_has ls 7 [(0, .ref b), (1, .int ac), (2, .int dd), (3, .int (nI w)), (4, .int (nI mo))] := hl
  revert hB
  generalize s.heap = H
  generalize ([] : List Loc) = locs
  intro hB
  have hT6 := hn.T6
  have hC8 := hn.C8
  have hV8 := hn.V8
  have hU8 := hn.U8
  refine lv_iconst (v := (-1)) hE.x hE.b dX4_nearestThatAllows_0 rfl ?_
  refine lv_istore (lv' := [(5, .int (-1)), (0, .ref b), (1, .int ac), (2, .int dd), (3, .int (nI w)), (4, .int (nI mo))]) hE.x hE.b dX4_nearestThatAllows_1 hl (by decide) rfl (fun ls hl => ?_)
  refine lv_iconst (v := nI 0) hE.x hE.b dX4_nearestThatAllows_3 rfl ?_
  refine lv_istore (lv' := [(6, .int (nI 0)), (5, .int (-1)), (0, .ref b), (1, .int ac), (2, .int dd), (3, .int (nI w)), (4, .int (nI mo))]) hE.x hE.b dX4_nearestThatAllows_4 hl (by decide) rfl (fun ls hl => ?_)
  have k6 : ∀ (fu : Nat) (b9 : Option Nat) (k : Nat) (H : Heap) (locs : List Loc) (ls : Array Slot), T - k < fu → (k ≤ T) → (b9 = nrT (fun t => isA n C t ac dd (nI (w / 2)) (nI (w % 2)) 0) (fD n T fr) mo k) → zB g s (lW g b a (nI T) (nI C) (nI U) (nI V) rd ro lw pl pc gv aw nt ++ X) H locs → lv_has ls 7 [(6, .int (nI k)), (5, .int (oI b9)), (0, .ref b), (1, .int ac), (2, .int dd), (3, .int (nI w)), (4, .int (nI mo))] → W p l e { frames := 4, cells := 0, slots := 0, locals := 92 } s m args below meth c H locs 0 0 (MQ below (zQi g (fun r ws => r = (oI (nrT (fun t => isA n C t ac dd (nI (w / 2)) (nI (w % 2)) 0) (fD n T fr) mo T)) ∧ ws = lW g b a (nI T) (nI C) (nI U) (nI V) rd ro lw pl pc gv aw nt ++ X)) args s 0 0 (zA (gz g))) (F0 m 6 ls []) := by
    intro fu
    induction fu with
    | zero => intro b9 k H locs ls hfu hk hb hB hl; exact absurd hfu (Nat.not_lt_zero _)
    | succ fu ih6 =>
      intro b9 k H locs ls hfu hk hb hB hl
      refine lv_iload hE.x hE.b dX4_nearestThatAllows_6 (lv_at hl 0 rfl) ?_
      refine lv_aload_n hE.x hE.b dX4_nearestThatAllows_8 rfl (lv_at hl 2 rfl) ?_
      refine z_get (v := .int (nI T)) hE hB inX4 0 rfl rfl 0 (by decide) q1_33 (fun _ h9 => h9) rfl dX4_nearestThatAllows_9 ?_
      refine z_ge (tgt := 72) (X := ((k : Nat) : Int)) (Y := ((T : Nat) : Int)) hE dX4_nearestThatAllows_12 (by decide) (nI_toInt (n := k) (by omega)) (nI_toInt (n := T) (by omega)) (fun c_1 => ?_) (fun c_1 => ?_)
      · refine lv_iload hE.x hE.b dX4_nearestThatAllows_72 (lv_at hl 1 rfl) ?_
        exact z_iret (v := (oI b9)) (ws := lW g b a (nI T) (nI C) (nI U) (nI V) rd ro lw pl pc gv aw nt ++ X) hE hB hr (⟨by rw [hb, show k = T by omega], rfl⟩) dX4_nearestThatAllows_74
      · refine lv_aload_n hE.x hE.b dX4_nearestThatAllows_15 rfl (lv_at hl 2 rfl) ?_
        refine z_get (v := .ref (a 6)) hE hB inX4 0 rfl rfl 10 (by decide) q1_49 (fun _ h9 => h9) rfl dX4_nearestThatAllows_16 ?_
        refine lv_iload hE.x hE.b dX4_nearestThatAllows_19 (lv_at hl 0 rfl) ?_
        have hfk := fC_D hn hfr k
        refine z_iald (k := k) (f := aw) hE hB 7 rfl (by omega) (by decide) dX4_nearestThatAllows_21 ?_
        refine z_top (y := (nI (fC n T fr k))) (haw k (by omega)) ?_
        refine lv_iload hE.x hE.b dX4_nearestThatAllows_22 (lv_at hl 6 rfl) ?_
        refine z_gt (tgt := 66) (X := (((fC n T fr k) : Nat) : Int)) (Y := ((mo : Nat) : Int)) hE dX4_nearestThatAllows_24 (by decide) (nI_toInt (n := (fC n T fr k)) (by omega)) (nI_toInt (n := mo) (by omega)) (fun c_2 => ?_) (fun c_2 => ?_)
        · refine lv_iinc (v := (nI (k + 1))) (lv' := [(6, .int (nI (k + 1))), (5, .int (oI b9)), (0, .ref b), (1, .int ac), (2, .int dd), (3, .int (nI w)), (4, .int (nI mo))]) hE.x hE.b dX4_nearestThatAllows_66 hl (k := 0) rfl (nI_add _ _) (by decide) rfl (fun ls hl => ?_)
          refine lv_goto (tgt := 6) hE.x hE.b dX4_nearestThatAllows_69 (by decide) ?_
          exact ih6 b9 (k + 1) _ _ _ (by omega) (by omega) (nrT_no hb (Or.inl (fun z => absurd z.1 (by omega)))) hB hl
        · refine lv_iload hE.x hE.b dX4_nearestThatAllows_27 (lv_at hl 1 rfl) ?_
          refine lv_iconst (v := (-1)) hE.x hE.b dX4_nearestThatAllows_29 rfl ?_
          refine lv_icmp_eq (tgt := 50) hE.x hE.b dX4_nearestThatAllows_30 (by decide) (fun c_3 => ?_) (fun c_3 => ?_)
          · refine lv_aload_n hE.x hE.b dX4_nearestThatAllows_50 rfl (lv_at hl 2 rfl) ?_
            refine lv_iload hE.x hE.b dX4_nearestThatAllows_51 (lv_at hl 0 rfl) ?_
            refine lv_iload_n hE.x hE.b dX4_nearestThatAllows_53 rfl (lv_at hl 3 rfl) ?_
            refine lv_iload_n hE.x hE.b dX4_nearestThatAllows_54 rfl (lv_at hl 4 rfl) ?_
            refine lv_iload_n hE.x hE.b dX4_nearestThatAllows_55 rfl (lv_at hl 5 rfl) ?_
            refine z_qi hB (z_cV hE hB (c_X4_forbids l g b a T C U V rd ro lw pl pc gv aw nt k ac dd w n B X hn hrel hBX (by omega) (by omega)) q3_80 kX4_forbids ⟨rfl, rfl⟩ ⟨Nat.le_of_ble_eq_true rfl, Nat.le_of_ble_eq_true rfl⟩ 0 rfl rfl rfl hl.1 rfl (Nat.le_of_ble_eq_true rfl) dX4_nearestThatAllows_56 ⟨Nat.le_of_ble_eq_true rfl, Nat.le_of_ble_eq_true rfl⟩) (fun r_4 w_5 H locs hw hB => ?_)
            obtain ⟨hr9, hw9⟩ := hw
            have hr9 := hr9.symm
            subst hr9
            have hw9 := hw9.symm
            subst hw9
            refine z_bt (b := (!isA n C k ac dd (nI (w / 2)) (nI (w % 2)) 0)) (tgt := 66) hE dX4_nearestThatAllows_59 (by decide) (fun c_6 => ?_) (fun c_6 => ?_)
            · refine lv_iinc (v := (nI (k + 1))) (lv' := [(6, .int (nI (k + 1))), (5, .int (oI b9)), (0, .ref b), (1, .int ac), (2, .int dd), (3, .int (nI w)), (4, .int (nI mo))]) hE.x hE.b dX4_nearestThatAllows_66 hl (k := 0) rfl (nI_add _ _) (by decide) rfl (fun ls hl => ?_)
              refine lv_goto (tgt := 6) hE.x hE.b dX4_nearestThatAllows_69 (by decide) ?_
              exact ih6 b9 (k + 1) _ _ _ (by omega) (by omega) (nrT_no hb (Or.inr (by simpa using c_6))) hB hl
            · refine lv_iload hE.x hE.b dX4_nearestThatAllows_62 (lv_at hl 0 rfl) ?_
              refine lv_istore (lv' := [(5, .int (nI k)), (6, .int (nI k)), (0, .ref b), (1, .int ac), (2, .int dd), (3, .int (nI w)), (4, .int (nI mo))]) hE.x hE.b dX4_nearestThatAllows_64 hl (by decide) rfl (fun ls hl => ?_)
              refine lv_iinc (v := (nI (k + 1))) (lv' := [(6, .int (nI (k + 1))), (5, .int (nI k)), (0, .ref b), (1, .int ac), (2, .int dd), (3, .int (nI w)), (4, .int (nI mo))]) hE.x hE.b dX4_nearestThatAllows_66 hl (k := 1) rfl (nI_add _ _) (by decide) rfl (fun ls hl => ?_)
              refine lv_goto (tgt := 6) hE.x hE.b dX4_nearestThatAllows_69 (by decide) ?_
              exact ih6 (some k) (k + 1) _ _ _ (by omega) (by omega) (nrT_yes hb ⟨by omega, (fun q hq => by rw [oI_none c_3 (fun q hq => by have := nrT_lt (hb.symm.trans hq); omega)] at hq; cases hq)⟩ (by simpa using c_6)) hB hl
          · obtain ⟨q, rfl⟩ := oI_some c_3
            have hqk := nrT_lt hb.symm
            have hl : lv_has ls 7 [(6, .int (nI k)), (5, .int (nI q)), (0, .ref b), (1, .int ac), (2, .int dd), (3, .int (nI w)), (4, .int (nI mo))] := hl
            have hfq := fC_D hn hfr q
            refine lv_aload_n hE.x hE.b dX4_nearestThatAllows_33 rfl (lv_at hl 2 rfl) ?_
            refine z_get (v := .ref (a 6)) hE hB inX4 0 rfl rfl 10 (by decide) q1_49 (fun _ h9 => h9) rfl dX4_nearestThatAllows_34 ?_
            refine lv_iload hE.x hE.b dX4_nearestThatAllows_37 (lv_at hl 0 rfl) ?_
            refine z_iald (k := k) (f := aw) hE hB 7 rfl (by omega) (by decide) dX4_nearestThatAllows_39 ?_
            refine z_top (y := (nI (fC n T fr k))) (haw k (by omega)) ?_
            refine lv_aload_n hE.x hE.b dX4_nearestThatAllows_40 rfl (lv_at hl 2 rfl) ?_
            refine z_get (v := .ref (a 6)) hE hB inX4 0 rfl rfl 10 (by decide) q1_49 (fun _ h9 => h9) rfl dX4_nearestThatAllows_41 ?_
            refine lv_iload hE.x hE.b dX4_nearestThatAllows_44 (lv_at hl 1 rfl) ?_
            refine z_iald (k := q) (f := aw) hE hB 7 rfl (by omega) (by decide) dX4_nearestThatAllows_46 ?_
            refine z_top (y := (nI (fC n T fr q))) (haw q (by omega)) ?_
            refine z_ge (tgt := 66) (X := (((fC n T fr k) : Nat) : Int)) (Y := (((fC n T fr q) : Nat) : Int)) hE dX4_nearestThatAllows_47 (by decide) (nI_toInt (n := (fC n T fr k)) (by omega)) (nI_toInt (n := (fC n T fr q)) (by omega)) (fun c_7 => ?_) (fun c_7 => ?_)
            · refine lv_iinc (v := (nI (k + 1))) (lv' := [(6, .int (nI (k + 1))), (5, .int (nI q)), (0, .ref b), (1, .int ac), (2, .int dd), (3, .int (nI w)), (4, .int (nI mo))]) hE.x hE.b dX4_nearestThatAllows_66 hl (k := 0) rfl (nI_add _ _) (by decide) rfl (fun ls hl => ?_)
              refine lv_goto (tgt := 6) hE.x hE.b dX4_nearestThatAllows_69 (by decide) ?_
              exact ih6 (some q) (k + 1) _ _ _ (by omega) (by omega) (nrT_no hb (Or.inl (fun z => absurd (z.2 q rfl) (by omega)))) hB hl
            · refine lv_aload_n hE.x hE.b dX4_nearestThatAllows_50 rfl (lv_at hl 2 rfl) ?_
              refine lv_iload hE.x hE.b dX4_nearestThatAllows_51 (lv_at hl 0 rfl) ?_
              refine lv_iload_n hE.x hE.b dX4_nearestThatAllows_53 rfl (lv_at hl 3 rfl) ?_
              refine lv_iload_n hE.x hE.b dX4_nearestThatAllows_54 rfl (lv_at hl 4 rfl) ?_
              refine lv_iload_n hE.x hE.b dX4_nearestThatAllows_55 rfl (lv_at hl 5 rfl) ?_
              refine z_qi hB (z_cV hE hB (c_X4_forbids l g b a T C U V rd ro lw pl pc gv aw nt k ac dd w n B X hn hrel hBX (by omega) (by omega)) q3_80 kX4_forbids ⟨rfl, rfl⟩ ⟨Nat.le_of_ble_eq_true rfl, Nat.le_of_ble_eq_true rfl⟩ 0 rfl rfl rfl hl.1 rfl (Nat.le_of_ble_eq_true rfl) dX4_nearestThatAllows_56 ⟨Nat.le_of_ble_eq_true rfl, Nat.le_of_ble_eq_true rfl⟩) (fun r_8 w_9 H locs hw hB => ?_)
              obtain ⟨hr9, hw9⟩ := hw
              have hr9 := hr9.symm
              subst hr9
              have hw9 := hw9.symm
              subst hw9
              refine z_bt (b := (!isA n C k ac dd (nI (w / 2)) (nI (w % 2)) 0)) (tgt := 66) hE dX4_nearestThatAllows_59 (by decide) (fun c_10 => ?_) (fun c_10 => ?_)
              · refine lv_iinc (v := (nI (k + 1))) (lv' := [(6, .int (nI (k + 1))), (5, .int (nI q)), (0, .ref b), (1, .int ac), (2, .int dd), (3, .int (nI w)), (4, .int (nI mo))]) hE.x hE.b dX4_nearestThatAllows_66 hl (k := 0) rfl (nI_add _ _) (by decide) rfl (fun ls hl => ?_)
                refine lv_goto (tgt := 6) hE.x hE.b dX4_nearestThatAllows_69 (by decide) ?_
                exact ih6 (some q) (k + 1) _ _ _ (by omega) (by omega) (nrT_no hb (Or.inr (by simpa using c_10))) hB hl
              · refine lv_iload hE.x hE.b dX4_nearestThatAllows_62 (lv_at hl 0 rfl) ?_
                refine lv_istore (lv' := [(5, .int (nI k)), (6, .int (nI k)), (0, .ref b), (1, .int ac), (2, .int dd), (3, .int (nI w)), (4, .int (nI mo))]) hE.x hE.b dX4_nearestThatAllows_64 hl (by decide) rfl (fun ls hl => ?_)
                refine lv_iinc (v := (nI (k + 1))) (lv' := [(6, .int (nI (k + 1))), (5, .int (nI k)), (0, .ref b), (1, .int ac), (2, .int dd), (3, .int (nI w)), (4, .int (nI mo))]) hE.x hE.b dX4_nearestThatAllows_66 hl (k := 1) rfl (nI_add _ _) (by decide) rfl (fun ls hl => ?_)
                refine lv_goto (tgt := 6) hE.x hE.b dX4_nearestThatAllows_69 (by decide) ?_
                exact ih6 (some k) (k + 1) _ _ _ (by omega) (by omega) (nrT_yes hb ⟨by omega, (fun q2 hq2 => by cases hq2; omega)⟩ (by simpa using c_10)) hB hl
  exact k6 (T - 0 + 1) none 0 _ _ _ (Nat.lt_succ_self _) (by omega) rfl hB hl
