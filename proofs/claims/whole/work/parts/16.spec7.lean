def lvOK (T : Nat) (tw ac dd dy sh : Int32) : Bool := askOK T tw ac dd dy sh
def nLv (n : Nat → Int32) (V : Nat) (tw ac dd dy sh : Int32) : Nat → Int32 := upd (upd (upd (upd (upd (upd n (86 + 5 * V) tw) (86 + 5 * V + 1) ac) (86 + 5 * V + 2) dd) (86 + 5 * V + 3) dy) (86 + 5 * V + 4) sh) 2 (nI (V + 1))
def leaveR (T V : Nat) (tw ac dd dy sh : Int32) : Int32 := if askOK T tw ac dd dy sh = true then if V = 8 then (-4) else nI V else (-2)
def leaveA (A : Nat → Nat → Int32) (T V : Nat) (tw ac dd dy sh : Int32) : Nat → Nat → Int32 := if askOK T tw ac dd dy sh = true then if V = 8 then bump 2 A else updA A 0 (nLv (A 0) V tw ac dd dy sh) else bump 0 A
def fgP (n : Nat → Int32) (C : Nat) (k : Nat) : Bool := !isA n C (rc (n (86 + 5 * k))) (n (86 + 5 * k + 1)) (n (86 + 5 * k + 2)) (n (86 + 5 * k + 3)) (n (86 + 5 * k + 4)) 0
def whP (n : Nat → Int32) (T C fr w : Nat) (ac dd dy sh : Int32) (t : Nat) : Bool := decide (fD n T fr t ≤ w) && isA n C t ac dd dy sh 0
def whoseOK (T : Nat) (tw w ac dd dy sh : Int32) : Bool := pTown T tw && (pIn 0 20 w && (pIn 0 5 ac && (pIn 0 59 dd && (pIn 0 1 dy && pIn 0 1 sh))))
def whoseR (n : Nat → Int32) (T C : Nat) (tw w ac dd dy sh : Int32) : Int32 := if whoseOK T tw w ac dd dy sh = true then nI (rdB (whP n T C (rc tw) (rc w) ac dd dy sh) T) else (-2)
theorem gcd_st {a b N : Nat} (h : Nat.gcd a b = N) : Nat.gcd b (a % b) = N := by
  rw [← h, Nat.gcd_comm a b, Nat.gcd_rec b a, Nat.gcd_comm]
def odP (n : Nat → Int32) (C t : Nat) (ac : Int32) (a : Nat) (dy sh : Int32) (x : Nat) : Bool := !isA n C t ac (nI (a + x)) dy sh 0
def oddsOK (T : Nat) (tw ac a b dy sh : Int32) : Bool := pTown T tw && (pIn 0 5 ac && (pIn 0 59 a && (pIn 0 59 b && (decide (a.toInt ≤ b.toInt) && (pIn 0 1 dy && pIn 0 1 sh)))))
def odV (n : Nat → Int32) (C : Nat) (tw ac a b dy sh : Int32) : Nat := cn (odP n C (rc tw) ac (rc a) dy sh) (rc b + 1 - rc a)
def oddsN (n : Nat → Int32) (C : Nat) (tw ac a b dy sh : Int32) : Nat := odV n C tw ac a b dy sh / Nat.gcd (odV n C tw ac a b dy sh) (rc b + 1 - rc a)
def oddsM (n : Nat → Int32) (C : Nat) (tw ac a b dy sh : Int32) : Nat := (rc b + 1 - rc a) / Nat.gcd (odV n C tw ac a b dy sh) (rc b + 1 - rc a)
def oddsL (n : Nat → Int32) (L : Nat → Int64) (T C : Nat) (tw ac a b dy sh : Int32) : Nat → Int64 := if oddsOK T tw ac a b dy sh = true then vp_updL (vp_updL L 4 (lN (oddsN n C tw ac a b dy sh))) 5 (lN (oddsM n C tw ac a b dy sh)) else L
def nxt (x : Nat) : Nat := (x * 1103515245 + 12345) % 2147483648
theorem nxt_lt (x : Nat) : nxt x < 2147483648 := Nat.mod_lt _ (by omega)
def drX (s : Nat) : Nat → Nat
  | 0 => s
  | i + 1 => nxt (nxt (nxt (nxt (drX s i))))
def drP (n : Nat → Int32) (T C s i : Nat) : Bool := isA n C (nxt (drX s i) / 65536 % T) (nI (nxt (nxt (drX s i)) / 65536 % 6)) (nI (nxt (nxt (nxt (drX s i))) / 65536 % 60)) (nI (nxt (nxt (nxt (nxt (drX s i)))) / 65536 % 4 / 2)) (nI (nxt (nxt (nxt (nxt (drX s i)))) / 65536 % 4 % 2)) 0
def drawnOK (s q : Int32) : Bool := pIn 0 999999 s && pIn 0 60 q
def drawnR (n : Nat → Int32) (T C : Nat) (s q : Int32) : Int32 := if drawnOK s q = true then if T = 0 then (-1) else nI (cn (drP n T C (rc s)) (rc q)) else (-2)
theorem mod_le2 (x k : Nat) (h : 0 < k) : x % k < k := Nat.mod_lt _ h
theorem prsC_60 {n : Nat → Int32} {C ac b : Nat} : prsC n C ac b ≤ 60 := cn_le _ 60
theorem prs_new {ct : Nat → Nat} {t k : Nat} {x : Option (Nat × Nat)} {mI : Int32} (hx : x = prs ct t) (hm : mI = oI (x.map Prod.snd)) (hk : k = ct t) (hc : ∀ b, ct b ≤ 60) (h : mI.toInt < (k : Int)) : some (t, ct t) = prs ct (t + 1) := by
  refine (prs_yes fun b m hbm => ?_).symm
  rw [hx, hbm] at hm
  have h1 := (prs_lt hbm).2
  have h2 := hc b
  have h3 : mI.toInt = (m : Int) := eq_toInt hm (by omega)
  omega
theorem prs_old {ct : Nat → Nat} {t k : Nat} {x : Option (Nat × Nat)} {mI : Int32} (hx : x = prs ct t) (hm : mI = oI (x.map Prod.snd)) (hk : k = ct t) (hc : ∀ b, ct b ≤ 60) (h : ¬ mI.toInt < (k : Int)) : x = prs ct (t + 1) := by
  cases hxx : x with
  | none =>
    rw [hxx] at hm
    rw [hm] at h
    have : (oI ((none : Option (Nat × Nat)).map Prod.snd)).toInt = -1 := rfl
    omega
  | some z =>
    obtain ⟨b, m⟩ := z
    rw [hxx] at hm hx
    have h1 := (prs_lt hx.symm).2
    have h2 := hc b
    have h3 : mI.toInt = (m : Int) := eq_toInt hm (by omega)
    exact (prs_no hx.symm (by omega)).symm
def prV (x : Option (Nat × Nat)) (w : Int32) : Int32 := match x with
  | none => if w = 0 then (-1) else nI 0
  | some (b, m) => if w = 0 then nI b else nI m
theorem prV_0 {x : Option (Nat × Nat)} {w : Int32} (h : w = 0) : prV x w = oI (x.map Prod.fst) := by
  cases x with
  | none => exact if_pos h
  | some z => exact if_pos h
theorem prV_n {ct : Nat → Nat} {t : Nat} {x : Option (Nat × Nat)} {w : Int32} (hx : x = prs ct t) (ht : t ≤ 6) (h : ¬ w = 0) (h2 : oI (x.map Prod.fst) = (-1)) : prV x w = nI 0 := by
  cases hxx : x with
  | none => exact if_neg h
  | some z =>
    obtain ⟨b, m⟩ := z
    rw [hxx] at h2 hx
    have := (prs_lt hx.symm).1
    exact absurd h2 (nI_m1 (by omega))
theorem prV_m {x : Option (Nat × Nat)} {w : Int32} (h : ¬ w = 0) (h2 : ¬ oI (x.map Prod.fst) = (-1)) : prV x w = oI (x.map Prod.snd) := by
  cases x with
  | none => exact absurd rfl h2
  | some z => exact if_neg h
theorem pressesR_v {n : Nat → Int32} {T C : Nat} {ac w : Int32} (h : (pIn 0 63 ac && pIn 0 1 w) = true) : pressesR n T C ac w = prV (prs (prsC n C (rc ac)) T) w := by
  unfold pressesR
  rw [if_pos h]
  rfl
theorem fgP_d {n : Nat → Int32} {C k t : Nat} (h : n (86 + 5 * k) = nI t) (ht : t < 6) : fgP n C k = !isA n C t (n (86 + 5 * k + 1)) (n (86 + 5 * k + 2)) (n (86 + 5 * k + 3)) (n (86 + 5 * k + 4)) 0 := by
  unfold fgP
  rw [h, rcl (show t < 2 ^ 31 by omega)]
def forgedR (n : Nat → Int32) (C V : Nat) : Int32 := nI (rdB (fgP n C) V)
theorem rdB_yf {P : Nat → Bool} {r b : Nat} (hb : b = rdB P r) (h : P r = false) : b ||| 0 = rdB P (r + 1) := rdB_n hb (by rw [h]; decide)
theorem lN_i2 {a : Nat} : (lN a).toInt32 = nI a := lN_i a
theorem lN_ne0 {a : Nat} (h : 0 < a) (h2 : a < 2 ^ 31) : ¬ lN a = 0 := fun z => by have := (lN_eq (a := a) (b := 0) h2 (by omega)).mp z; omega
