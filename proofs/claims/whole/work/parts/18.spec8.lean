section ZZ
variable {p : Program} {l : Launch} {e : Env} {R : Room} {s : State} {m : MethodId} {args : Array Value} {below : List Frame} {meth : Method} {c : Code} {H : Heap} {locs : List Loc} {cells slots : Nat} {Q : State → Prop}
variable {cc : ByteArray} {pc nL : Nat} {own : String} {ls : Array Slot} {rest st : List Value} {g : zG} {ws : va_W}
theorem z_zast {a n : Nat} {f : Nat → Int32} {k : Nat} {x : Int32} (hE : zE g p s m args c cc own nL meth) (hB : zB g s ws H locs) (q0 : Nat) (ha : ws[q0]? = some (a, .inl (gZ g, n, .inl f))) (hk : k < n) (hn : n < 2 ^ 31) (hx : vp_nar .boolean x = x) {ws' : va_W} (hws : ws.set q0 (a, .inl (gZ g, n, .inl (upd f k x))) = ws') (hdg : decode cc pc = .ok (.bastore, 1))
    (kk : ∀ (H1 : Heap) (locs1 : List Loc), zB g s ws' H1 locs1 → W p l e R s m args below meth c H1 locs1 cells slots Q (F0 m (pc + 1) ls rest)) : W p l e R s m args below meth c H locs cells slots Q (F0 m pc ls (.int x :: .int (nI k) :: .ref a :: rest)) := by
  subst hws
  refine va_zast hE.x hE.b hE.K hB.1 hB.2.1 hB.2.2 q0 2 ha rfl (vp_in_nI hk hn) hdg fun H1 l1 h1 h2 h3 => kk H1 l1 ?_
  rw [nI_clamp (Nat.lt_trans hk hn), hx] at h1 h2
  exact ⟨h1, h2, h3⟩
end ZZ
def typeR (ln : Nat) (x : Int32) : Int32 := if pIn 0 127 x = true then if ln = 150 then (-4) else nI (ln + 1) else (-2)
def typeA (A : Nat → Nat → Int32) (ln : Nat) (x : Int32) : Nat → Nat → Int32 := if pIn 0 127 x = true then if ln = 150 then bump 2 A else updA A 5 (upd (A 5) ln x) else bump 0 A
def typeF (F : Nat → Int32) (ln : Nat) (x : Int32) : Nat → Int32 := if pIn 0 127 x = true then if ln = 150 then F else upd F 16 (nI (ln + 1)) else F
def partR (L : Nat → Int64) (w : Int32) : Int64 := if w = 0 then L 4 else if w = nI 1 then L 5 else Int32.toInt64 (-2)
def partA (A : Nat → Nat → Int32) (w : Int32) : Nat → Nat → Int32 := if w = 0 then A else if w = nI 1 then A else bump 0 A
def nIm (k n : Nat → Int32) (i : Nat) : Nat → Int32 := fun x => if 454 * i ≤ x ∧ x < 454 * i + 454 then n (x - 454 * i) else k x
def imageA (A : Nat → Nat → Int32) (w : Int32) : Nat → Nat → Int32 := if pIn 0 1 w = true then updA (updA A 1 (nIm (A 1) (A 0) (rc w))) 2 (upd (A 2) (rc w) (nI 1)) else bump 0 A
def imageR (w : Int32) : Int32 := if pIn 0 1 w = true then nI 1 else (-2)
def nFr (k n : Nat → Int32) (i : Nat) : Nat → Int32 := fun x => if x < 454 then k (454 * i + x) else n x
def fromA (A : Nat → Nat → Int32) (w : Int32) : Nat → Nat → Int32 := if pIn 0 1 w = true then if A 2 (rc w) = 0 then bump 1 A else updA A 0 (nFr (A 1) (A 0) (rc w)) else bump 0 A
def fromR (A : Nat → Nat → Int32) (w : Int32) : Int32 := if pIn 0 1 w = true then if A 2 (rc w) = 0 then (-3) else nI 1 else (-2)
def statusR (A : Nat → Nat → Int32) (w : Int32) : Int32 := if pIn 0 2 w = true then A 3 (rc w) else (-1)
def rcB (n : Nat → Int32) (a : Nat) : Nat → Nat
  | 0 => 0
  | k + 1 => rcB n a k + (if 0 < rwE n (6 * a + (a + 1 + k)) then 1 else 0)
def rcA (n : Nat → Int32) (T : Nat) : Nat → Nat
  | 0 => 0
  | a + 1 => rcA n T a + rcB n a (T - (a + 1))
theorem rcB_le {n : Nat → Int32} {a : Nat} : ∀ k, rcB n a k ≤ k := by
  intro k
  induction k with
  | zero => exact Nat.le_refl _
  | succ k ih => simp only [rcB]; split <;> omega
theorem rcA_le {n : Nat → Int32} {T : Nat} : ∀ a, rcA n T a ≤ a * T := by
  intro a
  induction a with
  | zero => exact Nat.zero_le _
  | succ a ih =>
    have h1 := rcB_le (n := n) (a := a) (T - (a + 1))
    simp only [rcA]
    rw [Nat.succ_mul]
    omega
theorem rcB_y {n : Nat → Int32} {a k : Nat} (h : 0 < rwE n (6 * a + (a + 1 + k))) : rcB n a (k + 1) = rcB n a k + 1 := by simp only [rcB]; rw [if_pos h]
theorem rcB_n {n : Nat → Int32} {a k : Nat} (h : ¬ 0 < rwE n (6 * a + (a + 1 + k))) : rcB n a (k + 1) = rcB n a k + 0 := by simp only [rcB]; rw [if_neg h]
theorem rc_bd {n : Nat → Int32} {T a k : Nat} (hT : T ≤ 6) (ha : a ≤ T) (hk : k ≤ T) : rcA n T a + rcB n a k ≤ 42 := by
  have h1 := rcA_le (n := n) (T := T) a
  have h2 := rcB_le (n := n) (a := a) k
  have h3 : a * T ≤ 6 * 6 := Nat.mul_le_mul (by omega) hT
  omega
def cntN (n : Nat → Int32) (T C V U ln : Nat) (w : Nat) : Nat := if w = 0 then T else if w = 1 then C else if w = 2 then rcA n T T else if w = 3 then V else if w = 4 then U else ln
theorem cntN_le {n : Nat → Int32} {T C V U ln w : Nat} (hT : T ≤ 6) (hC : C ≤ 8) (hV : V ≤ 8) (hU : U ≤ 8) (hl : ln ≤ 150) : cntN n T C V U ln w ≤ 150 := by
  have h := rcA_le (n := n) (T := T) T
  have h3 : T * T ≤ 6 * 6 := Nat.mul_le_mul hT hT
  unfold cntN
  repeat' split
  all_goals omega
def countR (n : Nat → Int32) (T C V U ln : Nat) (w : Int32) : Int32 := if pIn 0 5 w = true then nI (cntN n T C V U ln (rc w)) else (-2)
/-- sums of a text of numbers -/
def smL (n : Nat → Int32) (h : Int64) (f : Nat) : Nat → Int64
  | 0 => h
  | k + 1 => lN 31 * smL n h f k + (n (f + k)).toInt64
def dgB (n : Nat → Int32) (h : Int64) (a : Nat) : Nat → Int64
  | 0 => h
  | k + 1 => lN 31 * dgB n h a k + (n (10 + 6 * a + (a + 1 + k))).toInt64
def dgA (n : Nat → Int32) (T : Nat) (h : Int64) : Nat → Int64
  | 0 => h
  | a + 1 => dgB n (dgA n T h a) a (T - (a + 1))
def dgC (q : Nat → Nat) (h : Int64) : Nat → Int64
  | 0 => h
  | i + 1 => lN 31 * dgC q h i + lN (q i)
def dg1 (n : Nat → Int32) (T C V U ln : Nat) : Int64 := smL n (dgC (cntN n T C V U ln) (lN 947) 6) 4 T
def dg2 (n : Nat → Int32) (T C V U ln : Nat) : Int64 := smL n (smL n (dgA n T (dg1 n T C V U ln) T) 46 (5 * C)) 86 (5 * V)
def digestR (n : Nat → Int32) (L : Nat → Int64) (T C V U ln : Nat) : Int64 := lN 31 * (lN 31 * dg2 n T C V U ln + L 4) + L 5
