/-- what the calls that tell answer, and what the model's rows are behind them -/
def rc (x : Int32) : Nat := x.toInt.toNat
theorem rcl {k : Nat} (h : k < 2 ^ 31 := by omega) : rc (nI k) = k := by unfold rc; rw [nI_toInt h]; rfl
def townR (T : Nat) (rd : Int32) : Int32 := if pIn 0 3 rd = true then if T = 6 then (-4) else nI T else (-2)
def townA (A : Nat → Nat → Int32) (T : Nat) (rd : Int32) : Nat → Nat → Int32 := if pIn 0 3 rd = true then if T = 6 then bump 2 A else updA A 0 (nTown (A 0) T rd) else bump 0 A
def roadOK (T : Nat) (x y d : Int32) : Bool := pTown T x && (pTown T y && (!decide (x = y) && pIn 1 9 d))
def roadR (n : Nat → Int32) (T : Nat) (x y d : Int32) : Int32 := if roadOK T x y d = true then n (10 + 6 * rc x + rc y) else (-2)
def roadA (A : Nat → Nat → Int32) (T : Nat) (x y d : Int32) : Nat → Nat → Int32 := if roadOK T x y d = true then updA A 0 (nRoad (A 0) (rc x) (rc y) d) else bump 0 A
def clauseOK (k ac fr ti w : Int32) : Bool := pIn 0 5 k && (pIn 0 5 ac && (pIn 0 60 ti && (pIn 0 ti.toInt fr && pIn 0 5 w)))
def clauseR (C : Nat) (k ac fr ti w : Int32) : Int32 := if clauseOK k ac fr ti w = true then if C = 8 then (-4) else nI C else (-2)
def clauseA (A : Nat → Nat → Int32) (C U : Nat) (k ac fr ti w : Int32) : Nat → Nat → Int32 := if clauseOK k ac fr ti w = true then if C = 8 then bump 2 A else updA A 0 (nCl (nKeep (A 0) U C) C k ac fr ti w) else bump 0 A
def strikeR (C : Nat) (x : Int32) : Int32 := if pTown C x = true then nI (C - 1) else (-2)
def strikeA (A : Nat → Nat → Int32) (C U : Nat) (x : Int32) : Nat → Nat → Int32 := if pTown C x = true then updA A 0 (nStrike (nKeep (A 0) U C) C (rc x)) else bump 0 A
def undoR (n : Nat → Int32) (U : Nat) : Int32 := if U = 0 then (-3) else n (126 + 41 * (U - 1) + 40)
def undoA (A : Nat → Nat → Int32) (U : Nat) : Nat → Nat → Int32 := if U = 0 then bump 1 A else updA A 0 (nUndo (A 0) U)
theorem nKeep_x {n : Nat → Int32} {U C x : Nat} (h : x < 126) (h3 : x ≠ 3) : nKeep n U C x = n x := by
  simp only [nKeep, upd, nCp]
  rw [if_neg h3, if_neg (by omega), if_neg (by omega), nK1_x h h3]
theorem nKeep_1 {n : Nat → Int32} {U C : Nat} : nKeep n U C 1 = n 1 := nKeep_x (by omega) (by omega)
