/-! what the class tells: figures, forecasts, the hash -/
def ropeFigK (f r : Nat → Int32) (z w : Nat) : Int32 := match w with
  | 0 => r 0
  | 1 => r 1
  | 2 => sumN (colR r false) 0 24
  | 3 => sumN (colR r true) 0 24
  | 4 => gmx (winS r false z) (25 - z)
  | 5 => nI (gwinK r z)
  | 6 => gmx (winS r true z) (25 - z)
  | 7 => reasonK f r z
  | 8 => mleftK f r
  | _ => r 2
def countFigK (f : Nat → Int32) (z k kp w : Nat) : Int32 := match w with
  | 0 => f 0
  | 1 => f 1
  | 2 => nI (retK f z k)
  | 3 => if canK f z k = 0 then 0 else 1
  | 4 => f 7
  | 5 => f 8
  | 6 => f 9
  | 7 => sumRK f true k - sumRK f false k
  | _ => nI kp
def lookR (f r : Nat → Int32) : Nat → Int32 := rLook r 0 24 (f 0)
def rchK (f r : Nat → Int32) (z : Nat) (t : Int32) : Bool := decide (f 3 ≤ gmx (winS (rBendT r 0 24 t) true z) (25 - z))
def tlK (f r : Nat → Int32) (z : Nat) : Nat → Int32 → Int32 → Int32
  | 0, low, _ => low
  | d + 1, low, high => if low < high then (if rchK f r z ((low + high) / 2) then tlK f r z d low ((low + high) / 2) else tlK f r z d ((low + high) / 2 + 1) high) else low
def unsK (f : Nat → Int32) (z i : Nat) : Bool := decide (reasonK f (rowOf f i) z = 0 ∧ (reasonK f (lookR f (rowOf f i)) z = 1 ∨ reasonK f (lookR f (rowOf f i)) z = 2))
def luK (f : Nat → Int32) (z : Nat) : Nat → Nat → Int32
  | 0, _ => -1
  | d + 1, j => if unsK f z j then nI j else luK f z d (j + 1)
def shrK (f : Nat → Int32) (k : Nat) : UInt64 := if sumRK f true k = 0 then FP.dconst1 else FP.ddiv (FP.i2d (sumRK f false k)) (FP.i2d (sumRK f true k))
def mixN (g : Nat → Int64) : Nat → Int64 → Int64
  | 0, h => h
  | n + 1, h => 31 * mixN g n h + g n
def secM (r : Nat → Int32) : Nat → Int64 → Int64
  | 0, h => h
  | n + 1, h => mixN (fun w => (secF r n w).toInt64) 5 (secM r n h)
def winM (r : Nat → Int32) (z : Nat) : Nat → Int64 → Int64
  | 0, h => h
  | n + 1, h => 31 * (31 * winM r z n h + (winS r false z n).toInt64) + (winS r true z n).toInt64
def mwrK (f r : Nat → Int32) (z : Nat) (h : Int64) : Int64 := 31 * (31 * (31 * winM r z (25 - z) (secM r 24 (mixN (fun w => (ropeFigK f r z w).toInt64) 10 h)) + (reasonK f (lookR f r) z).toInt64) + (nI (bestI r 5)).toInt64) + (tlK f r z 32 0 (f 3 * r 0)).toInt64
def rpsM (f : Nat → Int32) (z : Nat) : Nat → Int64 → Int64
  | 0, h => h
  | n + 1, h => mwrK f (rowOf f n) z (rpsM f z n h)
