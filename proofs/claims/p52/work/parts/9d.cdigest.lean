def mx (h : Int64) (x : Int32) : Int64 := 31 * h + x.toInt64
def zit (f : Nat → Int64 → Int64) : Nat → Int64 → Int64
  | 0, h => h
  | n + 1, h => f n (zit f n h)
def kF (w : zW) (f : Nat) (h : Int64) : Int64 := mx (mx (mx (mx h (w.1 28 f)) (w.1 29 f)) (w.1 30 f)) (w.1 31 f)
/-- a row's size and numbers -/
def kS (f : Nat → Int32) (x : Int32) (h : Int64) : Int64 := zit (fun i h => mx h (f i)) x.toNatClampNeg (mx h x)
