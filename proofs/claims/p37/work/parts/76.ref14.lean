/-! THE DIGEST: the reference's -/
def mx (h : Int64) (v : Int32) : Int64 := 31 * h + v.toInt64
def mxs (f : Nat → Int32) : Nat → Int64 → Int64
  | 0, h => h
  | k + 1, h => mx (mxs f k h) (f k)
theorem pPend_le {g : Nat → Int32} {n : Nat} : pPend g n ≤ n := pCnt_le _ n
