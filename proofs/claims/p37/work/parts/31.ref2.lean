theorem bJ_t {b : Bool} (h : b = true) : nI 1 = bI b := by rw [h]; rfl
theorem bJ_f {b : Bool} (h : b = false) : nI 0 = bI b := by rw [h]; rfl
def pMany (f : Nat → Int32) (k : Nat) : Nat := (pOf f k 5).toNatClampNeg
def pLat (f : Nat → Int32) (k ago w : Nat) : Int32 := pOf f k (6 + 4 * (pMany f k - 1 - ago) + w)
def pRdy (near bath : Int32) : Nat → Nat → Int32 → Int32
  | 0, _, _ => -1
  | N + 1, n, deg => if pAbs (deg - bath) ≤ near then nI n else pRdy near bath N (n + 1) (pWarm deg bath)
def pReady (f : Nat → Int32) (k b : Nat) : Int32 := pRdy (f 5) (f (28 + b)) 201 0 (pOf f k 2)
theorem bne_of {b : Bool} (h : b = false) : ¬ b = true := by rw [h]; exact Bool.false_ne_true
def pShr (deg : Int32) : Int32 := if nI 100 + pDiv (deg - nI 250) (nI 5) < nI 10 then nI 10 else nI 100 + pDiv (deg - nI 250) (nI 5)
def pDeep (hard deg wear w s : Int32) : Int32 := w * s / (hard + nI 1) * pShr deg / nI 100 - wear
def pDepth (hard deg wear w s : Int32) : Int32 := if pDeep hard deg wear w s < 0 then nI 0 else if nI 400 < pDeep hard deg wear w s then nI 400 else pDeep hard deg wear w s
def pDep (f : Nat → Int32) (nd k : Nat) (w s : Int32) : Int32 := pDepth (pOf f k 1) (pOf f k 2) (f (31 + 3 * nd + 0)) w s
def pWhyNot (f : Nat → Int32) (nd k : Nat) : Int32 :=
  if f (31 + 3 * nd + 1) = nI 1 then nI 1 else if pOf f k 3 = -1 then nI 2 else if pAbs (pOf f k 2 - f (28 + (pOf f k 3).toNatClampNeg)) ≤ f 5 then (if pMany f k = 9 then nI 4 else nI 0) else nI 3
def pAre (f : Nat → Int32) (k : Nat) : Nat → Bool
  | 0 => true
  | a + 1 => pAre f k a && (decide (pLat f k a 2 = nI 100) && decide (pLat f k a 3 = nI 5))
def pLeast (f : Nat → Int32) (k : Nat) : Nat → Int32
  | 0 => nI 400
  | a + 1 => if pLat f k a 1 < pLeast f k a then pLat f k a 1 else pLeast f k a
def pMost (f : Nat → Int32) (k : Nat) : Nat → Int32
  | 0 => nI 0
  | a + 1 => if pMost f k a < pLat f k a 1 then pLat f k a 1 else pMost f k a
def pWhy (f : Nat → Int32) (k : Nat) : Int32 := if pMany f k < 3 then nI 5 else if pAre f k 3 = true then (if f 6 < pMost f k 3 - pLeast f k 3 then nI 7 else nI 0) else nI 6
theorem pWhy_many {f : Nat → Int32} {k : Nat} (h : pWhy f k ≤ 0) : 3 ≤ pMany f k := by
  rcases Nat.lt_or_ge (pMany f k) 3 with q | q
  · unfold pWhy at h; rw [if_pos q] at h; exact absurd h (by decide)
  · exact q
def pPen (f : Nat → Int32) (k : Nat) : Int32 := if 0 < pWhy f k then -1 else (pLat f k 0 1 + pLat f k 1 1 + pLat f k 2 1) / nI 3
def pMask (f : Nat → Int32) (k : Nat) : Nat → Int32
  | 0 => nI 0
  | a + 1 => pMask f k a ||| (nI 1 <<< (pLat f k a 0 &&& 31))
def pNeed (f : Nat → Int32) (k : Nat) : Int32 := pMask f k (min 3 (pMany f k))
def pTold (f : Nat → Int32) (k : Nat) (q : Bool) : Int32 := if q = true then pPen f k else pOf f k 4
abbrev pIs (f : Nat → Int32) (d : Nat) (q : Bool) (k : Nat) : Prop := pOf f k 0 = nI d ∧ ¬ pTold f k q = -1
def pSum (f : Nat → Int32) (d : Nat) (q : Bool) : Nat → Int32
  | 0 => nI 0
  | k + 1 => pSum f d q k + (if pIs f d q k then pTold f k q else nI 0)
def pNum (f : Nat → Int32) (d : Nat) (q : Bool) (n : Nat) : Nat := pCnt (fun k => pIs f d q k) n
def pMean (f : Nat → Int32) (n d : Nat) (q : Bool) : Int32 := if pNum f d q n = 0 then -1 else pSum f d q n / nI (pNum f d q n)
def pIndex (f : Nat → Int32) (n d : Nat) : Int32 := if pMean f n d true = -1 then -1 else if pMean f n d false = -1 then -1 else nI 1000 + pMean f n d true / nI 10 + pDiv (pMean f n d false - nI 450) (nI 10) - f 7
def pDMask (f : Nat → Int32) (d : Nat) : Nat → Int32
  | 0 => nI 0
  | k + 1 => pDMask f d k ||| (if pIs f d true k then pNeed f k else nI 0)
def pWhyS (f : Nat → Int32) (n d : Nat) : Int32 :=
  if ¬ f (10 + 3 * d + 2) = -1 then nI 15 else if pNum f d true n < 2 then nI 9 else if pDMask f d n = nI 1 then nI 10 else if pDMask f d n = nI 2 then nI 10 else if pDMask f d n = nI 4 then nI 10
  else if pMean f n d false = -1 then nI 11 else if pIn (pIndex f n d) (nI 980) (nI 1020) = true then nI 0 else nI 12
def pSamplesOf (f : Nat → Int32) (d n : Nat) : Nat := pCnt (fun k => pOf f k 0 = nI d) n
def pHard (f : Nat → Int32) (d : Nat) : Int32 := nI 1000 / f (10 + 3 * d + 0) + f (10 + 3 * d + 1) / nI 10
