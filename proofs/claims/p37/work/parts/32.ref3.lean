def pReadyNow (f : Nat → Int32) (k : Nat) : Int32 := if pOf f k 3 = -1 then -1 else pReady f k (pOf f k 3).toNatClampNeg
def pFar (f : Nat → Int32) (b : Nat) : Nat → Int32
  | 0 => -1
  | k + 1 => if pOf f k 3 = nI b then (if pFar f b k < pAbs (pOf f k 2 - f (28 + b)) then pAbs (pOf f k 2 - f (28 + b)) else pFar f b k) else pFar f b k
def pOfBath (f : Nat → Int32) (n b w : Nat) : Int32 := if w = 0 then f (28 + b) else if w = 1 then nI (pInBath f n (nI b)) else pFar f b n
def pSoldD (f : Nat → Int32) (dn : Nat) : Nat := pCnt (fun d => ¬ f (10 + 3 * d + 2) = -1) dn
def pPend (f : Nat → Int32) (n : Nat) : Nat := pCnt (fun k => pWhy f k = 0) n
def pCounted (f : Nat → Int32) (sv : Int32) (n dn w : Nat) : Int32 :=
  if w = 3 then f (31 + 3 * 0 + 1) + f (31 + 3 * 1 + 1) + f (31 + 3 * 2 + 1) else if w = 4 then nI (pSoldD f dn) else if w = 5 then f 3 else if w = 6 then nI (pPend f n) else if w = 7 then f 4 else if w = 11 then sv else if w < 3 then f w else f (5 + w - 8)
def pOfDrum (f : Nat → Int32) (n d w : Nat) : Int32 :=
  if w = 2 then pHard f d else if w = 3 then nI (pSamplesOf f d n) else if w = 4 then pMean f n d true else if w = 5 then pMean f n d false else if w = 6 then pIndex f n d else if w = 7 then pIndex f n d else if w = 8 then f (10 + 3 * d + 2) else f (10 + 3 * d + w)
def pOfSample (f : Nat → Int32) (k w : Nat) : Int32 :=
  if w = 4 then pOf f k 5 else if w = 5 then pPen f k else if w = 6 then pWhy f k else if w = 7 then pOf f k 4 else if w = 8 then pNeed f k else pOf f k w
def pBW (f : Nat → Int32) (n k b : Nat) : Int32 := if pOf f k 3 = nI b ∨ pInBath f n (nI b) < 3 then pReady f k b else -1
def pBL (f : Nat → Int32) (n k : Nat) : Nat → Int32
  | 0 => nI 201
  | b + 1 => if ¬ pBW f n k b = -1 ∧ pBW f n k b < pBL f n k b then pBW f n k b else pBL f n k b
def pBF (f : Nat → Int32) (n k : Nat) : Nat → Int32
  | 0 => -1
  | b + 1 => if ¬ pBW f n k b = -1 ∧ pBW f n k b < pBL f n k b then nI b else pBF f n k b
