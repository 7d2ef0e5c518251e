def pDrum (g : Nat → Int32) (dn : Nat) (p : Int32) : Nat → Int32 := upd (upd (upd (upd g (10 + 3 * dn + 0) p) (10 + 3 * dn + 1) (nI 0)) (10 + 3 * dn + 2) (-1)) 0 (nI (dn + 1))
def oDrum (z : Zs) (dn n : Nat) (p0 : Int32) : Oc := if pIn p0 (nI 20) (nI 300) = true then (if dn = 6 then (2, 0, z) else (0, nI dn, zsv z (fun g => pDrum g dn p0))) else (1, 0, z)
def oSample (z : Zs) (dn n : Nat) (p0 : Int32) : Oc := if pNo p0 dn = true then (if n = 8 then (2, 0, z) else (0, nI n, zsv z (fun g => pTake g n (cN p0)))) else (1, 0, z)
def oBath (z : Zs) (dn n : Nat) (p0 : Int32) (p1 : Int32) : Oc := if pNo p0 n = true then (if p1 = -1 then (0, pOf z.1 (cN p0) 3, zsv z (fun g => upd g (40 + 42 * cN p0 + 3) p1)) else if pNo p1 3 = true then (if pOf z.1 (cN p0) 3 = p1 ∨ pInBath z.1 n p1 < 3 then (0, pOf z.1 (cN p0) 3, zsv z (fun g => upd g (40 + 42 * cN p0 + 3) p1)) else (2, 0, z)) else (1, 0, z)) else (1, 0, z)
def oWarm (z : Zs) (dn n : Nat) (p0 : Int32) (p1 : Int32) : Oc := if pNo p0 3 = true then (if pIn p1 (nI 0) (nI 900) = true then (0, z.1 (28 + cN p0), zsv z (fun g => upd g (28 + cN p0) p1)) else (2, 0, z)) else (1, 0, z)
def oPass (z : Zs) (dn n : Nat) (p0 : Int32) : Oc := if pIn p0 (nI 1) (nI 99) = true then (0, nI (pSame (pPassT (pSave z.1 z.2.1) n (cN p0)) n), zsv z (fun g => pPassT g n (cN p0))) else (1, 0, z)
theorem pOf_save {f : Nat → Int32} {sn k w : Nat} (h : 40 + 42 * k + w < 376) : pOf (pSave f sn) k w = pOf f k w := pSave_lo h
theorem pWhyNot_0 {f : Nat → Int32} {nd k : Nat} (h9 : pMany f k ≤ 9) (h : pWhyNot f nd k ≤ 0) : pMany f k < 9 := by
  unfold pWhyNot at h
  repeat' split at h
  all_goals first | exact absurd h (by decide) | omega
def oSink (z : Zs) (dn n : Nat) (p0 : Int32) (p1 : Int32) (p2 : Int32) (p3 : Int32) : Oc := if pNo p0 3 = true then (if pNo p1 n = true then (if pIn p2 (nI 50) (nI 200) = true then (if pIn p3 (nI 1) (nI 60) = true then (if pWhyNot z.1 (cN p0) (cN p1) ≤ 0 then (0, pDep (pSave z.1 z.2.1) (cN p0) (cN p1) p2 p3, zsv z (fun g => pSink g (cN p0) (cN p1) p2 p3)) else (3, 0, z)) else (2, 0, z)) else (2, 0, z)) else (1, 0, z)) else (1, 0, z)
def pRenew (g : Nat → Int32) (nd : Nat) : Nat → Int32 := upd (upd (upd g (31 + 3 * nd + 0) (nI 0)) (31 + 3 * nd + 1) (nI 0)) 4 (g 4 + nI 1)
def oRenew (z : Zs) (dn n : Nat) (p0 : Int32) : Oc := if pNo p0 3 = true then (0, z.1 (31 + 3 * cN p0 + 0), zsv z (fun g => pRenew g (cN p0))) else (1, 0, z)
def pRing (g : Nat → Int32) (k : Nat) : Nat → Int32 := if pOf g k 4 = -1 then upd g (40 + 42 * k + 4) (pRingV g k) else g
def pRingR (g : Nat → Int32) (k : Nat) : Int32 := if pOf g k 4 = -1 then pRingV g k else pOf g k 4
def oRing (z : Zs) (dn n : Nat) (p0 : Int32) : Oc := if pNo p0 n = true then (if pOf z.1 (cN p0) 3 = -1 then (0, pRingR (pSave z.1 z.2.1) (cN p0), zsv z (fun g => pRing g (cN p0))) else (2, 0, z)) else (1, 0, z)
def pSell (g : Nat → Int32) (n d : Nat) : Nat → Int32 := upd g (10 + 3 * d + 2) (pMean g n d true / nI 20)
def oSell (z : Zs) (dn n : Nat) (p0 : Int32) : Oc := if pNo p0 dn = true then (if pWhyS z.1 n (cN p0) ≤ 0 then (0, pMean (pSave z.1 z.2.1) n (cN p0) true / nI 20, zsv z (fun g => pSell g n (cN p0))) else (2, 0, z)) else (1, 0, z)
def oSet (z : Zs) (dn n : Nat) (p0 : Int32) (p1 : Int32) : Oc := if pIn p0 (nI 0) (nI 2) = true then (if cN p0 = 0 then (if pIn p1 (nI 0) (nI 50) = true then (0, z.1 (5 + cN p0), zsv z (fun g => upd g (5 + cN p0) p1)) else (2, 0, z)) else if cN p0 = 1 then (if pIn p1 (nI 0) (nI 100) = true then (0, z.1 (5 + cN p0), zsv z (fun g => upd g (5 + cN p0) p1)) else (2, 0, z)) else (if pIn p1 (nI 0) (nI 60) = true then (0, z.1 (5 + cN p0), zsv z (fun g => upd g (5 + cN p0) p1)) else (2, 0, z))) else (1, 0, z)
