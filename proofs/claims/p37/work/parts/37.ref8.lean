def pAgeG (f : Nat → Int32) (x : Int32) : Nat → Nat → Int32
  | 0 => f
  | d + 1 => upd (pAgeG f x d) (10 + 3 * d + 1) (if nI 999 < pAgeG f x d (10 + 3 * d + 1) + x then nI 999 else pAgeG f x d (10 + 3 * d + 1) + x)
def pAgeM (f : Nat → Int32) (x : Int32) : Nat → Int32
  | 0 => -1
  | d + 1 => if pAgeM f x d < pAgeG f x (d + 1) (10 + 3 * d + 1) then pAgeG f x (d + 1) (10 + 3 * d + 1) else pAgeM f x d
def oAge (z : Zs) (dn n : Nat) (p0 : Int32) : Oc := if pIn p0 (nI 1) (nI 99) = true then (0, pAgeM (pSave z.1 z.2.1) (nI (cN p0)) dn, zsv z (fun g => pAgeG g (nI (cN p0)) dn)) else (1, 0, z)
def pTossK (f : Nat → Int32) (a j : Nat) : Nat → Int32 := fun i => if 40 + a ≤ i ∧ i < 40 + j then f (i + 42) else f i
def pToss (g : Nat → Int32) (n k : Nat) : Nat → Int32 := pTossK (upd g 1 (nI (n - 1))) (42 * k) (42 * (n - 1))
def oToss (z : Zs) (dn n : Nat) (p0 : Int32) : Oc := if pNo p0 n = true then (0, pOf (pSave z.1 z.2.1) (cN p0) 5, zsv z (fun g => pToss g n (cN p0))) else (1, 0, z)
def pSec (f : Nat → Int32) (nd k : Nat) (w dp : Int32) : Nat → Nat → Int32
  | 0, _ => -1
  | N + 1, s => if dp ≤ pDep f nd k w (nI s) then nI s else pSec f nd k w dp N (s + 1)
def oSecondsTo (z : Zs) (dn n : Nat) (p0 : Int32) (p1 : Int32) (p2 : Int32) (p3 : Int32) : Oc := if pNo p0 3 = true then (if pNo p1 n = true then (if pIn p2 (nI 50) (nI 200) = true then (if pIn p3 (nI 1) (nI 400) = true then (0, pSec z.1 (cN p0) (cN p1) p2 p3 60 1, z) else (2, 0, z)) else (2, 0, z)) else (1, 0, z)) else (1, 0, z)
theorem i_nat {v : Int32} (h : ¬ v < 0) : ∃ k, k < 2 ^ 31 ∧ v = nI k := by
  refine ⟨v.toInt.toNat, ?_, ?_⟩
  · have := Int32.toInt_lt v; omega
  · have h2 : (0 : Int) ≤ v.toInt := by
      have := Int32.le_iff_toInt_le.mp (Int32.not_lt.mp h)
      exact this
    have h3 := Int32.toInt_lt v
    apply Int32.toInt_inj.mp
    rw [nI_toInt (by omega)]; omega
def oReading (z : Zs) (dn n : Nat) (p0 : Int32) (p1 : Int32) (p2 : Int32) : Oc := if pNo p0 n = true then (if p1 < 0 then (2, 0, z) else (if pIn p2 (nI 0) (nI 3) = true then (if cN p1 < pMany z.1 (cN p0) then (0, pOf z.1 (cN p0) (6 + 4 * cN p1 + cN p2), z) else (0, -1, z)) else (2, 0, z))) else (1, 0, z)
def oUndo (z : Zs) (dn n : Nat)  : Oc := if 0 < z.2.1 then (0, nI (z.2.1 - 1), ⟨pCp z.1 z.2.1 0, z.2.1 - 1, z.2.2.1, z.2.2.2.1, z.2.2.2.2⟩) else (1, 0, z)
def oKeep (z : Zs) (dn n : Nat)  : Oc := (0, nI n, ⟨pCp z.1 0 7, z.2.1, true, z.2.2.2.1, z.2.2.2.2⟩)
def oRestore (z : Zs) (dn n : Nat)  : Oc := if z.2.2.1 = true then (0, pCp (pSave z.1 z.2.1) 7 0 1, zsv z (fun g => pCp g 7 0)) else (1, 0, z)
