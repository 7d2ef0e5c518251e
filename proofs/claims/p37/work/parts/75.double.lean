/-! DOUBLES: the share and its bits -/
def n64b (r : UInt64) : Bool := decide (r &&& 0x7fffffffffffffff ≤ 0x7ff0000000000000)
theorem n64_of {r : UInt64} (h : n64b r = true) : vf_n64 r := by
  unfold n64b at h
  exact (of_decide_eq_true h : r &&& 0x7fffffffffffffff ≤ 0x7ff0000000000000)
def shD (p n : Nat) : UInt64 := if n = 0 then FP.dconst1 else FP.ddiv (FP.i2d (nI p)) (FP.i2d (nI n))
def bRl : Nat → UInt64 → Int64 → Int64
  | 0, _, _ => 0
  | N + 1, v, e => if Op.cmpValue (FP.dcmp v FP.dconst1) .g < 0 then bRl N (FP.dmul v 4611686018427387904) (e - 1) else e * 4503599627370496 + FP.d2l (FP.dmul (FP.dsub v FP.dconst1) 4841369599423283200)
def bCl : Nat → UInt64 → Int64 → Int64
  | 0, _, _ => 0
  | N + 1, v, e => if Op.cmpValue (FP.dcmp v FP.dconst1) .g < 0 then bCl N (FP.dmul v 4611686018427387904) (e - 1) else e <<< ((nI 52).toInt64 &&& 63) + FP.d2l (FP.dmul (FP.dsub v FP.dconst1) 4841369599423283200)
def bOk : Nat → UInt64 → Bool
  | 0, _ => false
  | N + 1, v => if Op.cmpValue (FP.dcmp v FP.dconst1) .g < 0 then n64b (FP.dmul v 4611686018427387904) && bOk N (FP.dmul v 4611686018427387904) else n64b (FP.dsub v FP.dconst1) && n64b (FP.dmul (FP.dsub v FP.dconst1) 4841369599423283200)
def bR (x : UInt64) : Int64 := if Op.cmpValue (FP.dcmp x FP.dconst0) .l = 0 then 0 else bRl 5 x 1023
def bC (x : UInt64) : Int64 := if 0 < Op.cmpValue (FP.dcmp x FP.dconst0) .g then bCl 5 x 1023 else 0
def shOk (p n : Nat) : Bool := n64b (shD p n) && bOk 5 (shD p n) && decide (bR (shD p n) = bC (shD p n)) && decide (Op.cmpValue (FP.dcmp (shD p n) (shD p n)) .l = 0)
theorem shOk_all : ((List.range 9).all fun n => (List.range 9).all fun p => !(decide (p ≤ n)) || (decide (p = 0) && (n64b (shD p n) && decide (bR (shD p n) = bC (shD p n)) && decide (Op.cmpValue (FP.dcmp (shD p n) (shD p n)) .l = 0) && decide (Op.cmpValue (FP.dcmp (shD p n) FP.dconst0) .l = 0 ∨ n = 0) && (bOk 5 (shD p n) || decide (¬ n = 0)) && decide (¬ 0 < Op.cmpValue (FP.dcmp (shD p n) FP.dconst0) .g ∨ n = 0)) || shOk p n)) = true := by decide +kernel
theorem shOk_at {p n : Nat} (h : p ≤ n) (hn : n ≤ 8) : n64b (shD p n) = true ∧ bR (shD p n) = bC (shD p n) ∧ Op.cmpValue (FP.dcmp (shD p n) (shD p n)) .l = 0 ∧ (¬ Op.cmpValue (FP.dcmp (shD p n) FP.dconst0) .l = 0 → bOk 5 (shD p n) = true) ∧ (0 < Op.cmpValue (FP.dcmp (shD p n) FP.dconst0) .g → bOk 5 (shD p n) = true) := by
  have h1 := List.all_eq_true.mp (List.all_eq_true.mp shOk_all n (List.mem_range.mpr (by omega))) p (List.mem_range.mpr (by omega))
  simp only [decide_eq_true h, Bool.not_true, Bool.false_or, Bool.or_eq_true, Bool.and_eq_true, decide_eq_true_eq, shOk] at h1
  rcases h1 with ⟨h0, ⟨⟨⟨⟨a, b⟩, c⟩, d⟩, e⟩, f⟩ | ⟨⟨⟨a, b⟩, c⟩, d⟩
  · refine ⟨a, b, c, fun z => ?_, fun z => ?_⟩
    · rcases d with d | d
      · exact absurd d z
      · rcases e with e | e
        · exact e
        · exact absurd d e
    · rcases f with f | f
      · exact absurd z f
      · rcases e with e | e
        · exact e
        · exact absurd f e
  · exact ⟨a, c, d, fun _ => b, fun _ => b⟩
