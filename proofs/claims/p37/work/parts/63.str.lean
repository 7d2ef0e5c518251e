/-! STRING CONSTANTS: isEmpty, length, charAt -/
section FR63
variable {l : Launch} {κ : KP} {μ μ' : MD} {pc : Nat} {lv lv' : List (Nat × Value)} {st rest : List Value} {M M1 : Mem} {bc bs : Nat} {P P' : FPost}
end FR63
def kdL : List (List Nat) := [[], [68], [80, 66], [78, 80, 42, 87, 47, 83], [80], [77]]
def kd (j i : Nat) : Nat := (kdL.getD j []).getD i 32
def sLen (j : Nat) : Nat := fLen.getD j 0
