/-! what is read doesn't hang on the numbers before -/
def usedEq (part : Nat) (u u' : Nat → Int32) : Prop := u 0 = u' 0 ∧ (part = 98 → u 1 = u' 1) ∧ (part = 110 → u 1 = u' 1 ∧ u 2 = u' 2 ∧ u 3 = u' 3)
theorem usedEq.symm {part : Nat} {u u' : Nat → Int32} (h : usedEq part u u') : usedEq part u' u := ⟨h.1.symm, fun e => (h.2.1 e).symm, fun e => ⟨(h.2.2 e).1.symm, (h.2.2 e).2.1.symm, (h.2.2 e).2.2.symm⟩⟩
