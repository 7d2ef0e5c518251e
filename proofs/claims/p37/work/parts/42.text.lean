/-! TEXTS: what the reference reads -/
def TX (tx : Nat → Int32) (ln : Nat) (ch : Nat → Nat) : Prop := ln ≤ 60 ∧ (∀ i, i < ln → tx i = nI (ch i) ∧ 33 ≤ ch i) ∧ (∀ i, ln ≤ i → ch i = 0) ∧ (∀ i, ch i ≤ 126)
theorem TX.lt {tx : Nat → Int32} {ln : Nat} {ch : Nat → Nat} (h : TX tx ln ch) (i : Nat) : ch i < 127 := by have := h.2.2.2 i; omega
/-! marks -/
