/-! THE REFERENCE'S TEXTS AS CALLS SEE THEM -/
def chOf (tx : Nat → Int32) (ln : Nat) : Nat → Nat := fun i => if i < ln then cN (tx i) else 0
theorem TX.ch {tx : Nat → Int32} {ln : Nat} {ch : Nat → Nat} (h : TX tx ln ch) : ch = chOf tx ln := by
  funext i
  unfold chOf
  by_cases c : i < ln
  · rw [if_pos c, (h.2.1 i c).1]; exact (nI_clamp (by have := h.2.2.2 i; omega)).symm
  · rw [if_neg c]; exact h.2.2.1 i (by omega)
theorem TX.of {tx : Nat → Int32} {ln : Nat} {ch : Nat → Nat} (h : TX tx ln ch) : TX tx ln (chOf tx ln) := h.ch ▸ h
theorem BI.u89 {f : Nat → Int32} {dn n : Nat} {x y : Int32} (h : BI f dn n) : BI (upd (upd f 8 x) 9 y) dn n := by
  obtain ⟨h1, h2, h3, h4, h5, h6, h7, h8, h9, h10, h11, h12, h13⟩ := h
  have e : ∀ j, j ≠ 8 → j ≠ 9 → upd (upd f 8 x) 9 y j = f j := fun j a b => by rw [pk_un b, pk_un a]
  have eo : ∀ k w, pOf (upd (upd f 8 x) 9 y) k w = pOf f k w := fun k w => e _ (by omega) (by omega)
  have em : ∀ k, pMany (upd (upd f 8 x) 9 y) k = pMany f k := fun k => by unfold pMany; rw [eo]
  refine ⟨(e 0 (by omega) (by omega)).trans h1, h2, (e 1 (by omega) (by omega)).trans h3, h4, ?_, ?_, ?_, ?_, ?_, ?_, ?_⟩
  · intro d hd; rw [e _ (by omega) (by omega), e _ (by omega) (by omega), e _ (by omega) (by omega)]; exact h5 d hd
  · intro k hk; rw [eo, eo, eo, eo, eo, eo, em]; exact h6 k hk
  · intro k hk r hr; rw [em] at hr; rw [eo, eo]; exact h7 k hk r hr
  · intro i hi; rw [e _ (by omega) (by omega), e _ (by omega) (by omega)]; exact h8 i hi
  · rw [e 2 (by omega) (by omega), e 33 (by omega) (by omega), e 36 (by omega) (by omega), e 39 (by omega) (by omega)]; exact h9
  · intro b hb; rw [e _ (by omega) (by omega)]; exact h10 b hb
  · rw [e 5 (by omega) (by omega), e 6 (by omega) (by omega), e 7 (by omega) (by omega)]; exact ⟨h11, h12, h13⟩
