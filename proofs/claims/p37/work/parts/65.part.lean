/-! ONE PART OF THE ORDERS, a character at a time -/
def PtAt (κ : KP) (ad : Nat → Nat) (M : Mem) : MS → Prop
  | (lt, j, sl, tk, _, vs) => M (ad 250) = some (.inl (5, [.int (nI lt), .ref (kK κ j), .int (nI sl), .int (nI tk), .ref (ad 251)])) ∧ ∃ f, M (ad 251) = some (.inr (0, 6, .inl f)) ∧ ∀ i, i < 6 → f i = vs i
def OffP (ad : Nat → Nat) (M M' : Mem) : Prop := ∀ b, b ≠ ad 250 → b ≠ ad 251 → M' b = M b
theorem OffP.refl {ad : Nat → Nat} {M : Mem} : OffP ad M M := fun _ _ _ => rfl
theorem OffP.trans {ad : Nat → Nat} {M M1 M2 : Mem} (h : OffP ad M M1) (h2 : OffP ad M1 M2) : OffP ad M M2 := fun b a1 a2 => (h2 b a1 a2).trans (h b a1 a2)
theorem OffP.at {ad : Nat → Nat} {M M1 : Mem} (h : OffP ad M M1) (hA : aInj ad) {i : Nat} (hi : i < 256) (h1 : i ≠ 250) (h2 : i ≠ 251) : M1 (ad i) = M (ad i) := h _ (hA.ne hi (by omega) h1) (hA.ne hi (by omega) h2)
theorem PtAt.raw {κ : KP} {ad : Nat → Nat} {M : Mem} {s : MS} {b : Nat} (h : PtAt κ ad M s) (hI : MI s b) : ∃ (x0 x2 x3 : Int32) (jq : Nat) (f : Nat → Int32), jq < 6 ∧ M (ad 250) = some (.inl (5, [.int x0, .ref (kK κ jq), .int x2, .int x3, .ref (ad 251)])) ∧ M (ad 251) = some (.inr (0, 6, .inl f)) := by
  obtain ⟨lt, j, sl, tk, cv, vs⟩ := s
  obtain ⟨h1, f, h2, -⟩ := h
  exact ⟨_, _, _, j, f, hI.2.1, h1, h2⟩
theorem PtAt.eq {κ : KP} {ad : Nat → Nat} {M M1 : Mem} {s : MS} (h : PtAt κ ad M s) (e0 : M1 (ad 250) = M (ad 250)) (e1 : M1 (ad 251) = M (ad 251)) : PtAt κ ad M1 s := by
  obtain ⟨lt, j, sl, tk, cv, vs⟩ := s
  obtain ⟨h1, f, h2, h3⟩ := h
  exact ⟨e0.trans h1, f, e1.trans h2, h3⟩
theorem MI.mono {s : MS} {b b' : Nat} (h : MI s b) (hb : b ≤ b') : MI s b' := by
  obtain ⟨lt, j, sl, tk, cv, vs⟩ := s
  obtain ⟨h1, h2, h3, h4, h5, h6, h7, h8, h9⟩ := h
  exact ⟨h1, h2, h3, h4, h5, h6, by omega, h8, h9⟩
