/-! THE CLASS'S STATE: a cell's address by its number (ad), a laboratory's cells from a number on, what they hold in the reference's numbers g. -/
def aInj (ad : Nat → Nat) : Prop := ∀ i j, i < 256 → j < 256 → ad i = ad j → i = j
theorem aInj.ne {ad : Nat → Nat} (h : aInj ad) {i j : Nat} (hi : i < 256) (hj : j < 256) (hn : i ≠ j) : ad i ≠ ad j := fun e => hn (h i j hi hj e)
theorem fup_fup {M : Mem} {a : Nat} {c c' : MC} : fup (fup M a c) a c' = fup M a c' := by
  funext b; unfold fup; split <;> rfl
theorem fup_comm {M : Mem} {a b : Nat} {c c' : MC} (h : a ≠ b) : fup (fup M a c) b c' = fup (fup M b c') a c := by
  funext x
  by_cases h1 : x = a
  · subst h1; rw [fup_ne h, fup_eq, fup_eq]
  · by_cases h2 : x = b
    · subst h2; rw [fup_eq, fup_ne h1, fup_eq]
    · rw [fup_ne h2, fup_ne h1, fup_ne h1, fup_ne h2]
/-- a sample's object a with its marks b, as sample k of g -/
def SpAt (M : Mem) (a b : Nat) (g : Nat → Int32) (k : Nat) : Prop :=
  M a = some (.inl (6, [.int (pOf g k 0), .int (pOf g k 1), .int (pOf g k 2), .int (pOf g k 3), .int (pOf g k 4), .int (pOf g k 5), .ref b])) ∧ ∃ f, M b = some (.inr (0, 36, .inl f)) ∧ ∀ j, j < 4 * pMany g k → f j = pOf g k (6 + j)
def SpAny (M : Mem) (a b : Nat) : Prop := ∃ (x0 x1 x2 x3 x4 x5 : Int32) (f : Nat → Int32), M a = some (.inl (6, [.int x0, .int x1, .int x2, .int x3, .int x4, .int x5, .ref b])) ∧ M b = some (.inr (0, 36, .inl f))
def DrAny (M : Mem) (a : Nat) : Prop := ∃ (x0 x1 x2 : Int32), M a = some (.inl (0, [.int x0, .int x1, .int x2]))
abbrev DrAt (M : Mem) (a : Nat) (g : Nat → Int32) (d : Nat) : Prop := M a = some (.inl (0, [.int (g (10 + 3 * d + 0)), .int (g (10 + 3 * d + 1)), .int (g (10 + 3 * d + 2))]))
abbrev NdAt (M : Mem) (a : Nat) (g : Nat → Int32) (i : Nat) : Prop := M a = some (.inl (3, [.int (g (31 + 3 * i + 0)), .int (g (31 + 3 * i + 1)), .int (g (31 + 3 * i + 2))]))
def LabAt (M : Mem) (ad : Nat → Nat) (c : Nat) (g : Nat → Int32) (dn n : Nat) (π : Nat → Nat) : Prop :=
  (M (ad c) = some (.inl (2, [.ref (ad (c + 1)), .ref (ad (c + 2)), .ref (ad (c + 3)), .ref (ad (c + 4)), .ref (ad (c + 5)), .int (nI dn), .int (nI n), .int (g 3), .int (g 4), .int (g 8), .int (g 9)]))) ∧
  (∃ f, M (ad (c + 1)) = some (.inr (3, 6, .inr (.inr (.inr (.inr f))))) ∧ ∀ d, d < 6 → f d = some (ad (c + 6 + d))) ∧
  (∃ f, M (ad (c + 2)) = some (.inr (4, 8, .inr (.inr (.inr (.inr f))))) ∧ ∀ k, k < 8 → f k = some (ad (c + 12 + π k))) ∧
  (∃ f, M (ad (c + 3)) = some (.inr (5, 3, .inr (.inr (.inr (.inr f))))) ∧ ∀ i, i < 3 → f i = some (ad (c + 28 + i))) ∧
  (∃ f, M (ad (c + 4)) = some (.inr (0, 3, .inl f)) ∧ ∀ b, b < 3 → f b = g (28 + b)) ∧
  (∃ f, M (ad (c + 5)) = some (.inr (0, 3, .inl f)) ∧ ∀ i, i < 3 → f i = g (5 + i)) ∧
  (∀ d, d < 6 → DrAny M (ad (c + 6 + d))) ∧
  (∀ d, d < dn → DrAt M (ad (c + 6 + d)) g d) ∧
  (∀ k, k < 8 → SpAny M (ad (c + 12 + k)) (ad (c + 20 + k))) ∧
  (∀ k, k < n → SpAt M (ad (c + 12 + π k)) (ad (c + 20 + π k)) g k) ∧
  (∀ i, i < 3 → NdAt M (ad (c + 28 + i)) g i) ∧
  (∀ k, k < 8 → π k < 8) ∧ (∀ j k, j < 8 → k < 8 → π j = π k → j = k) ∧ dn ≤ 6 ∧ n ≤ 8
section LabS
variable {M M' : Mem} {ad : Nat → Nat} {c : Nat} {g g' : Nat → Int32} {dn n : Nat} {π : Nat → Nat}
theorem LabAt.lab (h : LabAt M ad c g dn n π) : M (ad c) = some (.inl (2, [.ref (ad (c + 1)), .ref (ad (c + 2)), .ref (ad (c + 3)), .ref (ad (c + 4)), .ref (ad (c + 5)), .int (nI dn), .int (nI n), .int (g 3), .int (g 4), .int (g 8), .int (g 9)])) := h.1
theorem LabAt.drs (h : LabAt M ad c g dn n π) : ∃ f, M (ad (c + 1)) = some (.inr (3, 6, .inr (.inr (.inr (.inr f))))) ∧ ∀ d, d < 6 → f d = some (ad (c + 6 + d)) := h.2.1
theorem LabAt.sps (h : LabAt M ad c g dn n π) : ∃ f, M (ad (c + 2)) = some (.inr (4, 8, .inr (.inr (.inr (.inr f))))) ∧ ∀ k, k < 8 → f k = some (ad (c + 12 + π k)) := h.2.2.1
theorem LabAt.nds (h : LabAt M ad c g dn n π) : ∃ f, M (ad (c + 3)) = some (.inr (5, 3, .inr (.inr (.inr (.inr f))))) ∧ ∀ i, i < 3 → f i = some (ad (c + 28 + i)) := h.2.2.2.1
theorem LabAt.dgs (h : LabAt M ad c g dn n π) : ∃ f, M (ad (c + 4)) = some (.inr (0, 3, .inl f)) ∧ ∀ b, b < 3 → f b = g (28 + b) := h.2.2.2.2.1
theorem LabAt.sts (h : LabAt M ad c g dn n π) : ∃ f, M (ad (c + 5)) = some (.inr (0, 3, .inl f)) ∧ ∀ i, i < 3 → f i = g (5 + i) := h.2.2.2.2.2.1
theorem LabAt.dra (h : LabAt M ad c g dn n π) : ∀ d, d < 6 → DrAny M (ad (c + 6 + d)) := h.2.2.2.2.2.2.1
theorem LabAt.dr (h : LabAt M ad c g dn n π) : ∀ d, d < dn → DrAt M (ad (c + 6 + d)) g d := h.2.2.2.2.2.2.2.1
theorem LabAt.spa (h : LabAt M ad c g dn n π) : ∀ k, k < 8 → SpAny M (ad (c + 12 + k)) (ad (c + 20 + k)) := h.2.2.2.2.2.2.2.2.1
theorem LabAt.sp (h : LabAt M ad c g dn n π) : ∀ k, k < n → SpAt M (ad (c + 12 + π k)) (ad (c + 20 + π k)) g k := h.2.2.2.2.2.2.2.2.2.1
theorem LabAt.nd (h : LabAt M ad c g dn n π) : ∀ i, i < 3 → NdAt M (ad (c + 28 + i)) g i := h.2.2.2.2.2.2.2.2.2.2.1
theorem LabAt.pl (h : LabAt M ad c g dn n π) : ∀ k, k < 8 → π k < 8 := h.2.2.2.2.2.2.2.2.2.2.2.1
theorem LabAt.pi (h : LabAt M ad c g dn n π) : ∀ j k, j < 8 → k < 8 → π j = π k → j = k := h.2.2.2.2.2.2.2.2.2.2.2.2.1
theorem LabAt.dl (h : LabAt M ad c g dn n π) : dn ≤ 6 := h.2.2.2.2.2.2.2.2.2.2.2.2.2.1
theorem LabAt.nl (h : LabAt M ad c g dn n π) : n ≤ 8 := h.2.2.2.2.2.2.2.2.2.2.2.2.2.2
theorem SpAt.eq {a b k : Nat} (h : SpAt M a b g k) (ea : M' a = M a) (eb : M' b = M b) : SpAt M' a b g k := by
  obtain ⟨h1, f, h2, h3⟩ := h
  exact ⟨ea.trans h1, f, eb.trans h2, h3⟩
theorem SpAny.eq {a b : Nat} (h : SpAny M a b) (ea : M' a = M a) (eb : M' b = M b) : SpAny M' a b := by
  obtain ⟨x0, x1, x2, x3, x4, x5, f, h1, h2⟩ := h
  exact ⟨x0, x1, x2, x3, x4, x5, f, ea.trans h1, eb.trans h2⟩
theorem DrAny.eq {a : Nat} (h : DrAny M a) (ea : M' a = M a) : DrAny M' a := by
  obtain ⟨x0, x1, x2, h1⟩ := h
  exact ⟨x0, x1, x2, ea.trans h1⟩
theorem SpAt.any {a b k : Nat} (h : SpAt M a b g k) : SpAny M a b := by
  obtain ⟨h1, f, h2, -⟩ := h
  exact ⟨_, _, _, _, _, _, f, h1, h2⟩
theorem SpAt.congr {a b k k' : Nat} (h : SpAt M a b g k) (e : ∀ w, w < 42 → pOf g' k' w = pOf g k w) (h9 : pMany g k ≤ 9) : SpAt M a b g' k' := by
  obtain ⟨h1, f, h2, h3⟩ := h
  have em : pMany g' k' = pMany g k := by unfold pMany; rw [e 5 (by omega)]
  refine ⟨?_, f, h2, ?_⟩
  · rw [e 0 (by omega), e 1 (by omega), e 2 (by omega), e 3 (by omega), e 4 (by omega), e 5 (by omega)]; exact h1
  · intro j hj
    rw [em] at hj
    rw [e (6 + j) (by omega)]; exact h3 j hj
/-- only its own cells count -/
theorem LabAt.frame (h : LabAt M ad c g dn n π) (e : ∀ j, j < 31 → M' (ad (c + j)) = M (ad (c + j))) : LabAt M' ad c g dn n π := by
  obtain ⟨h1, ⟨f1, a1, b1⟩, ⟨f2, a2, b2⟩, ⟨f3, a3, b3⟩, ⟨f4, a4, b4⟩, ⟨f5, a5, b5⟩, h7, h8, h9, h10, h11, h12, h13, h14, h15⟩ := h
  have e' : ∀ i j, c + i + j = c + (i + j) := fun i j => by omega
  refine ⟨(e 0 (by omega)).trans h1, ⟨f1, (e 1 (by omega)).trans a1, b1⟩, ⟨f2, (e 2 (by omega)).trans a2, b2⟩, ⟨f3, (e 3 (by omega)).trans a3, b3⟩, ⟨f4, (e 4 (by omega)).trans a4, b4⟩, ⟨f5, (e 5 (by omega)).trans a5, b5⟩, ?_, ?_, ?_, ?_, ?_, h12, h13, h14, h15⟩
  · intro d hd; exact (h7 d hd).eq (by rw [e']; exact e _ (by omega))
  · intro d hd
    show M' _ = _
    rw [e', e _ (by omega), ← e']; exact h8 d hd
  · intro k hk; exact (h9 k hk).eq (by rw [e']; exact e _ (by omega)) (by rw [e']; exact e _ (by omega))
  · intro k hk
    have := h12 k (by omega)
    exact (h10 k hk).eq (by rw [e']; exact e _ (by omega)) (by rw [e']; exact e _ (by omega))
  · intro i hi
    show M' _ = _
    rw [e', e _ (by omega), ← e']; exact h11 i hi
/-- the same numbers told by another function -/
theorem LabAt.congr (h : LabAt M ad c g dn n π) (h9 : ∀ k, k < n → pMany g k ≤ 9) (e : ∀ j, j < 376 → g' j = g j) : LabAt M ad c g' dn n π := by
  obtain ⟨h1, h2, h3, h4, ⟨f4, a4, b4⟩, ⟨f5, a5, b5⟩, h7, h8, h9a, h10, h11, h12, h13, h14, h15⟩ := h
  refine ⟨?_, h2, h3, h4, ⟨f4, a4, fun b hb => by rw [e _ (by omega)]; exact b4 b hb⟩, ⟨f5, a5, fun b hb => by rw [e _ (by omega)]; exact b5 b hb⟩, h7, ?_, h9a, ?_, ?_, h12, h13, h14, h15⟩
  · rw [e 3 (by omega), e 4 (by omega), e 8 (by omega), e 9 (by omega)]; exact h1
  · intro d hd
    show M _ = _
    rw [e _ (by omega), e _ (by omega), e _ (by omega)]; exact h8 d hd
  · intro k hk
    exact (h10 k hk).congr (fun w hw => e _ (by omega)) (h9 k hk)
  · intro i hi
    show M _ = _
    rw [e _ (by omega), e _ (by omega), e _ (by omega)]; exact h11 i hi
/-- a drum's cell changed -/
theorem LabAt.putDr (hA : aInj ad) (hc : c + 31 ≤ 256) (h : LabAt M ad c g dn n π) (h9 : ∀ k, k < n → pMany g k ≤ 9) {d : Nat} (hd : d < 6) (hM : ∀ b, b ≠ ad (c + 6 + d) → M' b = M b) (hv : DrAny M' (ad (c + 6 + d))) (hd2 : d < dn → DrAt M' (ad (c + 6 + d)) g' d)
    (e : ∀ j, j < 376 → (j < 10 + 3 * d ∨ 10 + 3 * d + 3 ≤ j) → g' j = g j) : LabAt M' ad c g' dn n π := by
  obtain ⟨h1, ⟨f1, a1, b1⟩, ⟨f2, a2, b2⟩, ⟨f3, a3, b3⟩, ⟨f4, a4, b4⟩, ⟨f5, a5, b5⟩, h7, h8, h9a, h10, h11, h12, h13, h14, h15⟩ := h
  have m : ∀ i, i < 256 → i ≠ c + 6 + d → M' (ad i) = M (ad i) := fun i h1 h2 => hM _ (hA.ne h1 (by omega) h2)
  refine ⟨?_, ⟨f1, (m _ (by omega) (by omega)).trans a1, b1⟩, ⟨f2, (m _ (by omega) (by omega)).trans a2, b2⟩, ⟨f3, (m _ (by omega) (by omega)).trans a3, b3⟩, ⟨f4, (m _ (by omega) (by omega)).trans a4, fun b hb => by rw [e _ (by omega) (by omega)]; exact b4 b hb⟩, ⟨f5, (m _ (by omega) (by omega)).trans a5, fun b hb => by rw [e _ (by omega) (by omega)]; exact b5 b hb⟩, ?_, ?_, ?_, ?_, ?_, h12, h13, h14, h15⟩
  · rw [e 3 (by omega) (by omega), e 4 (by omega) (by omega), e 8 (by omega) (by omega), e 9 (by omega) (by omega)]; exact (m _ (by omega) (by omega)).trans h1
  · intro d' hd'
    by_cases x : d' = d
    · subst x; exact hv
    · exact (h7 d' hd').eq (m _ (by omega) (by omega))
  · intro d' hd'
    by_cases x : d' = d
    · subst x; exact hd2 hd'
    · show M' _ = _
      rw [e _ (by omega) (by omega), e _ (by omega) (by omega), e _ (by omega) (by omega)]; exact (m _ (by omega) (by omega)).trans (h8 d' hd')
  · intro k hk; exact (h9a k hk).eq (m _ (by omega) (by omega)) (m _ (by omega) (by omega))
  · intro k hk
    have := h12 k (by omega)
    exact ((h10 k hk).congr (fun w hw => e _ (by omega) (by omega)) (h9 k hk)).eq (m _ (by omega) (by omega)) (m _ (by omega) (by omega))
  · intro i hi
    show M' _ = _
    rw [e _ (by omega) (by omega), e _ (by omega) (by omega), e _ (by omega) (by omega)]; exact (m _ (by omega) (by omega)).trans (h11 i hi)
/-- a needle's cell changed -/
theorem LabAt.putNd (hA : aInj ad) (hc : c + 31 ≤ 256) (h : LabAt M ad c g dn n π) (h9 : ∀ k, k < n → pMany g k ≤ 9) {i : Nat} (hi : i < 3) (hM : ∀ b, b ≠ ad (c + 28 + i) → M' b = M b) (hv : NdAt M' (ad (c + 28 + i)) g' i)
    (e : ∀ j, j < 376 → j ≠ 0 → j ≠ 1 → j ≠ 2 → (j < 31 + 3 * i ∨ 31 + 3 * i + 3 ≤ j) → g' j = g j) : LabAt M' ad c g' dn n π := by
  obtain ⟨h1, ⟨f1, a1, b1⟩, ⟨f2, a2, b2⟩, ⟨f3, a3, b3⟩, ⟨f4, a4, b4⟩, ⟨f5, a5, b5⟩, h7, h8, h9a, h10, h11, h12, h13, h14, h15⟩ := h
  have m : ∀ j, j < 256 → j ≠ c + 28 + i → M' (ad j) = M (ad j) := fun i h1 h2 => hM _ (hA.ne h1 (by omega) h2)
  have e := fun j (h1 : j < 376) (h2 : (2 < j ∧ j < 31 + 3 * i) ∨ 31 + 3 * i + 3 ≤ j) => e j h1 (by omega) (by omega) (by omega) (by omega)
  refine ⟨?_, ⟨f1, (m _ (by omega) (by omega)).trans a1, b1⟩, ⟨f2, (m _ (by omega) (by omega)).trans a2, b2⟩, ⟨f3, (m _ (by omega) (by omega)).trans a3, b3⟩, ⟨f4, (m _ (by omega) (by omega)).trans a4, fun b hb => by rw [e _ (by omega) (by omega)]; exact b4 b hb⟩, ⟨f5, (m _ (by omega) (by omega)).trans a5, fun b hb => by rw [e _ (by omega) (by omega)]; exact b5 b hb⟩, ?_, ?_, ?_, ?_, ?_, h12, h13, h14, h15⟩
  · rw [e 3 (by omega) (by omega), e 4 (by omega) (by omega), e 8 (by omega) (by omega), e 9 (by omega) (by omega)]; exact (m _ (by omega) (by omega)).trans h1
  · intro d hd; exact (h7 d hd).eq (m _ (by omega) (by omega))
  · intro d hd
    show M' _ = _
    rw [e _ (by omega) (by omega), e _ (by omega) (by omega), e _ (by omega) (by omega)]; exact (m _ (by omega) (by omega)).trans (h8 d hd)
  · intro k hk; exact (h9a k hk).eq (m _ (by omega) (by omega)) (m _ (by omega) (by omega))
  · intro k hk
    have := h12 k (by omega)
    exact ((h10 k hk).congr (fun w hw => e _ (by omega) (by omega)) (h9 k hk)).eq (m _ (by omega) (by omega)) (m _ (by omega) (by omega))
  · intro i' hi'
    by_cases x : i' = i
    · subst x; exact hv
    · show M' _ = _
      rw [e _ (by omega) (by omega), e _ (by omega) (by omega), e _ (by omega) (by omega)]; exact (m _ (by omega) (by omega)).trans (h11 i' hi')
/-- a sample's cells changed -/
theorem LabAt.putSp (hA : aInj ad) (hc : c + 31 ≤ 256) (h : LabAt M ad c g dn n π) (h9 : ∀ k, k < n → pMany g k ≤ 9) {k : Nat} (hk : k < 8) (hM : ∀ b, b ≠ ad (c + 12 + π k) → b ≠ ad (c + 20 + π k) → M' b = M b) (hv : SpAny M' (ad (c + 12 + π k)) (ad (c + 20 + π k))) (hk2 : k < n → SpAt M' (ad (c + 12 + π k)) (ad (c + 20 + π k)) g' k)
    (e : ∀ j, j < 376 → (j < 40 + 42 * k ∨ 40 + 42 * k + 42 ≤ j) → g' j = g j) : LabAt M' ad c g' dn n π := by
  obtain ⟨h1, ⟨f1, a1, b1⟩, ⟨f2, a2, b2⟩, ⟨f3, a3, b3⟩, ⟨f4, a4, b4⟩, ⟨f5, a5, b5⟩, h7, h8, h9a, h10, h11, h12, h13, h14, h15⟩ := h
  have hp := h12 k hk
  have m : ∀ i, i < 256 → i ≠ c + 12 + π k → i ≠ c + 20 + π k → M' (ad i) = M (ad i) := fun i h1 h2 h3 => hM _ (hA.ne h1 (by omega) h2) (hA.ne h1 (by omega) h3)
  refine ⟨?_, ⟨f1, (m _ (by omega) (by omega) (by omega)).trans a1, b1⟩, ⟨f2, (m _ (by omega) (by omega) (by omega)).trans a2, b2⟩, ⟨f3, (m _ (by omega) (by omega) (by omega)).trans a3, b3⟩, ⟨f4, (m _ (by omega) (by omega) (by omega)).trans a4, fun b hb => by rw [e _ (by omega) (by omega)]; exact b4 b hb⟩, ⟨f5, (m _ (by omega) (by omega) (by omega)).trans a5, fun b hb => by rw [e _ (by omega) (by omega)]; exact b5 b hb⟩, ?_, ?_, ?_, ?_, ?_, h12, h13, h14, h15⟩
  · rw [e 3 (by omega) (by omega), e 4 (by omega) (by omega), e 8 (by omega) (by omega), e 9 (by omega) (by omega)]; exact (m _ (by omega) (by omega) (by omega)).trans h1
  · intro d hd; exact (h7 d hd).eq (m _ (by omega) (by omega) (by omega))
  · intro d hd
    show M' _ = _
    rw [e _ (by omega) (by omega), e _ (by omega) (by omega), e _ (by omega) (by omega)]; exact (m _ (by omega) (by omega) (by omega)).trans (h8 d hd)
  · intro j hj
    by_cases x : j = π k
    · subst x; exact hv
    · exact (h9a j hj).eq (m _ (by omega) (by omega) (by omega)) (m _ (by omega) (by omega) (by omega))
  · intro j hj
    by_cases x : j = k
    · subst x; exact hk2 hj
    · have h3 := h12 j (by omega)
      have h4 : π j ≠ π k := fun q => x (h13 j k (by omega) hk q)
      exact ((h10 j hj).congr (fun w hw => e _ (by omega) (by omega)) (h9 j hj)).eq (m _ (by omega) (by omega) (by omega)) (m _ (by omega) (by omega) (by omega))
  · intro i hi
    show M' _ = _
    rw [e _ (by omega) (by omega), e _ (by omega) (by omega), e _ (by omega) (by omega)]; exact (m _ (by omega) (by omega) (by omega)).trans (h11 i hi)
/-- its own numbers changed -/
theorem LabAt.putLab (hA : aInj ad) (hc : c + 31 ≤ 256) (h : LabAt M ad c g dn n π) {dn' n' : Nat} (hd : dn' ≤ 6) (hn : n' ≤ 8) (hM : ∀ b, b ≠ ad c → M' b = M b) (hv : M' (ad c) = some (.inl (2, [.ref (ad (c + 1)), .ref (ad (c + 2)), .ref (ad (c + 3)), .ref (ad (c + 4)), .ref (ad (c + 5)), .int (nI dn'), .int (nI n'), .int (g' 3), .int (g' 4), .int (g' 8), .int (g' 9)])))
    (hdr : ∀ d, d < dn' → DrAt M (ad (c + 6 + d)) g d) (hsp : ∀ k, k < n' → SpAt M (ad (c + 12 + π k)) (ad (c + 20 + π k)) g k ∧ pMany g k ≤ 9)
    (e : ∀ j, j < 376 → (5 ≤ j ∧ j < 8 ∨ 10 ≤ j) → g' j = g j) : LabAt M' ad c g' dn' n' π := by
  obtain ⟨h1, ⟨f1, a1, b1⟩, ⟨f2, a2, b2⟩, ⟨f3, a3, b3⟩, ⟨f4, a4, b4⟩, ⟨f5, a5, b5⟩, h7, h8, h9a, h10, h11, h12, h13, h14, h15⟩ := h
  have m : ∀ i, i < 256 → i ≠ c → M' (ad i) = M (ad i) := fun i h1 h2 => hM _ (hA.ne h1 (by omega) h2)
  refine ⟨hv, ⟨f1, (m _ (by omega) (by omega)).trans a1, b1⟩, ⟨f2, (m _ (by omega) (by omega)).trans a2, b2⟩, ⟨f3, (m _ (by omega) (by omega)).trans a3, b3⟩, ⟨f4, (m _ (by omega) (by omega)).trans a4, fun b hb => by rw [e _ (by omega) (by omega)]; exact b4 b hb⟩, ⟨f5, (m _ (by omega) (by omega)).trans a5, fun b hb => by rw [e _ (by omega) (by omega)]; exact b5 b hb⟩, ?_, ?_, ?_, ?_, ?_, h12, h13, hd, hn⟩
  · intro d hd; exact (h7 d hd).eq (m _ (by omega) (by omega))
  · intro d hd
    show M' _ = _
    rw [e _ (by omega) (by omega), e _ (by omega) (by omega), e _ (by omega) (by omega)]; exact (m _ (by omega) (by omega)).trans (hdr d hd)
  · intro k hk; exact (h9a k hk).eq (m _ (by omega) (by omega)) (m _ (by omega) (by omega))
  · intro k hk
    have := h12 k (by omega)
    exact ((hsp k hk).1.congr (fun w hw => e _ (by omega) (by omega)) (hsp k hk).2).eq (m _ (by omega) (by omega)) (m _ (by omega) (by omega))
  · intro i hi
    show M' _ = _
    rw [e _ (by omega) (by omega), e _ (by omega) (by omega), e _ (by omega) (by omega)]; exact (m _ (by omega) (by omega)).trans (h11 i hi)
/-- degrees or settings changed -/
theorem LabAt.putDg (hA : aInj ad) (hc : c + 31 ≤ 256) (h : LabAt M ad c g dn n π) (h9 : ∀ k, k < n → pMany g k ≤ 9) (hM : ∀ b, b ≠ ad (c + 4) → M' b = M b) (hv : ∃ f, M' (ad (c + 4)) = some (.inr (0, 3, .inl f)) ∧ ∀ b, b < 3 → f b = g' (28 + b))
    (e : ∀ j, j < 376 → (j < 28 ∨ 31 ≤ j) → g' j = g j) : LabAt M' ad c g' dn n π := by
  obtain ⟨h1, ⟨f1, a1, b1⟩, ⟨f2, a2, b2⟩, ⟨f3, a3, b3⟩, -, ⟨f5, a5, b5⟩, h7, h8, h9a, h10, h11, h12, h13, h14, h15⟩ := h
  have m : ∀ i, i < 256 → i ≠ c + 4 → M' (ad i) = M (ad i) := fun i h1 h2 => hM _ (hA.ne h1 (by omega) h2)
  refine ⟨?_, ⟨f1, (m _ (by omega) (by omega)).trans a1, b1⟩, ⟨f2, (m _ (by omega) (by omega)).trans a2, b2⟩, ⟨f3, (m _ (by omega) (by omega)).trans a3, b3⟩, hv, ⟨f5, (m _ (by omega) (by omega)).trans a5, fun b hb => by rw [e _ (by omega) (by omega)]; exact b5 b hb⟩, ?_, ?_, ?_, ?_, ?_, h12, h13, h14, h15⟩
  · rw [e 3 (by omega) (by omega), e 4 (by omega) (by omega), e 8 (by omega) (by omega), e 9 (by omega) (by omega)]; exact (m _ (by omega) (by omega)).trans h1
  · intro d hd; exact (h7 d hd).eq (m _ (by omega) (by omega))
  · intro d hd
    show M' _ = _
    rw [e _ (by omega) (by omega), e _ (by omega) (by omega), e _ (by omega) (by omega)]; exact (m _ (by omega) (by omega)).trans (h8 d hd)
  · intro k hk; exact (h9a k hk).eq (m _ (by omega) (by omega)) (m _ (by omega) (by omega))
  · intro k hk
    have := h12 k (by omega)
    exact ((h10 k hk).congr (fun w hw => e _ (by omega) (by omega)) (h9 k hk)).eq (m _ (by omega) (by omega)) (m _ (by omega) (by omega))
  · intro i hi
    show M' _ = _
    rw [e _ (by omega) (by omega), e _ (by omega) (by omega), e _ (by omega) (by omega)]; exact (m _ (by omega) (by omega)).trans (h11 i hi)
theorem LabAt.putSt (hA : aInj ad) (hc : c + 31 ≤ 256) (h : LabAt M ad c g dn n π) (h9 : ∀ k, k < n → pMany g k ≤ 9) (hM : ∀ b, b ≠ ad (c + 5) → M' b = M b) (hv : ∃ f, M' (ad (c + 5)) = some (.inr (0, 3, .inl f)) ∧ ∀ i, i < 3 → f i = g' (5 + i))
    (e : ∀ j, j < 376 → (j < 5 ∨ 8 ≤ j) → g' j = g j) : LabAt M' ad c g' dn n π := by
  obtain ⟨h1, ⟨f1, a1, b1⟩, ⟨f2, a2, b2⟩, ⟨f3, a3, b3⟩, ⟨f4, a4, b4⟩, -, h7, h8, h9a, h10, h11, h12, h13, h14, h15⟩ := h
  have m : ∀ i, i < 256 → i ≠ c + 5 → M' (ad i) = M (ad i) := fun i h1 h2 => hM _ (hA.ne h1 (by omega) h2)
  refine ⟨?_, ⟨f1, (m _ (by omega) (by omega)).trans a1, b1⟩, ⟨f2, (m _ (by omega) (by omega)).trans a2, b2⟩, ⟨f3, (m _ (by omega) (by omega)).trans a3, b3⟩, ⟨f4, (m _ (by omega) (by omega)).trans a4, fun b hb => by rw [e _ (by omega) (by omega)]; exact b4 b hb⟩, hv, ?_, ?_, ?_, ?_, ?_, h12, h13, h14, h15⟩
  · rw [e 3 (by omega) (by omega), e 4 (by omega) (by omega), e 8 (by omega) (by omega), e 9 (by omega) (by omega)]; exact (m _ (by omega) (by omega)).trans h1
  · intro d hd; exact (h7 d hd).eq (m _ (by omega) (by omega))
  · intro d hd
    show M' _ = _
    rw [e _ (by omega) (by omega), e _ (by omega) (by omega), e _ (by omega) (by omega)]; exact (m _ (by omega) (by omega)).trans (h8 d hd)
  · intro k hk; exact (h9a k hk).eq (m _ (by omega) (by omega)) (m _ (by omega) (by omega))
  · intro k hk
    have := h12 k (by omega)
    exact ((h10 k hk).congr (fun w hw => e _ (by omega) (by omega)) (h9 k hk)).eq (m _ (by omega) (by omega)) (m _ (by omega) (by omega))
  · intro i hi
    show M' _ = _
    rw [e _ (by omega) (by omega), e _ (by omega) (by omega), e _ (by omega) (by omega)]; exact (m _ (by omega) (by omega)).trans (h11 i hi)
end LabS
