/-! what is read doesn't hang on the numbers before -/
def usedEq (part : Nat) (u u' : Nat → Int32) : Prop := u 0 = u' 0 ∧ (part = 98 → u 1 = u' 1) ∧ (part = 110 → u 1 = u' 1 ∧ u 2 = u' 2 ∧ u 3 = u' 3)
theorem usedEq.symm {part : Nat} {u u' : Nat → Int32} (h : usedEq part u u') : usedEq part u' u := ⟨h.1.symm, fun e => (h.2.1 e).symm, fun e => ⟨(h.2.2 e).1.symm, (h.2.2 e).2.1.symm, (h.2.2 e).2.2.symm⟩⟩
def PN (part : Nat) (u : Nat → Int32) : Prop :=
  (part = 36 ∧ ∃ d, d < 6 ∧ u 0 = nI d) ∨ (part = 43 ∧ ∃ q, 1 ≤ q ∧ q ≤ 99 ∧ u 0 = nI q) ∨ (part = 98 ∧ ∃ k, k < 8 ∧ u 0 = nI k ∧ (u 1 = -1 ∨ ∃ b, b < 3 ∧ u 1 = nI b)) ∨
  (part = 110 ∧ ∃ nd k w s, nd < 3 ∧ k < 8 ∧ 50 ≤ w ∧ w ≤ 200 ∧ 1 ≤ s ∧ s ≤ 60 ∧ u 0 = nI nd ∧ u 1 = nI k ∧ u 2 = nI w ∧ u 3 = nI s) ∨ (part = 111 ∧ ∃ k, k < 8 ∧ u 0 = nI k) ∨ (part = 115 ∧ ∃ d, d < 6 ∧ u 0 = nI d)
def nu0 : Nat → Int32 := fun _ => 0
theorem rDig_nu {ch : Nat → Nat} {nu nu' : Nat → Int32} {p most i : Nat} : (rDig ch nu p most i).1 = (rDig ch nu' p most i).1 ∧ (rDig ch nu p most i).2.1 = (rDig ch nu' p most i).2.1 ∧ (rDig ch nu p most i).2.2 p = (rDig ch nu' p most i).2.2 p := by
  unfold rDig
  by_cases h : pDg ch most i
  · rw [if_pos h, if_pos h]; exact ⟨rfl, rfl, by show upd _ _ _ _ = upd _ _ _ _; rw [pk_us, pk_us]⟩
  · rw [if_neg h, if_neg h]; exact ⟨rfl, rfl, by show upd _ _ _ _ = upd _ _ _ _; rw [pk_us, pk_us]⟩
theorem rDig_v {ch : Nat → Nat} {nu : Nat → Int32} {p most i : Nat} (h : (rDig ch nu p most i).1 = true) : ∃ d, d < most + 1 ∧ (rDig ch nu p most i).2.2 p = nI d := by
  unfold rDig at h ⊢
  by_cases h1 : pDg ch most i
  · rw [if_pos h1]; exact ⟨ch i - 48, by have := h1.2; omega, by show upd _ _ _ _ = _; rw [pk_us]⟩
  · rw [if_neg h1] at h; cases h
theorem rNum_v {ch : Nat → Nat} {nu : Nat → Int32} {p least most i : Nat} (h : (rNum ch nu p least most i).1 = true) : ∃ d, least ≤ d ∧ d ≤ most ∧ (rNum ch nu p least most i).2.2 p = nI d :=
  ⟨(rnum ch least most i).1, of_decide_eq_true h, rnum_v, by show upd _ _ _ _ = _; rw [pk_us]⟩
theorem rBath_nu {ch : Nat → Nat} {nu nu' : Nat → Int32} {i : Nat} : (rBath ch nu i).1 = (rBath ch nu' i).1 ∧ (rBath ch nu i).2.1 = (rBath ch nu' i).2.1 ∧ ((rBath ch nu i).1 = true → (rBath ch nu i).2.2 0 = (rBath ch nu' i).2.2 0 ∧ (rBath ch nu i).2.2 1 = (rBath ch nu' i).2.2 1) := by
  unfold rBath
  by_cases h : pDg ch 7 i
  · rw [if_pos h, if_pos h]
    by_cases h2 : pDg ch 2 (i + 1)
    · rw [if_pos h2, if_pos h2]; exact ⟨rfl, rfl, fun _ => ⟨rfl, rfl⟩⟩
    · rw [if_neg h2, if_neg h2]
      by_cases h3 : ch (i + 1) = 45
      · rw [if_pos h3, if_pos h3]; exact ⟨rfl, rfl, fun _ => ⟨rfl, rfl⟩⟩
      · rw [if_neg h3, if_neg h3]; exact ⟨rfl, rfl, fun h => by cases h⟩
  · rw [if_neg h, if_neg h]; exact ⟨rfl, rfl, fun h => by cases h⟩
theorem rBath_v {ch : Nat → Nat} {nu : Nat → Int32} {i : Nat} (ht : (rBath ch nu i).1 = true) : ∃ k, k < 8 ∧ (rBath ch nu i).2.2 0 = nI k ∧ ((rBath ch nu i).2.2 1 = -1 ∨ ∃ b, b < 3 ∧ (rBath ch nu i).2.2 1 = nI b) := by
  unfold rBath at ht ⊢
  by_cases h : pDg ch 7 i
  · rw [if_pos h] at ht ⊢
    by_cases h2 : pDg ch 2 (i + 1)
    · rw [if_pos h2]; exact ⟨ch i - 48, by have := h.2; omega, rfl, Or.inr ⟨ch (i + 1) - 48, by have := h2.2; omega, rfl⟩⟩
    · rw [if_neg h2] at ht ⊢
      by_cases h3 : ch (i + 1) = 45
      · rw [if_pos h3]; exact ⟨ch i - 48, by have := h.2; omega, rfl, Or.inl rfl⟩
      · rw [if_neg h3] at ht; cases ht
  · rw [if_neg h] at ht; cases ht
theorem rLoad_nu {ch : Nat → Nat} {nu nu' : Nat → Int32} {i : Nat} : (rLoad ch nu i).1 = (rLoad ch nu' i).1 ∧ (rLoad ch nu i).2.1 = (rLoad ch nu' i).2.1 ∧ ((rLoad ch nu i).1 = true → (rLoad ch nu i).2.2 2 = (rLoad ch nu' i).2.2 2 ∧ (rLoad ch nu i).2.2 3 = (rLoad ch nu' i).2.2 3 ∧ (rLoad ch nu i).2.2 0 = nu 0 ∧ (rLoad ch nu i).2.2 1 = nu 1) := by
  unfold rLoad
  by_cases h : 50 ≤ (rnum ch 50 200 i).1
  · rw [if_pos h, if_pos h]
    by_cases h2 : ch (rnum ch 50 200 i).2 = 47
    · rw [if_pos h2, if_pos h2]; exact ⟨rfl, rfl, fun _ => ⟨rfl, rfl, rfl, rfl⟩⟩
    · rw [if_neg h2, if_neg h2]; exact ⟨rfl, rfl, fun h => by cases h⟩
  · rw [if_neg h, if_neg h]; exact ⟨rfl, rfl, fun h => by cases h⟩
theorem rLoad_v {ch : Nat → Nat} {nu : Nat → Int32} {i : Nat} (ht : (rLoad ch nu i).1 = true) : ∃ w s, 50 ≤ w ∧ w ≤ 200 ∧ 1 ≤ s ∧ s ≤ 60 ∧ (rLoad ch nu i).2.2 2 = nI w ∧ (rLoad ch nu i).2.2 3 = nI s := by
  unfold rLoad at ht ⊢
  by_cases h : 50 ≤ (rnum ch 50 200 i).1
  · rw [if_pos h] at ht ⊢
    by_cases h2 : ch (rnum ch 50 200 i).2 = 47
    · rw [if_pos h2] at ht ⊢
      exact ⟨(rnum ch 50 200 i).1, (rnum ch 1 60 ((rnum ch 50 200 i).2 + 1)).1, h, rnum_v, of_decide_eq_true ht, rnum_v, rfl, rfl⟩
    · rw [if_neg h2] at ht; cases ht
  · rw [if_neg h] at ht; cases ht
theorem rSink_nu {ch : Nat → Nat} {nu nu' : Nat → Int32} {i : Nat} : (rSink ch nu i).1 = (rSink ch nu' i).1 ∧ (rSink ch nu i).2.1 = (rSink ch nu' i).2.1 ∧ ((rSink ch nu i).1 = true → (rSink ch nu i).2.2 0 = (rSink ch nu' i).2.2 0 ∧ (rSink ch nu i).2.2 1 = (rSink ch nu' i).2.2 1 ∧ (rSink ch nu i).2.2 2 = (rSink ch nu' i).2.2 2 ∧ (rSink ch nu i).2.2 3 = (rSink ch nu' i).2.2 3) := by
  unfold rSink
  by_cases h : pDg ch 2 i
  · rw [if_pos h, if_pos h]
    by_cases h2 : pDg ch 7 (i + 1)
    · rw [if_pos h2, if_pos h2]
      by_cases h3 : ch (i + 1 + 1) = 42
      · rw [if_pos h3, if_pos h3]
        obtain ⟨a1, a2, a3⟩ := rLoad_nu (ch := ch) (nu := dgN (dgN nu ch 0 i) ch 1 (i + 1)) (nu' := dgN (dgN nu' ch 0 i) ch 1 (i + 1)) (i := i + 1 + 1 + 1)
        obtain ⟨b1, b2, b3⟩ := rLoad_nu (ch := ch) (nu := dgN (dgN nu' ch 0 i) ch 1 (i + 1)) (nu' := dgN (dgN nu ch 0 i) ch 1 (i + 1)) (i := i + 1 + 1 + 1)
        refine ⟨a1, a2, fun ht => ?_⟩
        have ht' := ht
        rw [a1] at ht'
        obtain ⟨c1, c2, c3, c4⟩ := a3 ht
        obtain ⟨d1, d2, d3, d4⟩ := b3 ht'
        exact ⟨c3.trans d3.symm, c4.trans d4.symm, c1, c2⟩
      · rw [if_neg h3, if_neg h3]; exact ⟨rfl, rfl, fun h => by cases h⟩
    · rw [if_neg h2, if_neg h2]; exact ⟨rfl, rfl, fun h => by cases h⟩
  · rw [if_neg h, if_neg h]; exact ⟨rfl, rfl, fun h => by cases h⟩
theorem rSink_v {ch : Nat → Nat} {nu : Nat → Int32} {i : Nat} (ht : (rSink ch nu i).1 = true) : ∃ nd k w s, nd < 3 ∧ k < 8 ∧ 50 ≤ w ∧ w ≤ 200 ∧ 1 ≤ s ∧ s ≤ 60 ∧ (rSink ch nu i).2.2 0 = nI nd ∧ (rSink ch nu i).2.2 1 = nI k ∧ (rSink ch nu i).2.2 2 = nI w ∧ (rSink ch nu i).2.2 3 = nI s := by
  unfold rSink at ht ⊢
  by_cases h : pDg ch 2 i
  · rw [if_pos h] at ht ⊢
    by_cases h2 : pDg ch 7 (i + 1)
    · rw [if_pos h2] at ht ⊢
      by_cases h3 : ch (i + 1 + 1) = 42
      · rw [if_pos h3] at ht ⊢
        obtain ⟨w, s, e1, e2, e3, e4, e5, e6⟩ := rLoad_v ht
        obtain ⟨-, -, a3⟩ := rLoad_nu (ch := ch) (nu := dgN (dgN nu ch 0 i) ch 1 (i + 1)) (nu' := dgN (dgN nu ch 0 i) ch 1 (i + 1)) (i := i + 1 + 1 + 1)
        obtain ⟨-, -, c3, c4⟩ := a3 ht
        exact ⟨ch i - 48, ch (i + 1) - 48, w, s, by have := h.2; omega, by have := h2.2; omega, e1, e2, e3, e4, c3, c4, e5, e6⟩
      · rw [if_neg h3] at ht; cases ht
    · rw [if_neg h2] at ht; cases ht
  · rw [if_neg h] at ht; cases ht
theorem rPart_nu {ch : Nat → Nat} {nu nu' : Nat → Int32} {i : Nat} : (rPart ch nu i).1 = (rPart ch nu' i).1 ∧ (rPart ch nu i).2.1 = (rPart ch nu' i).2.1 ∧ ((rPart ch nu i).1 = true → usedEq (ch i) (rPart ch nu i).2.2 (rPart ch nu' i).2.2) := by
  unfold rPart
  by_cases c1 : ch i = 36
  · rw [if_pos c1, if_pos c1]
    obtain ⟨a, b, c⟩ := rDig_nu (ch := ch) (nu := nu) (nu' := nu') (p := 0) (most := 5) (i := i + 1)
    exact ⟨a, b, fun _ => ⟨c, fun e => by omega, fun e => by omega⟩⟩
  rw [if_neg c1, if_neg c1]
  by_cases c2 : ch i = 43
  · rw [if_pos c2, if_pos c2]
    exact ⟨rfl, rfl, fun _ => ⟨rfl, fun e => by omega, fun e => by omega⟩⟩
  rw [if_neg c2, if_neg c2]
  by_cases c3 : ch i = 98
  · rw [if_pos c3, if_pos c3]
    obtain ⟨a, b, c⟩ := rBath_nu (ch := ch) (nu := nu) (nu' := nu') (i := i + 1)
    exact ⟨a, b, fun h => ⟨(c h).1, fun e => (c h).2, fun e => by omega⟩⟩
  rw [if_neg c3, if_neg c3]
  by_cases c4 : ch i = 110
  · rw [if_pos c4, if_pos c4]
    obtain ⟨a, b, c⟩ := rSink_nu (ch := ch) (nu := nu) (nu' := nu') (i := i + 1)
    exact ⟨a, b, fun h => ⟨(c h).1, fun e => by omega, fun e => (c h).2⟩⟩
  rw [if_neg c4, if_neg c4]
  by_cases c5 : ch i = 111
  · rw [if_pos c5, if_pos c5]
    obtain ⟨a, b, c⟩ := rDig_nu (ch := ch) (nu := nu) (nu' := nu') (p := 0) (most := 7) (i := i + 1)
    exact ⟨a, b, fun _ => ⟨c, fun e => by omega, fun e => by omega⟩⟩
  rw [if_neg c5, if_neg c5]
  by_cases c6 : ch i = 115
  · rw [if_pos c6, if_pos c6]
    obtain ⟨a, b, c⟩ := rDig_nu (ch := ch) (nu := nu) (nu' := nu') (p := 0) (most := 5) (i := i + 1)
    exact ⟨a, b, fun _ => ⟨c, fun e => by omega, fun e => by omega⟩⟩
  rw [if_neg c6, if_neg c6]
  exact ⟨rfl, rfl, fun h => by cases h⟩
theorem rPart_PN {ch : Nat → Nat} {nu : Nat → Int32} {i : Nat} (ht : (rPart ch nu i).1 = true) : PN (ch i) (rPart ch nu i).2.2 := by
  unfold rPart at ht ⊢
  by_cases c1 : ch i = 36
  · rw [if_pos c1] at ht ⊢; exact Or.inl ⟨c1, rDig_v ht⟩
  rw [if_neg c1] at ht ⊢
  by_cases c2 : ch i = 43
  · rw [if_pos c2] at ht ⊢; exact Or.inr (Or.inl ⟨c2, rNum_v ht⟩)
  rw [if_neg c2] at ht ⊢
  by_cases c3 : ch i = 98
  · rw [if_pos c3] at ht ⊢; exact Or.inr (Or.inr (Or.inl ⟨c3, rBath_v ht⟩))
  rw [if_neg c3] at ht ⊢
  by_cases c4 : ch i = 110
  · rw [if_pos c4] at ht ⊢; exact Or.inr (Or.inr (Or.inr (Or.inl ⟨c4, rSink_v ht⟩)))
  rw [if_neg c4] at ht ⊢
  by_cases c5 : ch i = 111
  · rw [if_pos c5] at ht ⊢; exact Or.inr (Or.inr (Or.inr (Or.inr (Or.inl ⟨c5, rDig_v ht⟩))))
  rw [if_neg c5] at ht ⊢
  by_cases c6 : ch i = 115
  · rw [if_pos c6] at ht ⊢; exact Or.inr (Or.inr (Or.inr (Or.inr (Or.inr ⟨c6, rDig_v ht⟩))))
  rw [if_neg c6] at ht
  cases ht
theorem rAll_nu {ch : Nat → Nat} {ln : Nat} : ∀ N (nu nu' : Nat → Int32) i, (rAll ch ln N nu i).1.1 = (rAll ch ln N nu' i).1.1 ∧ (rAll ch ln N nu i).1.2.1 = (rAll ch ln N nu' i).1.2.1
  | 0, _, _, _ => ⟨rfl, rfl⟩
  | N + 1, nu, nu', i => by
    obtain ⟨a, b, -⟩ := rPart_nu (ch := ch) (nu := nu) (nu' := nu') (i := i)
    unfold rAll
    by_cases h1 : (rPart ch nu i).1 = true
    · have h1' : (rPart ch nu' i).1 = true := a.symm.trans h1
      rw [if_pos h1, if_pos h1']
      by_cases h2 : (rPart ch nu i).2.1 = ln
      · have h2' : (rPart ch nu' i).2.1 = ln := b.symm.trans h2
        rw [if_pos h2, if_pos h2']; exact ⟨a, b⟩
      · have h2' : ¬ (rPart ch nu' i).2.1 = ln := fun h => h2 (b.trans h)
        rw [if_neg h2, if_neg h2', ← b]
        by_cases h3 : ch (rPart ch nu i).2.1 = 59
        · rw [if_pos h3, if_pos h3]; exact rAll_nu N _ _ _
        · rw [if_neg h3, if_neg h3]; exact ⟨rfl, b⟩
    · have h1' : ¬ (rPart ch nu' i).1 = true := fun h => h1 (a.trans h)
      rw [if_neg h1, if_neg h1']; exact ⟨a, b⟩
