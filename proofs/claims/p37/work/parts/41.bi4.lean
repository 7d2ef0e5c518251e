/-! means and sales -/
theorem pLat_nI {f : Nat → Int32} {dn n k a : Nat} (h : BI f dn n) (hk : k < n) (ha : a < pMany f k) : (∃ x, x < 3 ∧ pLat f k a 0 = nI x) ∧ (∃ y, y ≤ 400 ∧ pLat f k a 1 = nI y) := h.rd k hk (pMany f k - 1 - a) (by omega)
theorem pPen_nI {f : Nat → Int32} {dn n k : Nat} (h : BI f dn n) (hk : k < n) : pPen f k = -1 ∨ ∃ y, y ≤ 400 ∧ pPen f k = nI y := by
  unfold pPen
  by_cases h0 : 0 < pWhy f k
  · rw [if_pos h0]; exact Or.inl rfl
  · rw [if_neg h0]
    have h3 := pWhy_many (Int32.not_lt.mp h0)
    obtain ⟨a, ha, ea⟩ := (pLat_nI h hk (a := 0) (by omega)).2
    obtain ⟨b, hb, eb⟩ := (pLat_nI h hk (a := 1) (by omega)).2
    obtain ⟨c, hc, ec⟩ := (pLat_nI h hk (a := 2) (by omega)).2
    rw [ea, eb, ec, nI_add, nI_add, pk_div (by omega) (by omega) (by omega)]
    exact Or.inr ⟨_, by omega, rfl⟩
theorem pTold_nI {f : Nat → Int32} {dn n k : Nat} {q : Bool} (h : BI f dn n) (hk : k < n) : pTold f k q = -1 ∨ ∃ y, y ≤ (if q = true then 400 else 2100) ∧ pTold f k q = nI y := by
  unfold pTold
  cases q
  · rcases (h.sa k hk).2.2.2.2.1 with e | ⟨s, h1, -, e⟩
    · exact Or.inl e
    · exact Or.inr ⟨s, h1, e⟩
  · exact pPen_nI h hk
theorem pSum_nI {f : Nat → Int32} {dn n d : Nat} {q : Bool} (h : BI f dn n) : ∀ k, k ≤ n → ∃ S, S ≤ (if q = true then 400 else 2100) * pNum f d q k ∧ pSum f d q k = nI S
  | 0, _ => ⟨0, by omega, rfl⟩
  | k + 1, hk => by
    obtain ⟨S, hS, e⟩ := pSum_nI (q := q) (d := d) h k (by omega)
    show ∃ S', S' ≤ _ * (pCnt (fun k => pIs f d q k) k + (if pIs f d q k then 1 else 0)) ∧ pSum f d q k + (if pIs f d q k then pTold f k q else nI 0) = nI S'
    have hS' : S ≤ (if q = true then 400 else 2100) * pCnt (fun k => pIs f d q k) k := hS
    by_cases hi : pIs f d q k
    · rw [if_pos hi, if_pos hi]
      rcases pTold_nI (q := q) h (k := k) (by omega) with e1 | ⟨y, hy, e1⟩
      · exact absurd e1 hi.2
      · rw [e, e1, nI_add]
        exact ⟨_, by rw [Nat.mul_add, Nat.mul_one]; omega, rfl⟩
    · rw [if_neg hi, if_neg hi, e, nI_add]
      exact ⟨_, by omega, rfl⟩
theorem pNum_le {f : Nat → Int32} {d n : Nat} {q : Bool} : pNum f d q n ≤ n := pCnt_le _ n
theorem pMean_nI {f : Nat → Int32} {dn n d : Nat} {q : Bool} (h : BI f dn n) : (pNum f d q n = 0 ∧ pMean f n d q = -1) ∨ ∃ y, y ≤ (if q = true then 400 else 2100) ∧ 0 < pNum f d q n ∧ pMean f n d q = nI y := by
  have hn := h.nle
  unfold pMean
  by_cases h0 : pNum f d q n = 0
  · rw [if_pos h0]; exact Or.inl ⟨h0, rfl⟩
  · rw [if_neg h0]
    obtain ⟨S, hS, e⟩ := pSum_nI (q := q) (d := d) h n (Nat.le_refl _)
    have hle : pNum f d q n ≤ n := pNum_le
    have hS2 : S ≤ 2100 * pNum f d q n := by cases q <;> simp only [if_true, if_false, Bool.false_eq_true] at hS <;> omega
    rw [e, pk_div (by omega) (by omega) (by omega)]
    refine Or.inr ⟨_, ?_, by omega, rfl⟩
    apply Nat.div_le_of_le_mul
    rw [Nat.mul_comm]; exact hS
theorem pWhyS_0 {f : Nat → Int32} {n d : Nat} (h : pWhyS f n d ≤ 0) : 2 ≤ pNum f d true n := by
  unfold pWhyS at h
  by_cases h1 : ¬ f (10 + 3 * d + 2) = -1
  · rw [if_pos h1] at h; exact absurd h (by decide)
  · rw [if_neg h1] at h
    by_cases h2 : pNum f d true n < 2
    · rw [if_pos h2] at h; exact absurd h (by decide)
    · omega
theorem BI.sell {f : Nat → Int32} {dn n d : Nat} (h : BI f dn n) (hd : d < dn) (hw : 2 ≤ pNum f d true n) : BI (pSell f n d) dn n := by
  unfold pSell
  rcases pMean_nI (d := d) (q := true) h with ⟨h0, -⟩ | ⟨y, hy, -, e⟩
  · omega
  · have hy' : y ≤ 400 := hy
    rw [e, pk_div (by omega) (by omega) (by omega)]
    exact h.uClass hd (by omega)
