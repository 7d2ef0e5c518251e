theorem pIn_t {v lo hi : Int32} (h1 : ¬ v < lo) (h2 : ¬ hi < v) : nI 1 = bI (pIn v lo hi) := by
  have : pIn v lo hi = true := by simp only [pIn, Bool.and_eq_true, decide_eq_true_eq]; exact ⟨Int32.not_lt.mp h1, Int32.not_lt.mp h2⟩
  rw [this]; rfl
theorem pIn_f1 {v lo hi : Int32} (h1 : v < lo) : nI 0 = bI (pIn v lo hi) := by
  have : pIn v lo hi = false := by simp only [pIn, Bool.and_eq_false_iff, decide_eq_false_iff_not]; exact Or.inl (Int32.not_le.mpr h1)
  rw [this]; rfl
theorem pIn_f2 {v lo hi : Int32} (h1 : hi < v) : nI 0 = bI (pIn v lo hi) := by
  have : pIn v lo hi = false := by simp only [pIn, Bool.and_eq_false_iff, decide_eq_false_iff_not]; exact Or.inr (Int32.not_le.mpr h1)
  rw [this]; rfl
theorem pIn_nat {v : Int32} {n : Nat} (hn : n < 2 ^ 30) (h : pIn v (nI 0) (nI n - 1) = true) : ∃ k, k < n ∧ v = nI k := by
  simp only [pIn, Bool.and_eq_true, decide_eq_true_eq] at h
  obtain ⟨h1, h2⟩ := h
  have e1 : (0 : Int) ≤ v.toInt := by
    have := Int32.le_iff_toInt_le.mp h1
    rw [nI_toInt (by omega)] at this
    exact this
  have e2 : v.toInt ≤ (n : Int) - 1 := by
    have := Int32.le_iff_toInt_le.mp h2
    rw [show (nI n - 1 : Int32) = nI n - nI 1 from rfl, pk_sub_toInt hn (by decide)] at this
    exact this
  refine ⟨v.toInt.toNat, by omega, ?_⟩
  apply Int32.toInt_inj.mp
  rw [nI_toInt (by omega)]
  omega
theorem pIn_nat2 {v : Int32} {n : Nat} (hn : n < 2 ^ 30) (h : pIn v (nI 0) (nI n) = true) : ∃ k, k ≤ n ∧ v = nI k := by
  simp only [pIn, Bool.and_eq_true, decide_eq_true_eq] at h
  obtain ⟨h1, h2⟩ := h
  have e1 : (0 : Int) ≤ v.toInt := by
    have := Int32.le_iff_toInt_le.mp h1
    rw [nI_toInt (by omega)] at this
    exact this
  have e2 : v.toInt ≤ (n : Int) := by
    have := Int32.le_iff_toInt_le.mp h2
    rw [nI_toInt (by omega)] at this
    exact this
  refine ⟨v.toInt.toNat, by omega, ?_⟩
  apply Int32.toInt_inj.mp
  rw [nI_toInt (by omega)]
  omega
