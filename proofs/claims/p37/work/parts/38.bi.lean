/-! WHAT STANDS IN EVERY BLOCK KEEPS STANDING -/
theorem i32_ext {x y : Int32} (h : x.toInt = y.toInt) : x = y := Int32.toInt_inj.mp h
theorem i32_lo (x : Int32) : -2147483648 ≤ x.toInt := Int32.le_toInt x
theorem i32_hi (x : Int32) : x.toInt < 2147483648 := Int32.toInt_lt x
theorem bm32 {z : Int} (h1 : -2147483648 ≤ z) (h2 : z < 2147483648) : Int.bmod z (2 ^ 32) = z := by
  apply Int.bmod_eq_of_le <;> omega
theorem i32_add {x y : Int32} {z : Int} (e : x.toInt + y.toInt = z) (h1 : -2147483648 ≤ z) (h2 : z < 2147483648) : (x + y).toInt = z := by
  rw [Int32.toInt_add, e]; exact bm32 h1 h2
theorem i32_sub {x y : Int32} {z : Int} (e : x.toInt - y.toInt = z) (h1 : -2147483648 ≤ z) (h2 : z < 2147483648) : (x - y).toInt = z := by
  rw [Int32.toInt_sub, e]; exact bm32 h1 h2
theorem i32_mul {x y : Int32} {z : Int} (e : x.toInt * y.toInt = z) (h1 : -2147483648 ≤ z) (h2 : z < 2147483648) : (x * y).toInt = z := by
  rw [Int32.toInt_mul, e]; exact bm32 h1 h2
theorem i32_div {x y : Int32} {z : Int} (e : x.toInt.tdiv y.toInt = z) (h1 : -2147483648 ≤ z) (h2 : z < 2147483648) : (x / y).toInt = z := by
  rw [Int32.toInt_div, e]; exact bm32 h1 h2
theorem i32_lt {x y : Int32} : x < y ↔ x.toInt < y.toInt := Int32.lt_iff_toInt_lt
theorem i32_le {x y : Int32} : x ≤ y ↔ x.toInt ≤ y.toInt := Int32.le_iff_toInt_le
theorem i32_eq {x y : Int32} : x = y ↔ x.toInt = y.toInt := Int32.toInt_inj.symm
theorem i32_0 : (0 : Int32).toInt = 0 := by decide
theorem i32_1 : (1 : Int32).toInt = 1 := by decide
theorem i32_m1 : (-1 : Int32).toInt = -1 := by decide
/-- the quotient rounded down -/
theorem pDiv_toInt {x : Int32} {m : Nat} (h0 : 0 < m) (hm : m < 2 ^ 31) : (pDiv x (nI m)).toInt = x.toInt / (m : Int) := by
  have em : (nI m).toInt = (m : Int) := nI_toInt hm
  have hl := i32_lo x
  have hh := i32_hi x
  have hq := Int.tdiv_eq_ediv (a := x.toInt) (b := (m : Int))
  have hd := Int.mul_ediv_add_emod x.toInt (m : Int)
  have hr0 := Int.emod_nonneg x.toInt (show (m : Int) ≠ 0 by omega)
  have hr1 := Int.emod_lt_of_pos x.toInt (show (0 : Int) < m by omega)
  have hmp : (0 : Int) < m := by omega
  have hqlo : -2147483648 ≤ x.toInt / (m : Int) := by
    apply Int.le_ediv_of_mul_le hmp
    have : (-2147483648 : Int) * m ≤ -2147483648 * 1 := by
      apply Int.mul_le_mul_of_nonpos_left <;> omega
    omega
  have hqhi : x.toInt / (m : Int) < 2147483648 := by
    apply Int.ediv_lt_of_lt_mul hmp
    have : (2147483648 : Int) * 1 ≤ 2147483648 * m := by
      apply Int.mul_le_mul_of_nonneg_left <;> omega
    omega
  have hsign : (m : Int).sign = 1 := Int.sign_eq_one_of_pos hmp
  rw [hsign] at hq
  have hmul : (m : Int) * (x.toInt / (m : Int) + 1) = (m : Int) * (x.toInt / (m : Int)) + m := by
    rw [Int.mul_add, Int.mul_one]
  by_cases hc : 0 ≤ x.toInt ∨ (m : Int) ∣ x.toInt
  · rw [if_pos hc, Int.add_zero] at hq
    have e1 : (x / nI m).toInt = x.toInt / (m : Int) := i32_div (by rw [em]; exact hq) hqlo hqhi
    have e2 : (x / nI m * nI m).toInt = x.toInt / (m : Int) * m := i32_mul (by rw [e1, em]) (by rw [Int.mul_comm]; rcases hc with hc | hc; omega; rw [Int.mul_ediv_cancel' hc]; omega) (by rw [Int.mul_comm]; omega)
    have e3 : (x - x / nI m * nI m).toInt = x.toInt % (m : Int) := i32_sub (by rw [e2, Int.mul_comm]; omega) (by omega) (by omega)
    unfold pDiv
    rw [if_neg (by rw [i32_lt, e3, i32_0]; omega)]
    exact e1
  · rw [if_neg hc] at hq
    have hneg : x.toInt < 0 := by omega
    have hnd : ¬ (m : Int) ∣ x.toInt := fun h => hc (Or.inr h)
    have hrne : x.toInt % (m : Int) ≠ 0 := fun h => hnd (Int.dvd_of_emod_eq_zero h)
    have hqneg : x.toInt / (m : Int) < 0 := Int.ediv_neg_of_neg_of_pos hneg hmp
    have e1 : (x / nI m).toInt = x.toInt / (m : Int) + 1 := i32_div (by rw [em]; exact hq) (by omega) (by omega)
    have e2 : (x / nI m * nI m).toInt = (x.toInt / (m : Int) + 1) * m := i32_mul (by rw [e1, em]) (by rw [Int.mul_comm, hmul]; omega) (by rw [Int.mul_comm, hmul]; omega)
    have e3 : (x - x / nI m * nI m).toInt = x.toInt % (m : Int) - m := i32_sub (by rw [e2, Int.mul_comm, hmul]; omega) (by omega) (by omega)
    unfold pDiv
    rw [if_pos (by rw [i32_lt, e3, i32_0]; omega)]
    exact i32_sub (by rw [e1, i32_1]; omega) hqlo hqhi
/-- a degree a minute later, over natural numbers -/
def wN (a b : Nat) : Nat := if a ≤ b then a + (b - a) / 4 + (if a < b ∧ (b - a) / 4 = 0 then 1 else 0) else a - (a - b + 3) / 4
theorem wN_le {a b : Nat} (ha : a ≤ 900) (hb : b ≤ 900) : wN a b ≤ 900 := by
  unfold wN
  split
  · split <;> omega
  · omega
theorem pWarm_nI {a b : Nat} (ha : a ≤ 900) (hb : b ≤ 900) : pWarm (nI a) (nI b) = nI (wN a b) := by
  have h4 : (pDiv (nI b - nI a) (nI 4)).toInt = ((b : Int) - a) / 4 := by
    rw [pDiv_toInt (by decide) (by decide), pk_sub_toInt (by omega) (by omega)]; rfl
  have hz : pDiv (nI b - nI a) (nI 4) = 0 ↔ ((b : Int) - a) / 4 = 0 := by rw [i32_eq, h4, i32_0]
  have hlt : nI a < nI b ↔ a < b := nI_ltI (by omega) (by omega)
  have ea := nI_toInt (n := a) (by omega)
  have e1 : (nI a + pDiv (nI b - nI a) (nI 4)).toInt = (a : Int) + ((b : Int) - a) / 4 := i32_add (by rw [ea, h4]) (by omega) (by omega)
  have en0 : (nI 0).toInt = 0 := rfl
  have en1 : (nI 1).toInt = 1 := rfl
  have hw : ((nI (wN a b)).toInt : Int) = (wN a b : Int) := nI_toInt (by have := wN_le ha hb; omega)
  apply i32_ext
  rw [hw]
  unfold pWarm wN
  by_cases c0 : pDiv (nI b - nI a) (nI 4) = 0
  · rw [if_pos c0]
    have c1 := hz.mp c0
    by_cases c2 : nI a < nI b
    · have c3 := hlt.mp c2
      rw [if_pos c2, if_pos (by omega), if_pos (by omega)]
      exact i32_add (by rw [e1, en1]; omega) (by omega) (by omega)
    · have c3 : ¬ a < b := fun h => c2 (hlt.mpr h)
      rw [if_neg c2]
      by_cases c4 : a ≤ b
      · rw [if_pos c4, if_neg (by omega)]
        exact i32_add (by rw [e1, en0]; omega) (by omega) (by omega)
      · rw [if_neg c4]
        exact i32_add (by rw [e1, en0]; omega) (by omega) (by omega)
  · rw [if_neg c0]
    have c1 : ¬ ((b : Int) - a) / 4 = 0 := fun h => c0 (hz.mpr h)
    by_cases c4 : a ≤ b
    · rw [if_pos c4, if_neg (by omega)]
      exact i32_add (by rw [e1, en0]; omega) (by omega) (by omega)
    · rw [if_neg c4]
      exact i32_add (by rw [e1, en0]; omega) (by omega) (by omega)
theorem updP {P : Int32 → Prop} {f : Nat → Int32} {i j : Nat} {x : Int32} (h1 : j = i → P x) (h2 : P (f i)) : P (upd f j x i) := by
  unfold upd
  by_cases h : i = j
  · rw [if_pos h]; exact h1 h.symm
  · rw [if_neg h]; exact h2
/-- what a number must be to be laid at a place -/
def okAt (f : Nat → Int32) (dn n j : Nat) (x : Int32) : Prop :=
  (j ≠ 0 ∧ j ≠ 1 ∧ j ≠ 2 ∧ j ≠ 33 ∧ j ≠ 36 ∧ j ≠ 39) ∧
  (∀ d, d < dn → (j = 10 + 3 * d + 0 → ∃ s, 20 ≤ s ∧ s ≤ 300 ∧ x = nI s) ∧ (j = 10 + 3 * d + 1 → ∃ a, a ≤ 999 ∧ x = nI a) ∧ (j = 10 + 3 * d + 2 → x = -1 ∨ ∃ c, c ≤ 20 ∧ x = nI c)) ∧
  (∀ k, k < n → (j = 40 + 42 * k + 0 → ∃ d, d < dn ∧ x = nI d) ∧ (j = 40 + 42 * k + 1 → ∃ h, h ≤ 149 ∧ x = nI h) ∧ (j = 40 + 42 * k + 2 → ∃ w, w ≤ 900 ∧ x = nI w) ∧ (j = 40 + 42 * k + 3 → x = -1 ∨ ∃ b, b < 3 ∧ x = nI b) ∧ (j = 40 + 42 * k + 4 → x = -1 ∨ ∃ s, s ≤ 2100 ∧ 250 ≤ s ∧ x = nI s) ∧ j ≠ 40 + 42 * k + 5) ∧
  (∀ k, k < n → ∀ r, r < pMany f k → r < 9 → (j = 40 + 42 * k + (6 + 4 * r + 0) → ∃ y, y < 3 ∧ x = nI y) ∧ (j = 40 + 42 * k + (6 + 4 * r + 1) → ∃ y, y ≤ 400 ∧ x = nI y)) ∧
  (∀ i, i < 3 → (j = 31 + 3 * i + 0 → ∃ w, w ≤ 20 ∧ x = nI w) ∧ (j = 31 + 3 * i + 1 → x = nI 0 ∨ x = nI 1)) ∧
  (∀ b, b < 3 → j = 28 + b → ∃ y, y ≤ 900 ∧ x = nI y) ∧
  (j = 5 → ∃ y, y ≤ 50 ∧ x = nI y) ∧ (j = 6 → ∃ y, y ≤ 100 ∧ x = nI y) ∧ (j = 7 → ∃ y, y ≤ 60 ∧ x = nI y)
theorem pMany_un {f : Nat → Int32} {j k : Nat} {x : Int32} (h : j ≠ 40 + 42 * k + 5) : pMany (upd f j x) k = pMany f k := by
  unfold pMany pOf; rw [pk_un h.symm]
theorem BI.upd1 {f : Nat → Int32} {dn n j : Nat} {x : Int32} (h : BI f dn n) (ho : okAt f dn n j x) : BI (upd f j x) dn n := by
  obtain ⟨h1, h2, h3, h4, h5, h6, h7, h8, h9, h10, h11a, h11b, h11c⟩ := h
  obtain ⟨⟨o0, o1, o2, o33, o36, o39⟩, o5, o6, o7, o8, o10, o11a, o11b, o11c⟩ := ho
  refine ⟨by rw [pk_un (Ne.symm o0)]; exact h1, h2, by rw [pk_un (Ne.symm o1)]; exact h3, h4, ?_, ?_, ?_, ?_, ?_, ?_, ?_, ?_, ?_⟩
  · intro d hd
    obtain ⟨a1, a2, a3⟩ := h5 d hd
    obtain ⟨b1, b2, b3⟩ := o5 d hd
    exact ⟨updP (P := fun v => ∃ s, 20 ≤ s ∧ s ≤ 300 ∧ v = nI s) b1 a1, updP (P := fun v => ∃ a, a ≤ 999 ∧ v = nI a) b2 a2, updP (P := fun v => v = -1 ∨ ∃ c, c ≤ 20 ∧ v = nI c) b3 a3⟩
  · intro k hk
    obtain ⟨a0, a1, a2, a3, a4, a5, a6⟩ := h6 k hk
    obtain ⟨b0, b1, b2, b3, b4, b5⟩ := o6 k hk
    refine ⟨updP (P := fun v => ∃ d, d < dn ∧ v = nI d) b0 a0, updP (P := fun v => ∃ h, h ≤ 149 ∧ v = nI h) b1 a1, updP (P := fun v => ∃ w, w ≤ 900 ∧ v = nI w) b2 a2, updP (P := fun v => v = -1 ∨ ∃ b, b < 3 ∧ v = nI b) b3 a3, updP (P := fun v => v = -1 ∨ ∃ s, s ≤ 2100 ∧ 250 ≤ s ∧ v = nI s) b4 a4, ?_, ?_⟩
    · rw [pMany_un b5]; unfold pOf; rw [pk_un (Ne.symm b5)]; exact a5
    · rw [pMany_un b5]; exact a6
  · intro k hk r hr
    rw [pMany_un (o6 k hk).2.2.2.2.2] at hr
    obtain ⟨a1, a2⟩ := h7 k hk r hr
    obtain ⟨b1, b2⟩ := o7 k hk r hr (Nat.lt_of_lt_of_le hr (h6 k hk).2.2.2.2.2.2)
    exact ⟨updP (P := fun v => ∃ y, y < 3 ∧ v = nI y) b1 a1, updP (P := fun v => ∃ y, y ≤ 400 ∧ v = nI y) b2 a2⟩
  · intro i hi
    obtain ⟨a1, a2⟩ := h8 i hi
    obtain ⟨b1, b2⟩ := o8 i hi
    exact ⟨updP (P := fun v => ∃ w, w ≤ 20 ∧ v = nI w) b1 a1, updP (P := fun v => v = nI 0 ∨ v = nI 1) b2 a2⟩
  · rw [pk_un (Ne.symm o2), pk_un (Ne.symm o33), pk_un (Ne.symm o36), pk_un (Ne.symm o39)]; exact h9
  · intro b hb
    exact updP (P := fun v => ∃ y, y ≤ 900 ∧ v = nI y) (o10 b hb) (h10 b hb)
  · exact updP (P := fun v => ∃ y, y ≤ 50 ∧ v = nI y) o11a h11a
  · exact updP (P := fun v => ∃ y, y ≤ 100 ∧ v = nI y) o11b h11b
  · exact updP (P := fun v => ∃ y, y ≤ 60 ∧ v = nI y) o11c h11c
