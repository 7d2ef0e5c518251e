/-! WHAT EVERY BLOCK OF THE REFERENCE'S NUMBERS KEEPS, and the public methods' answers as functions. -/
def BI (f : Nat → Int32) (dn n : Nat) : Prop :=
  (f 0 = nI dn) ∧
  (dn ≤ 6) ∧
  (f 1 = nI n) ∧
  (n ≤ 8) ∧
  (∀ d, d < dn → (∃ s, 20 ≤ s ∧ s ≤ 300 ∧ f (10 + 3 * d + 0) = nI s) ∧ (∃ a, a ≤ 999 ∧ f (10 + 3 * d + 1) = nI a) ∧ (f (10 + 3 * d + 2) = -1 ∨ ∃ c, c ≤ 20 ∧ f (10 + 3 * d + 2) = nI c)) ∧
  (∀ k, k < n → (∃ d, d < dn ∧ pOf f k 0 = nI d) ∧ (∃ h, h ≤ 149 ∧ pOf f k 1 = nI h) ∧ (∃ w, w ≤ 900 ∧ pOf f k 2 = nI w) ∧ (pOf f k 3 = -1 ∨ ∃ b, b < 3 ∧ pOf f k 3 = nI b) ∧ (pOf f k 4 = -1 ∨ ∃ s, s ≤ 2100 ∧ 250 ≤ s ∧ pOf f k 4 = nI s) ∧ pOf f k 5 = nI (pMany f k) ∧ pMany f k ≤ 9) ∧
  (∀ k, k < n → ∀ r, r < pMany f k → (∃ x, x < 3 ∧ pOf f k (6 + 4 * r + 0) = nI x) ∧ (∃ y, y ≤ 400 ∧ pOf f k (6 + 4 * r + 1) = nI y)) ∧
  (∀ i, i < 3 → (∃ w, w ≤ 20 ∧ f (31 + 3 * i + 0) = nI w) ∧ (f (31 + 3 * i + 1) = nI 0 ∨ f (31 + 3 * i + 1) = nI 1)) ∧
  (f 2 = f 33 + f 36 + f 39) ∧
  (∀ b, b < 3 → ∃ x, x ≤ 900 ∧ f (28 + b) = nI x) ∧
  ((∃ x, x ≤ 50 ∧ f 5 = nI x) ∧ (∃ x, x ≤ 100 ∧ f 6 = nI x) ∧ (∃ x, x ≤ 60 ∧ f 7 = nI x))
theorem BI.d0 {f : Nat → Int32} {dn n : Nat} (h : BI f dn n) : f 0 = nI dn := h.1
theorem BI.dle {f : Nat → Int32} {dn n : Nat} (h : BI f dn n) : dn ≤ 6 := h.2.1
theorem BI.n0 {f : Nat → Int32} {dn n : Nat} (h : BI f dn n) : f 1 = nI n := h.2.2.1
theorem BI.nle {f : Nat → Int32} {dn n : Nat} (h : BI f dn n) : n ≤ 8 := h.2.2.2.1
theorem BI.dr {f : Nat → Int32} {dn n : Nat} (h : BI f dn n) : ∀ d, d < dn → (∃ s, 20 ≤ s ∧ s ≤ 300 ∧ f (10 + 3 * d + 0) = nI s) ∧ (∃ a, a ≤ 999 ∧ f (10 + 3 * d + 1) = nI a) ∧ (f (10 + 3 * d + 2) = -1 ∨ ∃ c, c ≤ 20 ∧ f (10 + 3 * d + 2) = nI c) := h.2.2.2.2.1
theorem BI.sa {f : Nat → Int32} {dn n : Nat} (h : BI f dn n) : ∀ k, k < n → (∃ d, d < dn ∧ pOf f k 0 = nI d) ∧ (∃ h, h ≤ 149 ∧ pOf f k 1 = nI h) ∧ (∃ w, w ≤ 900 ∧ pOf f k 2 = nI w) ∧ (pOf f k 3 = -1 ∨ ∃ b, b < 3 ∧ pOf f k 3 = nI b) ∧ (pOf f k 4 = -1 ∨ ∃ s, s ≤ 2100 ∧ 250 ≤ s ∧ pOf f k 4 = nI s) ∧ pOf f k 5 = nI (pMany f k) ∧ pMany f k ≤ 9 := h.2.2.2.2.2.1
theorem BI.rd {f : Nat → Int32} {dn n : Nat} (h : BI f dn n) : ∀ k, k < n → ∀ r, r < pMany f k → (∃ x, x < 3 ∧ pOf f k (6 + 4 * r + 0) = nI x) ∧ (∃ y, y ≤ 400 ∧ pOf f k (6 + 4 * r + 1) = nI y) := h.2.2.2.2.2.2.1
theorem BI.nd {f : Nat → Int32} {dn n : Nat} (h : BI f dn n) : ∀ i, i < 3 → (∃ w, w ≤ 20 ∧ f (31 + 3 * i + 0) = nI w) ∧ (f (31 + 3 * i + 1) = nI 0 ∨ f (31 + 3 * i + 1) = nI 1) := h.2.2.2.2.2.2.2.1
theorem BI.us {f : Nat → Int32} {dn n : Nat} (h : BI f dn n) : f 2 = f 33 + f 36 + f 39 := h.2.2.2.2.2.2.2.2.1
theorem BI.dg {f : Nat → Int32} {dn n : Nat} (h : BI f dn n) : ∀ b, b < 3 → ∃ x, x ≤ 900 ∧ f (28 + b) = nI x := h.2.2.2.2.2.2.2.2.2.1
theorem BI.st {f : Nat → Int32} {dn n : Nat} (h : BI f dn n) : (∃ x, x ≤ 50 ∧ f 5 = nI x) ∧ (∃ x, x ≤ 100 ∧ f 6 = nI x) ∧ (∃ x, x ≤ 60 ∧ f 7 = nI x) := h.2.2.2.2.2.2.2.2.2.2
theorem BI.congr {f f' : Nat → Int32} {dn n : Nat} (e : ∀ j, j < 376 → f' j = f j) (h : BI f dn n) : BI f' dn n := by
  obtain ⟨h1, h2, h3, h4, h5, h6, h7, h8, h9, h10, h11⟩ := h
  have eo : ∀ k w, k < 8 → w < 42 → pOf f' k w = pOf f k w := fun k w hk hw => e _ (by omega)
  have em : ∀ k, k < 8 → pMany f' k = pMany f k := fun k hk => by unfold pMany; rw [eo k 5 hk (by omega)]
  refine ⟨(e 0 (by omega)).trans h1, h2, (e 1 (by omega)).trans h3, h4, ?_, ?_, ?_, ?_, ?_, ?_, ?_⟩
  · intro d hd
    rw [e (10 + 3 * d + 0) (by omega), e (10 + 3 * d + 1) (by omega), e (10 + 3 * d + 2) (by omega)]
    exact h5 d hd
  · intro k hk
    rw [eo k 0 (by omega) (by omega), eo k 1 (by omega) (by omega), eo k 2 (by omega) (by omega), eo k 3 (by omega) (by omega), eo k 4 (by omega) (by omega), eo k 5 (by omega) (by omega), em k (by omega)]
    exact h6 k hk
  · intro k hk r hr
    rw [em k (by omega)] at hr
    have := (h6 k hk).2.2.2.2.2.2
    rw [eo k (6 + 4 * r + 0) (by omega) (by omega), eo k (6 + 4 * r + 1) (by omega) (by omega)]
    exact h7 k hk r hr
  · intro i hi
    rw [e (31 + 3 * i + 0) (by omega), e (31 + 3 * i + 1) (by omega)]
    exact h8 i hi
  · rw [e 2 (by omega), e 33 (by omega), e 36 (by omega), e 39 (by omega)]; exact h9
  · intro b hb
    rw [e (28 + b) (by omega)]
    exact h10 b hb
  · rw [e 5 (by omega), e 6 (by omega), e 7 (by omega)]; exact h11
theorem BI.save {f : Nat → Int32} {dn n : Nat} (h : BI f dn n) (sn : Nat) : BI (pSave f sn) dn n := h.congr (fun _ hj => pSave_lo hj)
theorem BI.mM {f : Nat → Int32} {dn n : Nat} (h : BI f dn n) : ∀ k, k < n → pOf f k 5 = nI (pMany f k) ∧ pMany f k ≤ 9 := fun k hk => (h.sa k hk).2.2.2.2.2
theorem BI.mB {f : Nat → Int32} {dn n : Nat} (h : BI f dn n) : ∀ k, k < n → ¬ pOf f k 3 = -1 → ∃ b, b < 3 ∧ pOf f k 3 = nI b := fun k hk h3 => ((h.sa k hk).2.2.2.1).resolve_left h3
/-- a number from 0 to n - 1 -/
def pNo (v : Int32) (n : Nat) : Bool := pIn v (nI 0) (nI n - nI 1)
theorem pNo_t {v : Int32} {n : Nat} (h : pNo v n = true) (hn : n < 2 ^ 30) : ∃ k, k < n ∧ v = nI k := pIn_nat hn h
theorem pNo_3 (v : Int32) : pIn v (nI 0) (nI 2) = pNo v 3 := rfl
abbrev cN (v : Int32) : Nat := v.toNatClampNeg
/-- the state that calls see: numbers, states saved, whether a snapshot is kept, text, its length -/
abbrev Zs : Type := (Nat → Int32) × Nat × Bool × (Nat → Int32) × Nat
abbrev Oc : Type := Nat × Int32 × Zs
def zsv (z : Zs) (h : (Nat → Int32) → (Nat → Int32)) : Zs := ⟨h (pSave z.1 z.2.1), pUp z.2.1, z.2.2.1, z.2.2.2.1, z.2.2.2.2⟩
def oDrumOf (z : Zs) (dn n : Nat) (p0 : Int32) (p1 : Int32) : Oc := if pNo p0 dn = true then (if pIn p1 (nI 0) (nI 8) = true then (0, pOfDrum z.1 n (cN p0) (cN p1), z) else (2, 0, z)) else (1, 0, z)
def oSampleOf (z : Zs) (dn n : Nat) (p0 : Int32) (p1 : Int32) : Oc := if pNo p0 n = true then (if pIn p1 (nI 0) (nI 8) = true then (0, pOfSample z.1 (cN p0) (cN p1), z) else (2, 0, z)) else (1, 0, z)
def oNeedle (z : Zs) (dn n : Nat) (p0 : Int32) (p1 : Int32) : Oc := if pNo p0 3 = true then (if pIn p1 (nI 0) (nI 2) = true then (0, z.1 (31 + 3 * cN p0 + cN p1), z) else (2, 0, z)) else (1, 0, z)
def oBathOf (z : Zs) (dn n : Nat) (p0 : Int32) (p1 : Int32) : Oc := if pNo p0 3 = true then (if pIn p1 (nI 0) (nI 2) = true then (0, pOfBath z.1 n (cN p0) (cN p1), z) else (2, 0, z)) else (1, 0, z)
def oCount (z : Zs) (dn n : Nat) (p0 : Int32) : Oc := if pIn p0 (nI 0) (nI 11) = true then (0, pCounted z.1 (nI z.2.1) n dn (cN p0), z) else (1, 0, z)
def oStopped (z : Zs) (dn n : Nat) (p0 : Int32) : Oc := if pIn p0 (nI 0) (nI 1) = true then (0, z.1 (8 + cN p0), z) else (1, 0, z)
def oNoSink (z : Zs) (dn n : Nat) (p0 : Int32) (p1 : Int32) : Oc := if pNo p0 3 = true then (if pNo p1 n = true then (0, pWhyNot z.1 (cN p0) (cN p1), z) else (1, 0, z)) else (1, 0, z)
def oNoSale (z : Zs) (dn n : Nat) (p0 : Int32) : Oc := if pNo p0 dn = true then (0, pWhyS z.1 n (cN p0), z) else (1, 0, z)
def oIfSunk (z : Zs) (dn n : Nat) (p0 : Int32) (p1 : Int32) (p2 : Int32) (p3 : Int32) : Oc := if pNo p0 3 = true then (if pNo p1 n = true then (if pIn p2 (nI 50) (nI 200) = true then (if pIn p3 (nI 1) (nI 60) = true then (0, pDep z.1 (cN p0) (cN p1) p2 p3, z) else (2, 0, z)) else (2, 0, z)) else (1, 0, z)) else (1, 0, z)
def oReadyIn (z : Zs) (dn n : Nat) (p0 : Int32) : Oc := if pNo p0 n = true then (0, pReadyNow z.1 (cN p0), z) else (1, 0, z)
def oBestBath (z : Zs) (dn n : Nat) (p0 : Int32) : Oc := if pNo p0 n = true then (0, pBF z.1 n (cN p0) 3, z) else (1, 0, z)
