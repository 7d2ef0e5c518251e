/-! WHAT HOLDS OF THE NUMBERS THAT ARE TOLD -/
section Fa
variable {g : Nat → Int32} {dn n d k i : Nat}
/-! drums -/
theorem pIndex_nI (hI : BI g dn n) (h4 : ¬ pMean g n d true = -1) (h5 : ¬ pMean g n d false = -1) : ∃ m, m < 3000 ∧ pIndex g n d = nI m := by
  rcases pMean_nI (d := d) (q := true) hI with ⟨-, e⟩ | ⟨p, hp, -, e4⟩
  · exact absurd e h4
  rcases pMean_nI (d := d) (q := false) hI with ⟨-, e⟩ | ⟨s, hs, -, e5⟩
  · exact absurd e h5
  obtain ⟨-, -, x, hx, e7⟩ := hI.st
  rw [if_pos rfl] at hp
  rw [if_neg (by decide)] at hs
  unfold pIndex
  rw [if_neg h4, if_neg h5, e4, e5, e7, pk_div (by omega) (by omega) (by omega), nI_add]
  have h1 : (pDiv (nI s - nI 450) (nI 10)).toInt = ((s : Int) - 450) / 10 := by
    rw [pDiv_toInt (by decide) (by decide), pk_sub_toInt (by omega) (by omega)]; rfl
  have h2 : (nI (1000 + p / 10) + pDiv (nI s - nI 450) (nI 10)).toInt = (1000 + p / 10 : Nat) + ((s : Int) - 450) / 10 := i32_add (by rw [h1, nI_toInt (by omega)]) (by omega) (by omega)
  have h3 : (nI (1000 + p / 10) + pDiv (nI s - nI 450) (nI 10) - nI x).toInt = (1000 + p / 10 : Nat) + ((s : Int) - 450) / 10 - x := i32_sub (by rw [h2, nI_toInt (by omega)]) (by omega) (by omega)
  refine ⟨((1000 + p / 10 : Nat) + ((s : Int) - 450) / 10 - x).toNat, by omega, i32_ext ?_⟩
  rw [h3, nI_toInt (by omega)]
  omega
theorem pIndex_none (h : pMean g n d true = -1 ∨ pMean g n d false = -1) : pIndex g n d = -1 := by
  unfold pIndex
  by_cases c : pMean g n d true = -1
  · rw [if_pos c]
  · rw [if_neg c, if_pos (h.resolve_left c)]
theorem pIndex_ne (hI : BI g dn n) (h4 : ¬ pMean g n d true = -1) (h5 : ¬ pMean g n d false = -1) : ¬ pIndex g n d = -1 := by
  obtain ⟨m, hm, e⟩ := pIndex_nI hI h4 h5
  rw [e]; exact nI_m1 (by omega)
theorem pWhyS_15 (h : ¬ g (10 + 3 * d + 2) = -1) : pWhyS g n d = nI 15 := if_pos h
theorem pWhyS_n15 (h : g (10 + 3 * d + 2) = -1) : ¬ pWhyS g n d = nI 15 := by
  unfold pWhyS
  rw [if_neg (not_not_intro h)]
  repeat' split
  all_goals decide
theorem bits2 : ∀ m, m < 8 → m ≠ 0 → m ≠ 1 → m ≠ 2 → m ≠ 4 → 2 ≤ bitsN m := by decide
theorem bits1 : ∀ m, m < 8 → m = 1 ∨ m = 2 ∨ m = 4 → bitsN m < 2 := by decide
theorem pWhyS_at0 (hI : BI g dn n) (h : pWhyS g n d = nI 0) {m : Nat} (hm : m < 8) (e : pDMask g d n = nI m) (hz : m = 0 → pNum g d true n = 0) : 2 ≤ pNum g d true n ∧ 2 ≤ bitsN m ∧ ¬ pIndex g n d < nI 980 ∧ ¬ nI 1020 < pIndex g n d := by
  have hN := pWhyS_0 (f := g) (n := n) (d := d) (by rw [h]; decide)
  unfold pWhyS at h
  split at h
  · exact absurd h (by decide)
  split at h
  · exact absurd h (by decide)
  split at h
  · exact absurd h (by decide)
  rename_i c1
  split at h
  · exact absurd h (by decide)
  rename_i c2
  split at h
  · exact absurd h (by decide)
  rename_i c4
  split at h
  · exact absurd h (by decide)
  split at h
  · rename_i c5
    unfold pIn at c5
    rw [Bool.and_eq_true, decide_eq_true_eq, decide_eq_true_eq] at c5
    rw [e] at c1 c2 c4
    refine ⟨hN, bits2 m hm (fun z => by have := hz z; omega) (fun z => c1 (by rw [z])) (fun z => c2 (by rw [z])) (fun z => c4 (by rw [z])), Int32.not_lt.mpr c5.1, Int32.not_lt.mpr c5.2⟩
  · exact absurd h (by decide)
theorem pWhyS_at9 (h : pWhyS g n d = nI 9) : pNum g d true n < 2 := by
  unfold pWhyS at h
  split at h
  · exact absurd h (by decide)
  split at h
  · assumption
  repeat' split at h
  all_goals exact absurd h (by decide)
theorem pWhyS_at10 (h : pWhyS g n d = nI 10) {m : Nat} (hm : m < 8) (e : pDMask g d n = nI m) : 2 ≤ pNum g d true n ∧ bitsN m < 2 := by
  unfold pWhyS at h
  split at h
  · exact absurd h (by decide)
  split at h
  · exact absurd h (by decide)
  rename_i c
  refine ⟨by omega, bits1 m hm ?_⟩
  rw [e] at h
  split at h
  · rename_i c1; exact Or.inl (nI_inj (by omega) (by omega) c1)
  split at h
  · rename_i c1; exact Or.inr (Or.inl (nI_inj (by omega) (by omega) c1))
  split at h
  · rename_i c1; exact Or.inr (Or.inr (nI_inj (by omega) (by omega) c1))
  repeat' split at h
  all_goals exact absurd h (by decide)
/-! samples -/
theorem pWhy_5 (h : pMany g k < 3) : pWhy g k = nI 5 := if_pos h
theorem pWhy_n5 (h : 3 ≤ pMany g k) : ¬ pWhy g k = nI 5 := by
  unfold pWhy
  rw [if_neg (by omega)]
  repeat' split
  all_goals decide
theorem pPen_n (h : ¬ pWhy g k = 0) : pPen g k = -1 := if_pos (pWhy_pos.1.mpr h)
theorem pPen_y (hI : BI g dn n) (hk : k < n) (h : pWhy g k = 0) : ∃ y, y ≤ 400 ∧ pPen g k = nI y := by
  rcases pPen_nI hI hk with e | e
  · exfalso
    have h3 := pWhy_many (pWhy_pos.2.mpr h)
    unfold pPen at e
    rw [if_neg (fun z => pWhy_pos.1.mp z h)] at e
    obtain ⟨-, a, ha, ea⟩ := pLat_nI (a := 0) hI hk (by omega)
    obtain ⟨-, b, hb, eb⟩ := pLat_nI (a := 1) hI hk (by omega)
    obtain ⟨-, c, hc, ec⟩ := pLat_nI (a := 2) hI hk (by omega)
    rw [ea, eb, ec, nI_add, nI_add, pk_div (by omega) (by omega) (by omega)] at e
    exact nI_m1 (by omega) e
  · exact e
theorem pPen_sum (h : pWhy g k = 0) : pPen g k = (nI 0 + pLat g k 2 1 + pLat g k 1 1 + pLat g k 0 1) / nI 3 := by
  unfold pPen
  rw [if_neg (fun z => pWhy_pos.1.mp z h)]
  congr 1
  show _ = 0 + pLat g k 2 1 + pLat g k 1 1 + pLat g k 0 1
  rw [Int32.zero_add, Int32.add_comm (pLat g k 2 1), Int32.add_comm (pLat g k 1 1 + pLat g k 2 1), ← Int32.add_assoc]
theorem pWhy_are (h : pWhy g k = 0) : pAre g k 3 = true ∧ ¬ g 6 < pMost g k 3 - pLeast g k 3 := by
  unfold pWhy at h
  split at h
  · exact absurd h (by decide)
  split at h
  · rename_i c
    split at h
    · exact absurd h (by decide)
    · rename_i c2; exact ⟨c, c2⟩
  · exact absurd h (by decide)
theorem pAre_at (h : pAre g k 3 = true) : ∀ a, a < 3 → pLat g k a 2 = nI 100 ∧ pLat g k a 3 = nI 5 := by
  have e : pAre g k 3 = (((true && (decide (pLat g k 0 2 = nI 100) && decide (pLat g k 0 3 = nI 5))) && (decide (pLat g k 1 2 = nI 100) && decide (pLat g k 1 3 = nI 5))) && (decide (pLat g k 2 2 = nI 100) && decide (pLat g k 2 3 = nI 5))) := rfl
  rw [e] at h
  simp only [Bool.true_and, Bool.and_eq_true, decide_eq_true_eq] at h
  obtain ⟨⟨h0, h1⟩, h2⟩ := h
  intro a ha
  match a, ha with
  | 0, _ => exact h0
  | 1, _ => exact h1
  | 2, _ => exact h2
  | a + 3, h => omega
theorem pMost_ge (hI : BI g dn n) (hk : k < n) : ∀ c, c ≤ pMany g k → ∃ m, m ≤ 400 ∧ pMost g k c = nI m ∧ ∀ a, a < c → ∀ y, y ≤ 400 → pLat g k a 1 = nI y → y ≤ m
  | 0, _ => ⟨0, by omega, rfl, fun a h => absurd h (Nat.not_lt_zero a)⟩
  | c + 1, hc => by
    obtain ⟨m, hm, e, h⟩ := pMost_ge hI hk c (by omega)
    obtain ⟨-, y, hy, ey⟩ := pLat_nI (a := c) hI hk (by omega)
    unfold pMost
    rw [e, ey]
    by_cases q : m < y
    · rw [if_pos ((nI_ltI (by omega) (by omega)).mpr q)]
      refine ⟨y, hy, rfl, fun a ha z hz ez => ?_⟩
      by_cases ca : a = c
      · subst ca; have := nI_inj (by omega) (by omega) (ey.symm.trans ez); omega
      · have := h a (by omega) z hz ez; omega
    · rw [if_neg (fun z => q ((nI_ltI (by omega) (by omega)).mp z))]
      refine ⟨m, hm, rfl, fun a ha z hz ez => ?_⟩
      by_cases ca : a = c
      · subst ca; have := nI_inj (by omega) (by omega) (ey.symm.trans ez); omega
      · exact h a (by omega) z hz ez
theorem pLeast_le (hI : BI g dn n) (hk : k < n) : ∀ c, c ≤ pMany g k → ∃ m, m ≤ 400 ∧ pLeast g k c = nI m ∧ ∀ a, a < c → ∀ y, y ≤ 400 → pLat g k a 1 = nI y → m ≤ y
  | 0, _ => ⟨400, by omega, rfl, fun a h => absurd h (Nat.not_lt_zero a)⟩
  | c + 1, hc => by
    obtain ⟨m, hm, e, h⟩ := pLeast_le hI hk c (by omega)
    obtain ⟨-, y, hy, ey⟩ := pLat_nI (a := c) hI hk (by omega)
    unfold pLeast
    rw [e, ey]
    by_cases q : y < m
    · rw [if_pos ((nI_ltI (by omega) (by omega)).mpr q)]
      refine ⟨y, hy, rfl, fun a ha z hz ez => ?_⟩
      by_cases ca : a = c
      · subst ca; have := nI_inj (by omega) (by omega) (ey.symm.trans ez); omega
      · have := h a (by omega) z hz ez; omega
    · rw [if_neg (fun z => q ((nI_ltI (by omega) (by omega)).mp z))]
      refine ⟨m, hm, rfl, fun a ha z hz ez => ?_⟩
      by_cases ca : a = c
      · subst ca; have := nI_inj (by omega) (by omega) (ey.symm.trans ez); omega
      · exact h a (by omega) z hz ez
theorem pLat_diff (hI : BI g dn n) (hk : k < n) (h : pWhy g k = 0) {a b : Nat} (ha : a < 3) (hb : b < 3) : ¬ g 6 < pLat g k a 1 - pLat g k b 1 := by
  have h3 := pWhy_many (pWhy_pos.2.mpr h)
  obtain ⟨-, c⟩ := pWhy_are h
  obtain ⟨M, hM, eM, hM2⟩ := pMost_ge hI hk 3 h3
  obtain ⟨L, hL, eL, hL2⟩ := pLeast_le hI hk 3 h3
  obtain ⟨-, y, hy, ey⟩ := pLat_nI (a := a) hI hk (by omega)
  obtain ⟨-, z, hz, ez⟩ := pLat_nI (a := b) hI hk (by omega)
  obtain ⟨-, ⟨x, hx, ex⟩, -⟩ := hI.st
  have q1 := hM2 a ha y hy ey
  have q2 := hL2 b hb z hz ez
  rw [eM, eL, ex, i32_lt, pk_sub_toInt (by omega) (by omega), nI_toInt (by omega)] at c
  rw [ey, ez, ex, i32_lt, pk_sub_toInt (by omega) (by omega), nI_toInt (by omega)]
  omega
theorem mask_bits : ∀ x y z, x < 3 → y < 3 → z < 3 → ((nI 0 ||| (nI 1 <<< (nI x &&& 31)) ||| (nI 1 <<< (nI y &&& 31)) ||| (nI 1 <<< (nI z &&& 31))) >>> (nI x &&& 31)) &&& nI 1 = nI 1 ∧ ((nI 0 ||| (nI 1 <<< (nI x &&& 31)) ||| (nI 1 <<< (nI y &&& 31)) ||| (nI 1 <<< (nI z &&& 31))) >>> (nI y &&& 31)) &&& nI 1 = nI 1 ∧ ((nI 0 ||| (nI 1 <<< (nI x &&& 31)) ||| (nI 1 <<< (nI y &&& 31)) ||| (nI 1 <<< (nI z &&& 31))) >>> (nI z &&& 31)) &&& nI 1 = nI 1 := by
  intro x y z hx hy hz
  have h3 : ∀ t, t < 3 → t = 0 ∨ t = 1 ∨ t = 2 := fun t h => by omega
  rcases h3 x hx with rfl | rfl | rfl <;> rcases h3 y hy with rfl | rfl | rfl <;> rcases h3 z hz with rfl | rfl | rfl <;> decide
theorem pNeed_bit (hI : BI g dn n) (hk : k < n) (h : pWhy g k = 0) {a : Nat} (ha : a < 3) : (pNeed g k >>> (pLat g k a 0 &&& 31)) &&& nI 1 = nI 1 := by
  have h3 := pWhy_many (pWhy_pos.2.mpr h)
  obtain ⟨⟨x, hx, ex⟩, -⟩ := pLat_nI (a := 0) hI hk (by omega)
  obtain ⟨⟨y, hy, ey⟩, -⟩ := pLat_nI (a := 1) hI hk (by omega)
  obtain ⟨⟨z, hz, ez⟩, -⟩ := pLat_nI (a := 2) hI hk (by omega)
  have e : pNeed g k = nI 0 ||| (nI 1 <<< (nI x &&& 31)) ||| (nI 1 <<< (nI y &&& 31)) ||| (nI 1 <<< (nI z &&& 31)) := by
    unfold pNeed
    rw [show min 3 (pMany g k) = 3 by omega]
    show nI 0 ||| (nI 1 <<< (pLat g k 0 0 &&& 31)) ||| (nI 1 <<< (pLat g k 1 0 &&& 31)) ||| (nI 1 <<< (pLat g k 2 0 &&& 31)) = _
    rw [ex, ey, ez]
  obtain ⟨m0, m1, m2⟩ := mask_bits x y z hx hy hz
  rw [e]
  match a, ha with
  | 0, _ => rw [ex]; exact m0
  | 1, _ => rw [ey]; exact m1
  | 2, _ => rw [ez]; exact m2
  | a + 3, h => omega
theorem pBF_of : ∀ b, b ≤ 3 → pBF g n k b = -1 ∨ ∃ x, x < 3 ∧ pBF g n k b = nI x
  | 0, _ => Or.inl rfl
  | b + 1, h => by
    unfold pBF
    split
    · exact Or.inr ⟨b, by omega, rfl⟩
    · exact pBF_of b (by omega)
/-! baths -/
theorem pFar_of (hI : BI g dn n) {b : Nat} (hb : b < 3) : ∀ k, k ≤ n → (pInBath g k (nI b) = 0 ∧ pFar g b k = -1) ∨ (0 < pInBath g k (nI b) ∧ ∃ y, y ≤ 900 ∧ pFar g b k = nI y)
  | 0, _ => Or.inl ⟨rfl, rfl⟩
  | k + 1, hk => by
    have ih := pFar_of hI hb k (by omega)
    have ec : pInBath g (k + 1) (nI b) = pInBath g k (nI b) + (if pOf g k 3 = nI b then 1 else 0) := rfl
    by_cases c : pOf g k 3 = nI b
    · rw [if_pos c] at ec
      obtain ⟨t, ht, et⟩ := (hI.sa k (by omega)).2.2.1
      obtain ⟨x, hx, ex⟩ := hI.dg b hb
      refine Or.inr ⟨by omega, ?_⟩
      unfold pFar
      rw [if_pos c, et, ex, pAbsN (by omega) (by omega)]
      split
      · exact ⟨_, by omega, rfl⟩
      · rename_i hlt
        rcases ih with ⟨-, e⟩ | ⟨-, e⟩
        · exfalso; apply hlt; rw [e, i32_lt, i32_m1, nI_toInt (by omega)]; omega
        · exact e
    · rw [if_neg c] at ec
      unfold pFar
      rw [if_neg c, ec]
      exact ih
theorem pCnt3 {f : Nat → Int32} : ∀ k, pInBath f k (nI 0) + pInBath f k (nI 1) + pInBath f k (nI 2) ≤ k
  | 0 => Nat.le_refl _
  | k + 1 => by
    have ih := pCnt3 (f := f) k
    have e : ∀ b, pInBath f (k + 1) (nI b) = pInBath f k (nI b) + (if pOf f k 3 = nI b then 1 else 0) := fun b => rfl
    rw [e 0, e 1, e 2]
    by_cases c0 : pOf f k 3 = nI 0
    · rw [if_pos c0, if_neg (by rw [c0]; decide), if_neg (by rw [c0]; decide)]; omega
    · rw [if_neg c0]
      by_cases c1 : pOf f k 3 = nI 1
      · rw [if_pos c1, if_neg (by rw [c1]; decide)]; omega
      · rw [if_neg c1]
        split <;> omega
/-! samples of all drums -/
def sumN (F : Nat → Nat) : Nat → Nat
  | 0 => 0
  | j + 1 => sumN F j + F j
theorem sumN_one {a : Nat} : ∀ j, j ≤ 8 → a < 8 → sumN (fun d => if nI a = nI d then 1 else 0) j = if a < j then 1 else 0
  | 0, _, _ => rfl
  | j + 1, h, ha => by
    unfold sumN
    rw [sumN_one j (by omega) ha]
    by_cases c : a = j
    · subst c; rw [if_neg (by omega), if_pos rfl, if_pos (by omega)]
    · rw [if_neg (fun z => c (nI_inj (by omega) (by omega) z))]
      by_cases c2 : a < j
      · rw [if_pos c2, if_pos (by omega)]
      · rw [if_neg c2, if_neg (by omega)]
theorem sumN_add {F G : Nat → Nat} : ∀ j, sumN (fun d => F d + G d) j = sumN F j + sumN G j
  | 0 => rfl
  | j + 1 => by unfold sumN; rw [sumN_add j]; omega
theorem sumN_zero : ∀ j, sumN (fun _ => 0) j = 0
  | 0 => rfl
  | j + 1 => by unfold sumN; rw [sumN_zero j]
theorem sum_samples (hI : BI g dn n) : sumN (fun d => pSamplesOf g d n) dn = n := by
  have h6 := hI.dle
  have key : ∀ m, m ≤ n → sumN (fun d => pSamplesOf g d m) dn = m := by
    intro m
    induction m with
    | zero => intro _; exact sumN_zero dn
    | succ m ih =>
      intro hm
      obtain ⟨a, ha, ea⟩ := (hI.sa m (by omega)).1
      have e : sumN (fun d => pSamplesOf g d (m + 1)) dn = sumN (fun d => pSamplesOf g d m + (if nI a = nI d then 1 else 0)) dn := by
        congr 1; funext d
        show pCnt _ m + (if pOf g m 0 = nI d then 1 else 0) = _
        rw [ea]; rfl
      rw [e, sumN_add, ih (by omega), sumN_one dn (by omega) (by omega), if_pos ha]
  exact key n (Nat.le_refl _)
/-! depths -/
def dN (h p r w s : Nat) : Nat := min 400 (w * s / (h + 1) * p / 100 - r)
theorem dN_le {h p r w s : Nat} : dN h p r w s ≤ 400 := Nat.min_le_left _ _
theorem dN_mono {h p r w s w' s' : Nat} (h1 : w ≤ w') (h2 : s ≤ s') : dN h p r w s ≤ dN h p r w' s' := by
  have e1 : w * s ≤ w' * s' := Nat.mul_le_mul h1 h2
  have e2 : w * s / (h + 1) ≤ w' * s' / (h + 1) := Nat.div_le_div_right e1
  have e3 : w * s / (h + 1) * p ≤ w' * s' / (h + 1) * p := Nat.mul_le_mul_right p e2
  have e4 : w * s / (h + 1) * p / 100 ≤ w' * s' / (h + 1) * p / 100 := Nat.div_le_div_right e3
  unfold dN
  omega
theorem pDep_dN (hI : BI g dn n) (hi : i < 3) (hk : k < n) : ∃ h p r, ∀ w s, w ≤ 200 → s ≤ 60 → pDep g i k (nI w) (nI s) = nI (dN h p r w s) := by
  obtain ⟨-, ⟨h, hh, eh⟩, ⟨t, ht, et⟩, -⟩ := hI.sa k hk
  obtain ⟨⟨r, hr, er⟩, -⟩ := hI.nd i hi
  obtain ⟨p, p1, p2, ep, -⟩ := pShr_N ht
  refine ⟨h, p, r, fun w s hw hs => ?_⟩
  have b1 : w * s ≤ 200 * 60 := Nat.mul_le_mul hw hs
  have b2 : w * s / (h + 1) ≤ 12000 := Nat.le_trans (Nat.div_le_self _ _) b1
  have b3 : w * s / (h + 1) * p ≤ 12000 * 230 := Nat.mul_le_mul b2 p2
  unfold pDep pDepth pDeep
  rw [eh, et, er, ep, nI_add, pk_mul, pk_div (by omega) (by omega) (by omega), pk_mul, pk_div (by omega) (by omega) (by omega)]
  unfold dN
  generalize w * s / (h + 1) * p = q at b3 ⊢
  have eT : (nI (q / 100) - nI r).toInt = ((q / 100 : Nat) : Int) - r := pk_sub_toInt (by omega) (by omega)
  by_cases c1 : q / 100 < r
  · rw [if_pos (by rw [i32_lt, eT, i32_0]; omega)]
    congr 1; omega
  · rw [if_neg (by rw [i32_lt, eT, i32_0]; omega), pk_sub (by omega)]
    by_cases c2 : 400 < q / 100 - r
    · rw [if_pos ((nI_ltI (by omega) (by omega)).mpr c2)]
      congr 1; omega
    · rw [if_neg (fun z => c2 ((nI_ltI (by omega) (by omega)).mp z))]
      congr 1; omega
theorem pSec_of {w dp : Int32} : ∀ N s, N + s = 61 → 1 ≤ s → (∀ t, 1 ≤ t → t < s → pDep g i k w (nI t) < dp) →
    (pSec g i k w dp N s = -1 ∧ pDep g i k w (nI 60) < dp ∨ N = 0 ∧ s = 61) ∨ ∃ t, 1 ≤ t ∧ t ≤ 60 ∧ pSec g i k w dp N s = nI t ∧ dp ≤ pDep g i k w (nI t) ∧ (t = 1 ∨ pDep g i k w (nI (t - 1)) < dp)
  | 0, s, h, _, hb => Or.inl (Or.inr ⟨rfl, by omega⟩)
  | N + 1, s, h, h1, hb => by
    unfold pSec
    by_cases c : dp ≤ pDep g i k w (nI s)
    · rw [if_pos c]
      refine Or.inr ⟨s, h1, by omega, rfl, c, ?_⟩
      by_cases c1 : s = 1
      · exact Or.inl c1
      · exact Or.inr (hb (s - 1) (by omega) (by omega))
    · rw [if_neg c]
      have hb2 : ∀ t, 1 ≤ t → t < s + 1 → pDep g i k w (nI t) < dp := fun t a b => by
        by_cases e : t = s
        · subst e; exact Int32.not_le.mp c
        · exact hb t a (by omega)
      rcases pSec_of N (s + 1) (by omega) (by omega) hb2 with (h2 | ⟨h2, h3⟩) | h2
      · exact Or.inl (Or.inl h2)
      · subst h2
        exact Or.inl (Or.inl ⟨rfl, hb2 60 (by omega) (by omega)⟩)
      · exact Or.inr h2
theorem pSec_at {w dp : Int32} : (pSec g i k w dp 60 1 = -1 ∧ pDep g i k w (nI 60) < dp) ∨ ∃ t, 1 ≤ t ∧ t ≤ 60 ∧ pSec g i k w dp 60 1 = nI t ∧ dp ≤ pDep g i k w (nI t) ∧ (t = 1 ∨ pDep g i k w (nI (t - 1)) < dp) := by
  rcases pSec_of (g := g) (i := i) (k := k) (w := w) (dp := dp) 60 1 rfl (Nat.le_refl _) (fun t a b => by omega) with (h | ⟨h, -⟩) | h
  · exact Or.inl h
  · exact absurd h (by decide)
  · exact Or.inr h
end Fa
