/-! each call's new block -/
theorem pIn_nat4 {v : Int32} {a b : Nat} (ha : a < 2 ^ 30) (hb : b < 2 ^ 30) (h : pIn v (nI a) (nI b) = true) : ∃ k, a ≤ k ∧ k ≤ b ∧ v = nI k := by
  have h2 : pIn v (nI 0) (nI b) = true := by
    simp only [pIn, Bool.and_eq_true, decide_eq_true_eq] at h ⊢
    exact ⟨Int32.le_trans (nI_leI (by omega) (by omega) |>.mpr (Nat.zero_le a)) h.1, h.2⟩
  obtain ⟨k, hk, e⟩ := pIn_nat2 hb h2
  refine ⟨k, ?_, hk, e⟩
  simp only [pIn, Bool.and_eq_true, decide_eq_true_eq] at h
  rw [e] at h
  exact (nI_leI (by omega) (by omega)).mp h.1
theorem BI.drum {f : Nat → Int32} {dn n : Nat} {p : Int32} (h : BI f dn n) (hd : dn < 6) (hp : pIn p (nI 20) (nI 300) = true) : BI (pDrum f dn p) (dn + 1) n := by
  obtain ⟨s, h1, h2, rfl⟩ := pIn_nat4 (by omega) (by omega) hp
  unfold pDrum
  refine BI.uDrums (s := s) (BI.uFar (BI.uFar (BI.uFar h (by omega)) (by omega)) (by omega)) hd h1 h2 ?_ ?_ ?_
  · rw [pk_un (by omega), pk_un (by omega), pk_us]
  · rw [pk_un (by omega), pk_us]
  · rw [pk_us]
theorem BI.ageK {f : Nat → Int32} {dn n x : Nat} (h : BI f dn n) (hx : x ≤ 99) : ∀ d, d ≤ dn → BI (pAgeG f (nI x) d) dn n
  | 0, _ => h
  | d + 1, hd => by
    have h1 := BI.ageK h hx d (by omega)
    obtain ⟨a, ha, e⟩ := (h1.dr d (by omega)).2.1
    show BI (upd (pAgeG f (nI x) d) _ (if _ then _ else _)) dn n
    rw [e, nI_add]
    split
    · exact h1.uAge (by omega) (by omega)
    · rename_i hc
      rw [nI_ltI (by omega) (by omega)] at hc
      exact h1.uAge (by omega) (by omega)
theorem BI.age {f : Nat → Int32} {dn n x : Nat} (h : BI f dn n) (hx : x ≤ 99) : BI (pAgeG f (nI x) dn) dn n := h.ageK hx dn (Nat.le_refl _)
theorem pHard_nI {f : Nat → Int32} {dn n d : Nat} (h : BI f dn n) (hd : d < dn) : ∃ x, x ≤ 149 ∧ pHard f d = nI x := by
  obtain ⟨⟨s, h1, h2, e⟩, ⟨a, h3, e2⟩, -⟩ := h.dr d hd
  refine ⟨1000 / s + a / 10, ?_, ?_⟩
  · have : 1000 / s ≤ 1000 / 20 := Nat.div_le_div_left h1 (by omega)
    omega
  · unfold pHard; rw [e, e2, pk_div (by omega) (by omega) (by omega), pk_div (by omega) (by omega) (by omega), nI_add]
theorem pHard_congr {f f' : Nat → Int32} {d : Nat} (h : ∀ j, j < 28 → f' j = f j) (hd : d < 6) : pHard f' d = pHard f d := by
  unfold pHard; rw [h _ (by omega), h _ (by omega)]
def tk6 (g : Nat → Int32) (n d : Nat) : Nat → Int32 := upd (upd (upd (upd (upd (upd g (40 + 42 * n + 0) (nI d)) (40 + 42 * n + 1) (pHard g d)) (40 + 42 * n + 2) (nI 200)) (40 + 42 * n + 3) (-1)) (40 + 42 * n + 4) (-1)) (40 + 42 * n + 5) (nI 0)
theorem pTake_eq {g : Nat → Int32} {dn n d : Nat} (h : BI g dn n) (hd : d < dn) : pTake g n d = upd (tk6 g n d) 1 (nI (n + 1)) := by
  have hdn := h.dle
  unfold pTake tk6
  rw [pHard_congr (f := g) (fun j hj => pk_un (by omega)) (by omega)]
  congr 1
  rw [pk_un (by omega), pk_un (by omega), pk_un (by omega), pk_un (by omega), pk_un (by omega), pk_un (by omega), h.n0, nI_add]
theorem BI.take {f : Nat → Int32} {dn n d : Nat} (h : BI f dn n) (hd : d < dn) (hn : n < 8) : BI (pTake f n d) dn (n + 1) := by
  obtain ⟨x, hx, ex⟩ := pHard_nI h hd
  have hdn := h.dle
  rw [pTake_eq h hd]
  unfold tk6
  refine BI.uSamples (BI.uFar (BI.uFar (BI.uFar (BI.uFar (BI.uFar (BI.uFar h (by omega)) (by omega)) (by omega)) (by omega)) (by omega)) (by omega)) hn ⟨d, hd, ?_⟩ ⟨x, hx, ?_⟩ ⟨200, by omega, ?_⟩ ?_ ?_ ?_ <;> unfold pOf
  · rw [pk_un (by omega), pk_un (by omega), pk_un (by omega), pk_un (by omega), pk_un (by omega), pk_us]
  · rw [pk_un (by omega), pk_un (by omega), pk_un (by omega), pk_un (by omega), pk_us, ex]
  · rw [pk_un (by omega), pk_un (by omega), pk_un (by omega), pk_us]
  · rw [pk_un (by omega), pk_un (by omega), pk_us]
  · rw [pk_un (by omega), pk_us]
  · rw [pk_us]
theorem pToss_lo {g : Nat → Int32} {n k j : Nat} (hj : j < 40) (h1 : j ≠ 1) : pToss g n k j = g j := by
  unfold pToss pTossK; rw [if_neg (by omega), pk_un h1]
theorem pToss_of {g : Nat → Int32} {n k i w : Nat} (hn : n ≤ 8) (hi : i < n - 1) (hw : w < 42) : pOf (pToss g n k) i w = pOf g (if i < k then i else i + 1) w := by
  unfold pOf pToss pTossK
  by_cases h : i < k
  · rw [if_pos h, if_neg (by omega), pk_un (by omega)]
  · rw [if_neg h, if_pos (by omega), pk_un (by omega)]; congr 1; omega
theorem pToss_many {g : Nat → Int32} {n k i : Nat} (hn : n ≤ 8) (hi : i < n - 1) : pMany (pToss g n k) i = pMany g (if i < k then i else i + 1) := by
  unfold pMany; rw [pToss_of hn hi (by omega)]
theorem BI.toss {f : Nat → Int32} {dn n k0 : Nat} (h : BI f dn n) (hk0 : k0 < n) : BI (pToss f n k0) dn (n - 1) := by
  obtain ⟨g1, g2, g3, g4, g5, g6, g7, g8, g9, g10, g11⟩ := h
  have hi : ∀ k, k < n - 1 → (if k < k0 then k else k + 1) < n := fun k hk => by split <;> omega
  refine ⟨by rw [pToss_lo (by omega) (by omega)]; exact g1, g2, ?_, by omega, ?_, ?_, ?_, ?_, ?_, ?_, ?_⟩
  · unfold pToss pTossK; rw [if_neg (by omega), pk_us]
  · intro d hd
    rw [pToss_lo (by omega) (by omega), pToss_lo (by omega) (by omega), pToss_lo (by omega) (by omega)]; exact g5 d hd
  · intro k hk
    rw [pToss_of g4 hk (by omega), pToss_of g4 hk (by omega), pToss_of g4 hk (by omega), pToss_of g4 hk (by omega), pToss_of g4 hk (by omega), pToss_of g4 hk (by omega), pToss_many g4 hk]
    exact g6 _ (hi k hk)
  · intro k hk r hr
    rw [pToss_many g4 hk] at hr
    have := (g6 _ (hi k hk)).2.2.2.2.2.2
    rw [pToss_of g4 hk (by omega), pToss_of g4 hk (by omega)]
    exact g7 _ (hi k hk) r hr
  · intro i hi
    rw [pToss_lo (by omega) (by omega), pToss_lo (by omega) (by omega)]; exact g8 i hi
  · rw [pToss_lo (by omega) (by omega), pToss_lo (by omega) (by omega), pToss_lo (by omega) (by omega), pToss_lo (by omega) (by omega)]; exact g9
  · intro b hb
    rw [pToss_lo (by omega) (by omega)]; exact g10 b hb
  · rw [pToss_lo (by omega) (by omega), pToss_lo (by omega) (by omega), pToss_lo (by omega) (by omega)]; exact g11
theorem pAround_nI {f : Nat → Int32} {dn n k : Nat} (h : BI f dn n) (hk : k < n) : ∃ x, x ≤ 900 ∧ pAround f k = nI x := by
  unfold pAround
  by_cases h3 : pOf f k 3 = -1
  · rw [if_pos h3]; exact ⟨200, by omega, rfl⟩
  · rw [if_neg h3]
    obtain ⟨b, hb, e⟩ := h.mB k hk h3
    rw [e, nI_clamp (by omega)]
    exact h.dg b hb
theorem BI.stepK {f : Nat → Int32} {dn n : Nat} (h : BI f dn n) : ∀ k, k ≤ n → BI (pStep f k) dn n
  | 0, _ => h
  | k + 1, hk => by
    have h1 := BI.stepK h k (by omega)
    obtain ⟨a, ha, e⟩ := (h1.sa k (by omega)).2.2.1
    obtain ⟨b, hb, e2⟩ := pAround_nI h1 (k := k) (by omega)
    show BI (upd (pStep f k) _ (pWarm _ _)) dn n
    rw [e, e2, pWarm_nI ha hb]
    exact h1.uWarm (by omega) (wN_le ha hb)
theorem BI.passK {f : Nat → Int32} {dn n : Nat} (h : BI f dn n) : ∀ j, BI (pPass f n j) dn n
  | 0 => h
  | j + 1 => (BI.passK h j).stepK n (Nat.le_refl _)
theorem BI.pass {f : Nat → Int32} {dn n mn : Nat} (h : BI f dn n) : BI (pPassT f n mn) dn n := (h.passK mn).u3
/-- the sinking, step by step -/
def sk1 (g : Nat → Int32) (nd k : Nat) (w s : Int32) : Nat → Int32 := upd (upd (upd (upd g (40 + 42 * k + (6 + 4 * pMany g k)) (nI nd)) (40 + 42 * k + (6 + 4 * pMany g k + 1)) (pDep g nd k w s)) (40 + 42 * k + (6 + 4 * pMany g k + 2)) w) (40 + 42 * k + (6 + 4 * pMany g k + 3)) s
def sk2 (g : Nat → Int32) (nd k : Nat) (w s : Int32) : Nat → Int32 := upd (sk1 g nd k w s) (40 + 42 * k + 5) (nI (pMany g k + 1))
def sk3 (g : Nat → Int32) (nd k : Nat) (w s : Int32) : Nat → Int32 := upd (sk2 g nd k w s) (31 + 3 * nd + 0) (sk2 g nd k w s (31 + 3 * nd + 0) + (if pDep g nd k w s < nI 50 ∧ sk2 g nd k w s (31 + 3 * nd + 0) < nI 20 then nI 1 else nI 0))
def sk4 (g : Nat → Int32) (nd k : Nat) (w s : Int32) : Nat → Int32 := upd (sk3 g nd k w s) (31 + 3 * nd + 1) (if pDep g nd k w s = 0 then nI 1 else sk3 g nd k w s (31 + 3 * nd + 1))
def sk5 (g : Nat → Int32) (nd k : Nat) (w s : Int32) : Nat → Int32 := upd (sk4 g nd k w s) (31 + 3 * nd + 2) (sk4 g nd k w s (31 + 3 * nd + 2) + nI 1)
theorem pSink_eq {g : Nat → Int32} {nd k : Nat} {w s : Int32} : pSink g nd k w s = upd (sk5 g nd k w s) 2 (sk5 g nd k w s 2 + nI 1) := rfl
theorem pDep_nI {f : Nat → Int32} {nd k : Nat} {w s : Int32} : ∃ y, y ≤ 400 ∧ pDep f nd k w s = nI y := by
  unfold pDep pDepth
  split
  · exact ⟨0, by omega, rfl⟩
  · split
    · exact ⟨400, by omega, rfl⟩
    · rename_i h1 h2
      obtain ⟨y, hy, e⟩ := i_nat h1
      rw [e] at h2 ⊢
      rw [nI_ltI (by omega) (by omega)] at h2
      exact ⟨y, by omega, rfl⟩
theorem BI.sink {f : Nat → Int32} {dn n nd k : Nat} {w s : Int32} (h : BI f dn n) (hnd : nd < 3) (hk : k < n) (h9 : pMany f k < 9) : BI (pSink f nd k w s) dn n := by
  have hn := h.nle
  obtain ⟨y, hy, ey⟩ := pDep_nI (f := f) (nd := nd) (k := k) (w := w) (s := s)
  have m1 : ∀ (i : Nat) (x : Int32) (f' : Nat → Int32), pMany (upd f' (40 + 42 * k + (6 + i)) x) k = pMany f' k := fun i x f' => pMany_un (by omega)
  have hm1 : pMany (sk1 f nd k w s) k = pMany f k := by unfold sk1; rw [pMany_un (by omega), pMany_un (by omega), pMany_un (by omega), pMany_un (by omega)]
  have b1 : BI (sk1 f nd k w s) dn n := by
    unfold sk1
    refine BI.uRead (i := 4 * pMany f k + 3) (BI.uRead (i := 4 * pMany f k + 2) (BI.uRead (i := 4 * pMany f k + 1) (BI.uRead (i := 4 * pMany f k) h hk ?_ (by omega)) hk ?_ (by omega)) hk ?_ (by omega)) hk ?_ (by omega)
    · omega
    · rw [m1]; omega
    · rw [m1, m1]; omega
    · rw [m1, m1, m1]; omega
  have b2 : BI (sk2 f nd k w s) dn n := by
    unfold sk2
    rw [← hm1]
    refine b1.uMany hk (by rw [hm1]; exact h9) ⟨nd, hnd, ?_⟩ ⟨y, hy, ?_⟩ <;> rw [hm1] <;> unfold sk1 pOf
    · rw [pk_un (by omega), pk_un (by omega), pk_un (by omega), show 40 + 42 * k + (6 + 4 * pMany f k + 0) = 40 + 42 * k + (6 + 4 * pMany f k) from rfl, pk_us]
    · rw [pk_un (by omega), pk_un (by omega), pk_us, ey]
  have b3 : BI (sk3 f nd k w s) dn n := by
    obtain ⟨x, hx, e⟩ := (b2.nd nd hnd).1
    unfold sk3
    rw [e]
    split
    · rename_i hc
      have := (nI_ltI (by omega) (by omega)).mp hc.2
      rw [nI_add]; exact b2.uWear hnd (by omega)
    · rw [nI_add]; exact b2.uWear hnd (by omega)
  have b4 : BI (sk4 f nd k w s) dn n := by
    unfold sk4
    refine b3.uBent hnd ?_
    split
    · exact Or.inr rfl
    · exact (b3.nd nd hnd).2
  rw [pSink_eq]
  exact b4.uUsed hnd rfl (by unfold sk5; rw [pk_un (by omega)])
theorem BI.renew {f : Nat → Int32} {dn n nd : Nat} (h : BI f dn n) (hnd : nd < 3) : BI (pRenew f nd) dn n := ((h.uWear hnd (x := 0) (by omega)).uBent hnd (Or.inl rfl)).u4
theorem pRingV_nI {f : Nat → Int32} {dn n k : Nat} (h : BI f dn n) (hk : k < n) : ∃ s, s ≤ 2100 ∧ 250 ≤ s ∧ pRingV f k = nI s := by
  obtain ⟨-, ⟨x, hx, e1⟩, -, -, -, e5, h9⟩ := h.sa k hk
  unfold pRingV
  rw [e1, e5, pk_mul, pk_mul, nI_add, pk_sub (by omega)]
  split
  · exact ⟨250, by omega, by omega, rfl⟩
  · rename_i hc
    rw [nI_ltI (by omega) (by omega)] at hc
    exact ⟨_, by omega, by omega, rfl⟩
theorem BI.ring {f : Nat → Int32} {dn n k : Nat} (h : BI f dn n) (hk : k < n) : BI (pRing f k) dn n := by
  unfold pRing
  split
  · obtain ⟨s, h1, h2, e⟩ := pRingV_nI h hk
    rw [e]; exact h.uSoft hk h1 h2
  · exact h
theorem pCp_0 {f : Nat → Int32} {a j : Nat} (hj : j < 376) : pCp f a 0 j = f (376 * a + j) := by
  unfold pCp pCpK; rw [if_pos (by omega)]; congr 1
theorem BI.copy {f : Nat → Int32} {dn n a : Nat} (h : BI (fun j => f (376 * a + j)) dn n) : BI (pCp f a 0) dn n := h.congr (fun j hj => pCp_0 hj)
