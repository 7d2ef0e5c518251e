/-! WHAT A MOVE CHANGES: it hangs on the numbers below 376 (and the snapshot's) alone, and writes no others -/
def S6 (f f' : Nat → Int32) : Prop := ∀ j, j < 376 → f' j = f j
def SQ (f f' : Nat → Int32) : Prop := ∀ j, j < 376 → f' (376 * 7 + j) = f (376 * 7 + j)
def XI (f : Nat → Int32) (n : Nat) : Prop := f 8 = -1 ∧ f 9 = -1 ∧ ∀ b, b < 3 → pInBath f n (nI b) ≤ 3
def VOK (v : Int32) : Prop := ∃ m, m < 2 ^ 20 ∧ nI 1 + v = nI m
abbrev Mov : Type := ((Nat → Int32) → Int32) × ((Nat → Int32) → (Nat → Int32))
def MvOK (m : Mov) (g : Nat → Int32) (dn n : Nat) : Prop :=
  VOK (m.1 g) ∧ (∀ g', E6 g g' dn n → SQ g g' → m.1 g' = m.1 g ∧ S6 (m.2 g) (m.2 g')) ∧ (∀ g', E6 g g' dn n → ∀ j, 376 ≤ j → m.2 g' j = g' j) ∧ ∃ dn' n', BI (m.2 g) dn' n' ∧ XI (m.2 g) n'
def mvDrum (dn p : Nat) : Mov := (fun _ => nI dn, fun g => pDrum g dn (nI p))
def mvAge (dn p : Nat) : Mov := (fun g => pAgeM g (nI p) dn, fun g => pAgeG g (nI p) dn)
def mvSample (n d : Nat) : Mov := (fun _ => nI n, fun g => pTake g n d)
def mvToss (n k : Nat) : Mov := (fun g => pOf g k 5, fun g => pToss g n k)
def mvBath (k : Nat) (b : Int32) : Mov := (fun g => pOf g k 3, fun g => upd g (40 + 42 * k + 3) b)
def mvWarm (b t : Nat) : Mov := (fun g => g (28 + b), fun g => upd g (28 + b) (nI t))
def mvPass (n p : Nat) : Mov := (fun g => nI (pSame (pPassT g n p) n), fun g => pPassT g n p)
def mvSink (i k w s : Nat) : Mov := (fun g => pDep g i k (nI w) (nI s), fun g => pSink g i k (nI w) (nI s))
def mvRenew (i : Nat) : Mov := (fun g => g (31 + 3 * i + 0), fun g => pRenew g i)
def mvRing (k : Nat) : Mov := (fun g => pRingR g k, fun g => pRing g k)
def mvSell (n d : Nat) : Mov := (fun g => pMean g n d true / nI 20, fun g => pSell g n d)
def mvSet (i v : Nat) : Mov := (fun g => g (5 + i), fun g => upd g (5 + i) (nI v))
def mvRestore : Mov := (fun g => pCp g 7 0 1, fun g => pCp g 7 0)
theorem VOK.nI {a : Nat} (h : a < 2 ^ 20 - 1) : VOK (nI a) := ⟨1 + a, by omega, nI_add 1 a⟩
theorem VOK.m1 : VOK (-1) := ⟨0, by decide, by decide⟩
section S6
variable {f f' g g' : Nat → Int32} {dn n : Nat}
theorem S6.up {i : Nat} {v v' : Int32} (e : S6 f f') (h : v' = v) : S6 (upd f i v) (upd f' i v') := by
  intro j a
  subst h
  unfold upd
  split
  · rfl
  · exact e j a
theorem E6.s (e : E6 f f' dn n) : S6 f f' := e.2
theorem S6.e {dn' n' : Nat} (e : S6 f f') (h : BI f dn' n') : E6 f f' dn' n' := ⟨h, e⟩
theorem upd_far {i j : Nat} {v : Int32} (hi : i < 376) (hj : 376 ≤ j) : upd f i v j = f j := pk_un (by omega)
/-! age -/
theorem E6.ageG (e : E6 f f' dn n) {x : Int32} : ∀ d, d ≤ dn → S6 (pAgeG f x d) (pAgeG f' x d)
  | 0, _ => e.2
  | d + 1, h => by
    have ih := E6.ageG e (x := x) d (by omega)
    have := e.1.dle
    exact ih.up (by rw [ih _ (by omega)])
theorem E6.ageM (e : E6 f f' dn n) {x : Int32} : ∀ d, d ≤ dn → pAgeM f' x d = pAgeM f x d
  | 0, _ => rfl
  | d + 1, h => by
    have := e.1.dle
    unfold pAgeM; rw [E6.ageM e d (by omega), e.ageG (d + 1) h _ (by omega)]
theorem ageG_far {x : Int32} {j : Nat} (hj : 376 ≤ j) : ∀ d, d ≤ 6 → pAgeG f x d j = f j
  | 0, _ => rfl
  | d + 1, h => by
    show upd (pAgeG f x d) _ _ j = f j
    rw [upd_far (by omega) hj]; exact ageG_far hj d (by omega)
theorem ageG_at (h : BI f dn n) {x d : Nat} (hx : x ≤ 99) (hd : d < dn) : ∃ a, a ≤ 999 ∧ pAgeG f (nI x) (d + 1) (10 + 3 * d + 1) = nI a := ((h.ageK hx (d + 1) (by omega)).dr d hd).2.1
theorem ageM_nI (h : BI f dn n) {x : Nat} (hx : x ≤ 99) : ∀ d, d ≤ dn → pAgeM f (nI x) d = -1 ∨ ∃ a, a ≤ 999 ∧ pAgeM f (nI x) d = nI a
  | 0, _ => Or.inl rfl
  | d + 1, hd => by
    unfold pAgeM
    split
    · exact Or.inr (ageG_at h hx (by omega))
    · exact ageM_nI h hx d (by omega)
/-! minutes -/
theorem E6.step (e : E6 f f' dn n) : ∀ k, k ≤ n → E6 (pStep f k) (pStep f' k) dn n
  | 0, _ => e
  | k + 1, h => by
    have ih := E6.step e k (by omega)
    refine ⟨e.1.stepK (k + 1) h, ?_⟩
    exact ih.s.up (by rw [ih.O (k := k) (by omega) (by omega), ih.Around (k := k) (by omega)])
theorem E6.pass (e : E6 f f' dn n) : ∀ j, E6 (pPass f n j) (pPass f' n j) dn n
  | 0 => e
  | j + 1 => (E6.pass e j).step n (Nat.le_refl _)
theorem E6.passT (e : E6 f f' dn n) {p : Nat} : E6 (pPassT f n p) (pPassT f' n p) dn n :=
  ⟨e.1.pass, (e.pass p).s.up (by rw [(e.pass p).2 3 (by omega)])⟩
theorem E6.Same (e : E6 f f' dn n) : pSame f' n = pSame f n := pCnt_congr n (fun k hk => by rw [e.O hk (by omega), e.O hk (by omega), e.Around hk])
theorem step_far {j : Nat} (hj : 376 ≤ j) : ∀ k, k ≤ 8 → pStep f k j = f j
  | 0, _ => rfl
  | k + 1, h => by
    show upd (pStep f k) _ _ j = f j
    rw [upd_far (by omega) hj]; exact step_far hj k (by omega)
theorem pass_far {j : Nat} (hn : n ≤ 8) (hj : 376 ≤ j) : ∀ i, pPass f n i j = f j
  | 0 => rfl
  | i + 1 => (step_far hj n hn).trans (pass_far hn hj i)
/-! samples -/
theorem E6.take (e : E6 f f' dn n) {d : Nat} (hd : d < dn) : S6 (pTake f n d) (pTake f' n d) := by
  have h6 := e.1.dle
  rw [pTake_eq e.1 hd, pTake_eq e.B' hd]
  unfold tk6
  exact ((((((e.s.up rfl).up (e.Hard (by omega))).up rfl).up rfl).up rfl).up rfl).up rfl
theorem E6.toss (e : E6 f f' dn n) {k : Nat} : S6 (pToss f n k) (pToss f' n k) := by
  have h8 := e.1.nle
  intro j hj
  have e1 : S6 (upd f 1 (nI (n - 1))) (upd f' 1 (nI (n - 1))) := e.s.up rfl
  unfold pToss pTossK
  by_cases c : 40 + 42 * k ≤ j ∧ j < 40 + 42 * (n - 1)
  · rw [if_pos c, if_pos c]; exact e1 _ (by omega)
  · rw [if_neg c, if_neg c]; exact e1 _ hj
/-! sinking -/
theorem E6.sink (e : E6 f f' dn n) {nd k : Nat} {w s : Int32} (hnd : nd < 3) (hk : k < n) : S6 (pSink f nd k w s) (pSink f' nd k w s) := by
  have h8 := e.1.nle
  rw [pSink_eq, pSink_eq]
  have e1 : S6 (sk1 f nd k w s) (sk1 f' nd k w s) := by
    unfold sk1; rw [e.M hk, e.Dep hnd hk]
    exact (((e.s.up rfl).up rfl).up rfl).up rfl
  have e2 : S6 (sk2 f nd k w s) (sk2 f' nd k w s) := by
    unfold sk2; rw [e.M hk]; exact e1.up rfl
  have e3 : S6 (sk3 f nd k w s) (sk3 f' nd k w s) := by
    unfold sk3; rw [e.Dep hnd hk]; exact e2.up (by rw [e2 (31 + 3 * nd + 0) (by omega)])
  have e4 : S6 (sk4 f nd k w s) (sk4 f' nd k w s) := by
    unfold sk4; rw [e.Dep hnd hk]; exact e3.up (by rw [e3 (31 + 3 * nd + 1) (by omega)])
  have e5 : S6 (sk5 f nd k w s) (sk5 f' nd k w s) := by
    unfold sk5; exact e4.up (by rw [e4 (31 + 3 * nd + 2) (by omega)])
  exact e5.up (by rw [e5 2 (by omega)])
theorem sink_far {nd k j : Nat} {w s : Int32} (hnd : nd < 3) (hk : k < 8) (h9 : pMany f k < 9) (hj : 376 ≤ j) : pSink f nd k w s j = f j := by
  rw [pSink_eq, upd_far (by omega) hj]
  unfold sk5; rw [upd_far (by omega) hj]
  unfold sk4; rw [upd_far (by omega) hj]
  unfold sk3; rw [upd_far (by omega) hj]
  unfold sk2; rw [upd_far (by omega) hj]
  unfold sk1; rw [upd_far (by omega) hj, upd_far (by omega) hj, upd_far (by omega) hj, upd_far (by omega) hj]
/-! rings -/
theorem E6.RingV (e : E6 f f' dn n) {k : Nat} (hk : k < n) : pRingV f' k = pRingV f k := by unfold pRingV; rw [e.O hk (by omega), e.O hk (by omega)]
theorem E6.RingR (e : E6 f f' dn n) {k : Nat} (hk : k < n) : pRingR f' k = pRingR f k := by unfold pRingR; rw [e.O hk (by omega), e.RingV hk]
theorem E6.ring (e : E6 f f' dn n) {k : Nat} (hk : k < n) : S6 (pRing f k) (pRing f' k) := by
  unfold pRing; rw [e.O hk (by omega), e.RingV hk]
  split
  · exact e.s.up rfl
  · exact e.s
theorem ring_far {k j : Nat} (hk : k < 8) (hj : 376 ≤ j) : pRing f k j = f j := by
  unfold pRing; split
  · exact upd_far (by omega) hj
  · rfl
theorem pCp70_far {j : Nat} (hj : 376 ≤ j) : pCp f 7 0 j = f j := by
  unfold pCp pCpK; rw [if_neg (by omega)]
theorem restore_S6 (h : SQ f f') : S6 (pCp f 7 0) (pCp f' 7 0) := fun j hj => by rw [pCp_0 hj, pCp_0 hj]; exact h j hj
/-! the baths -/
theorem XI.keep {n' : Nat} (h : XI f n) (h8 : f' 8 = f 8) (h9 : f' 9 = f 9) (hn : n' = n) (hb : ∀ k, k < n → pOf f' k 3 = pOf f k 3) : XI f' n' := by
  subst hn
  obtain ⟨a, b, c⟩ := h
  refine ⟨h8.trans a, h9.trans b, fun i hi => ?_⟩
  have : pInBath f' n' (nI i) = pInBath f n' (nI i) := pCnt_congr n' (fun k hk => by rw [hb k hk])
  rw [this]; exact c i hi
theorem XI.congr (h : XI f n) (hn : n ≤ 8) (e : S6 f f') : XI f' n := h.keep (e 8 (by omega)) (e 9 (by omega)) rfl (fun k hk => e _ (by omega))
theorem pCnt_skip {p : Nat → Prop} [DecidablePred p] {k : Nat} : ∀ m, k ≤ m → pCnt (fun i => p (if i < k then i else i + 1)) m ≤ pCnt p (m + 1)
  | 0, h => Nat.zero_le _
  | m + 1, h => by
    by_cases c : k ≤ m
    · have ih := pCnt_skip (p := p) m c
      have e1 : pCnt (fun i => p (if i < k then i else i + 1)) (m + 1) = pCnt (fun i => p (if i < k then i else i + 1)) m + (if p (m + 1) then 1 else 0) := by
        show _ + (if p (if m < k then m else m + 1) then 1 else 0) = _
        rw [if_neg (show ¬ m < k by omega)]
      have e2 : pCnt p (m + 1 + 1) = pCnt p (m + 1) + (if p (m + 1) then 1 else 0) := rfl
      omega
    · have ek : k = m + 1 := by omega
      have e1 : pCnt (fun i => p (if i < k then i else i + 1)) (m + 1) = pCnt p (m + 1) := pCnt_congr _ (fun i hi => by rw [if_pos (by omega)])
      have e2 : pCnt p (m + 1 + 1) = pCnt p (m + 1) + (if p (m + 1) then 1 else 0) := rfl
      omega
theorem pCnt_one {p q : Nat → Prop} [DecidablePred p] [DecidablePred q] {k : Nat} : ∀ m, (∀ i, i < m → i ≠ k → (q i ↔ p i)) → pCnt q m ≤ pCnt p m + 1 ∧ ((q k → p k) → pCnt q m ≤ pCnt p m)
  | 0, _ => ⟨Nat.zero_le _, fun _ => Nat.le_refl _⟩
  | m + 1, h => by
    obtain ⟨h1, h2⟩ := pCnt_one (k := k) m (fun i hi hn => h i (by omega) hn)
    have ep : pCnt p (m + 1) = pCnt p m + (if p m then 1 else 0) := rfl
    have eq : pCnt q (m + 1) = pCnt q m + (if q m then 1 else 0) := rfl
    by_cases c : m = k
    · have e3 : pCnt q m = pCnt p m := pCnt_congr m (fun i hi => h i (by omega) (by omega))
      subst c
      refine ⟨?_, fun hq => ?_⟩
      · split at eq <;> omega
      · by_cases cq : q m
        · rw [if_pos cq] at eq; rw [if_pos (hq cq)] at ep; omega
        · rw [if_neg cq] at eq; omega
    · have e4 : (if q m then 1 else 0) = (if p m then 1 else 0) := by
        by_cases cp : p m
        · rw [if_pos cp, if_pos ((h m (by omega) c).mpr cp)]
        · rw [if_neg cp, if_neg (fun z => cp ((h m (by omega) c).mp z))]
      refine ⟨by omega, fun hq => ?_⟩
      have := h2 hq
      omega
theorem nI_inj {a b : Nat} (ha : a < 2 ^ 31) (hb : b < 2 ^ 31) (h : nI a = nI b) : a = b := (nI_eq ha hb).mp h
theorem XI.bath (h : XI f n) (hn : n ≤ 8) {k : Nat} {v : Int32} (hv : v = -1 ∨ ∃ b, b < 3 ∧ v = nI b ∧ (pOf f k 3 = nI b ∨ pInBath f n (nI b) < 3)) : XI (upd f (40 + 42 * k + 3) v) n := by
  obtain ⟨a, b, c⟩ := h
  refine ⟨by rw [pk_un (by omega)]; exact a, by rw [pk_un (by omega)]; exact b, fun i hi => ?_⟩
  have hne : ∀ j, j < n → j ≠ k → (pOf (upd f (40 + 42 * k + 3) v) j 3 = nI i ↔ pOf f j 3 = nI i) := fun j hj hjk => by
    unfold pOf; rw [pk_un (by omega)]
  have hk : pOf (upd f (40 + 42 * k + 3) v) k 3 = v := by unfold pOf; exact pk_us
  obtain ⟨h1, h2⟩ := pCnt_one (k := k) n hne
  have c1 := c i hi
  unfold pInBath at c1 ⊢
  rcases hv with rfl | ⟨b', hb', rfl, hr⟩
  · refine Nat.le_trans (h2 (fun z => ?_)) c1
    rw [hk] at z
    exact absurd z.symm (nI_m1 (by omega))
  · by_cases cb : b' = i
    · subst cb
      rcases hr with hr | hr
      · exact Nat.le_trans (h2 (fun _ => hr)) c1
      · unfold pInBath at hr; omega
    · refine Nat.le_trans (h2 (fun z => ?_)) c1
      rw [hk] at z
      exact absurd (nI_inj (by omega) (by omega) z) cb
theorem XI.take (h : XI f n) (hI : BI f dn n) {d : Nat} (hd : d < dn) (hn : n < 8) : XI (pTake f n d) (n + 1) := by
  obtain ⟨a, b, c⟩ := h
  rw [pTake_eq hI hd]
  have lo : ∀ j, j ≠ 1 → j < 40 + 42 * n → upd (tk6 f n d) 1 (nI (n + 1)) j = f j := fun j h1 h2 => by
    rw [pk_un h1]; unfold tk6
    rw [pk_un (by omega), pk_un (by omega), pk_un (by omega), pk_un (by omega), pk_un (by omega), pk_un (by omega)]
  have h3 : pOf (upd (tk6 f n d) 1 (nI (n + 1))) n 3 = -1 := by
    unfold pOf; rw [pk_un (by omega)]; unfold tk6
    rw [pk_un (by omega), pk_un (by omega), pk_us]
  refine ⟨by rw [lo 8 (by omega) (by omega)]; exact a, by rw [lo 9 (by omega) (by omega)]; exact b, fun i hi => ?_⟩
  have c1 := c i hi
  show pCnt _ n + (if pOf (upd (tk6 f n d) 1 (nI (n + 1))) n 3 = nI i then 1 else 0) ≤ 3
  rw [h3, if_neg (fun z => nI_m1 (by omega) z.symm)]
  have : pCnt (fun k => pOf (upd (tk6 f n d) 1 (nI (n + 1))) k 3 = nI i) n = pInBath f n (nI i) := pCnt_congr n (fun k hk => by unfold pOf; rw [lo _ (by omega) (by omega)])
  omega
theorem XI.toss (h : XI f n) {k : Nat} (hk : k < n) (hn : n ≤ 8) : XI (pToss f n k) (n - 1) := by
  obtain ⟨a, b, c⟩ := h
  refine ⟨by rw [pToss_lo (by omega) (by omega)]; exact a, by rw [pToss_lo (by omega) (by omega)]; exact b, fun i hi => ?_⟩
  have e1 : pInBath (pToss f n k) (n - 1) (nI i) = pCnt (fun j => pOf f (if j < k then j else j + 1) 3 = nI i) (n - 1) := pCnt_congr (n - 1) (fun j hj => by rw [pToss_of hn hj (by omega)])
  have e2 := pCnt_skip (p := fun j => pOf f j 3 = nI i) (k := k) (n - 1) (by omega)
  rw [show n - 1 + 1 = n by omega] at e2
  have c1 := c i hi
  unfold pInBath at c1
  rw [e1]
  exact Nat.le_trans e2 c1
end S6
