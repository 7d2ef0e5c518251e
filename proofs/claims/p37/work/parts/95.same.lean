/-! TWO TELLINGS OF ONE STATE: numbers below 376 agree -/
def E6 (f f' : Nat → Int32) (dn n : Nat) : Prop := BI f dn n ∧ ∀ j, j < 376 → f' j = f j
theorem pCnt_congr {p q : Nat → Prop} [DecidablePred p] [DecidablePred q] : ∀ n, (∀ k, k < n → (p k ↔ q k)) → pCnt p n = pCnt q n
  | 0, _ => rfl
  | n + 1, h => by
    unfold pCnt
    rw [pCnt_congr n (fun k hk => h k (by omega))]
    by_cases c : p n
    · rw [if_pos c, if_pos ((h n (by omega)).mp c)]
    · rw [if_neg c, if_neg (fun z => c ((h n (by omega)).mpr z))]
section E6
variable {f f' g g' : Nat → Int32} {dn n : Nat}
theorem E6.refl (h : BI f dn n) : E6 f f dn n := ⟨h, fun _ _ => rfl⟩
theorem E6.B' (e : E6 f f' dn n) : BI f' dn n := e.1.congr e.2
theorem E6.symm (e : E6 f f' dn n) : E6 f' f dn n := ⟨e.B', fun j hj => (e.2 j hj).symm⟩
theorem E6.O (e : E6 f f' dn n) {k w : Nat} (hk : k < n) (hw : w < 42) : pOf f' k w = pOf f k w := e.2 _ (by have := e.1.nle; omega)
theorem E6.M (e : E6 f f' dn n) {k : Nat} (hk : k < n) : pMany f' k = pMany f k := by unfold pMany; rw [e.O hk (by omega)]
theorem E6.L (e : E6 f f' dn n) {k a w : Nat} (hk : k < n) (hw : w < 4) : pLat f' k a w = pLat f k a w := by
  have h9 := (e.1.mM k hk).2
  unfold pLat; rw [e.M hk, e.O hk (by omega)]
theorem E6.Are (e : E6 f f' dn n) {k : Nat} (hk : k < n) : ∀ a, pAre f' k a = pAre f k a
  | 0 => rfl
  | a + 1 => by unfold pAre; rw [E6.Are e hk a, e.L hk (by omega), e.L hk (by omega)]
theorem E6.Least (e : E6 f f' dn n) {k : Nat} (hk : k < n) : ∀ a, pLeast f' k a = pLeast f k a
  | 0 => rfl
  | a + 1 => by unfold pLeast; rw [E6.Least e hk a, e.L hk (by omega)]
theorem E6.Most (e : E6 f f' dn n) {k : Nat} (hk : k < n) : ∀ a, pMost f' k a = pMost f k a
  | 0 => rfl
  | a + 1 => by unfold pMost; rw [E6.Most e hk a, e.L hk (by omega)]
theorem E6.Mask (e : E6 f f' dn n) {k : Nat} (hk : k < n) : ∀ a, pMask f' k a = pMask f k a
  | 0 => rfl
  | a + 1 => by unfold pMask; rw [E6.Mask e hk a, e.L hk (by omega)]
theorem E6.Why (e : E6 f f' dn n) {k : Nat} (hk : k < n) : pWhy f' k = pWhy f k := by unfold pWhy; rw [e.M hk, e.Are hk, e.Most hk, e.Least hk, e.2 6 (by omega)]
theorem E6.Pen (e : E6 f f' dn n) {k : Nat} (hk : k < n) : pPen f' k = pPen f k := by unfold pPen; rw [e.Why hk, e.L hk (by omega), e.L hk (by omega), e.L hk (by omega)]
theorem E6.Need (e : E6 f f' dn n) {k : Nat} (hk : k < n) : pNeed f' k = pNeed f k := by unfold pNeed; rw [e.Mask hk, e.M hk]
theorem E6.Told (e : E6 f f' dn n) {k : Nat} (hk : k < n) {q : Bool} : pTold f' k q = pTold f k q := by unfold pTold; rw [e.Pen hk, e.O hk (by omega)]
theorem E6.Is (e : E6 f f' dn n) {k d : Nat} (hk : k < n) {q : Bool} : pIs f' d q k ↔ pIs f d q k := by unfold pIs; rw [e.O hk (by omega), e.Told hk]
theorem E6.Sum (e : E6 f f' dn n) {d : Nat} {q : Bool} : ∀ k, k ≤ n → pSum f' d q k = pSum f d q k
  | 0, _ => rfl
  | k + 1, hk => by
    unfold pSum
    rw [E6.Sum e k (by omega)]
    by_cases c : pIs f d q k
    · rw [if_pos c, if_pos ((e.Is (by omega)).mpr c), e.Told (k := k) (by omega)]
    · rw [if_neg c, if_neg (fun z => c ((e.Is (by omega)).mp z))]
theorem E6.Num (e : E6 f f' dn n) {d : Nat} {q : Bool} : pNum f' d q n = pNum f d q n := pCnt_congr n (fun k hk => e.Is hk)
theorem E6.DMask (e : E6 f f' dn n) {d : Nat} : ∀ k, k ≤ n → pDMask f' d k = pDMask f d k
  | 0, _ => rfl
  | k + 1, hk => by
    unfold pDMask
    rw [E6.DMask e k (by omega)]
    by_cases c : pIs f d true k
    · rw [if_pos c, if_pos ((e.Is (by omega)).mpr c), e.Need (k := k) (by omega)]
    · rw [if_neg c, if_neg (fun z => c ((e.Is (by omega)).mp z))]
theorem E6.Mean (e : E6 f f' dn n) {d : Nat} {q : Bool} : pMean f' n d q = pMean f n d q := by unfold pMean; rw [e.Num, e.Sum n (Nat.le_refl _)]
theorem E6.Index (e : E6 f f' dn n) {d : Nat} : pIndex f' n d = pIndex f n d := by unfold pIndex; rw [e.Mean, e.Mean, e.2 7 (by omega)]
theorem E6.WhyS (e : E6 f f' dn n) {d : Nat} (hd : d < dn) : pWhyS f' n d = pWhyS f n d := by
  have := e.1.dle
  unfold pWhyS; rw [e.Num, e.DMask n (Nat.le_refl _), e.Mean, e.Index, e.2 (10 + 3 * d + 2) (by omega)]
theorem E6.InBath (e : E6 f f' dn n) {b : Int32} : pInBath f' n b = pInBath f n b := pCnt_congr n (fun k hk => by rw [e.O hk (by omega)])
theorem E6.Dep (e : E6 f f' dn n) {nd k : Nat} {w s : Int32} (hnd : nd < 3) (hk : k < n) : pDep f' nd k w s = pDep f nd k w s := by unfold pDep; rw [e.O hk (by omega), e.O hk (by omega), e.2 _ (by omega)]
theorem E6.Hard (e : E6 f f' dn n) {d : Nat} (hd : d < 6) : pHard f' d = pHard f d := by unfold pHard; rw [e.2 (10 + 3 * d + 0) (by omega), e.2 (10 + 3 * d + 1) (by omega)]
theorem E6.bathN (e : E6 f f' dn n) {k : Nat} (hk : k < n) : f' (28 + (pOf f k 3).toNatClampNeg) = f (28 + (pOf f k 3).toNatClampNeg) := by
  rcases (e.1.sa k hk).2.2.2.1 with h | ⟨b, hb, h⟩
  · rw [h]; exact e.2 _ (by decide)
  · rw [h, nI_clamp (by omega)]; exact e.2 _ (by omega)
theorem E6.WhyNot (e : E6 f f' dn n) {nd k : Nat} (hnd : nd < 3) (hk : k < n) : pWhyNot f' nd k = pWhyNot f nd k := by
  unfold pWhyNot; rw [e.O hk (by omega), e.O hk (by omega), e.M hk, e.2 (31 + 3 * nd + 1) (by omega), e.bathN hk, e.2 5 (by omega)]
theorem E6.Around (e : E6 f f' dn n) {k : Nat} (hk : k < n) : pAround f' k = pAround f k := by
  unfold pAround; rw [e.O hk (by omega), e.bathN hk]
theorem E6.Far (e : E6 f f' dn n) {b : Nat} (hb : b < 3) : ∀ k, k ≤ n → pFar f' b k = pFar f b k
  | 0, _ => rfl
  | k + 1, hk => by unfold pFar; rw [E6.Far e hb k (by omega), e.O (k := k) (by omega) (by omega), e.O (k := k) (by omega) (by omega), e.2 (28 + b) (by omega)]
theorem E6.SoldD (e : E6 f f' dn n) : pSoldD f' dn = pSoldD f dn := pCnt_congr dn (fun d hd => by have := e.1.dle; rw [e.2 _ (by omega)])
theorem E6.Pend (e : E6 f f' dn n) : pPend f' n = pPend f n := pCnt_congr n (fun k hk => by rw [e.Why hk])
theorem E6.SamplesOf (e : E6 f f' dn n) {d : Nat} : pSamplesOf f' d n = pSamplesOf f d n := pCnt_congr n (fun k hk => by rw [e.O hk (by omega)])
theorem E6.Counted (e : E6 f f' dn n) {sv sv' : Int32} {w : Nat} (hw : w < 11) : pCounted f' sv' n dn w = pCounted f sv n dn w := by
  unfold pCounted
  rw [e.SoldD, e.Pend, e.2 (31 + 3 * 0 + 1) (by omega), e.2 (31 + 3 * 1 + 1) (by omega), e.2 (31 + 3 * 2 + 1) (by omega), e.2 3 (by omega), e.2 4 (by omega), e.2 w (by omega), e.2 (5 + w - 8) (by omega), if_neg (show ¬ w = 11 by omega), if_neg (show ¬ w = 11 by omega)]
theorem E6.OfDrum (e : E6 f f' dn n) {d w : Nat} (hd : d < dn) (hw : w < 9) : pOfDrum f' n d w = pOfDrum f n d w := by
  have := e.1.dle
  unfold pOfDrum; rw [e.Hard (by omega), e.SamplesOf, e.Mean, e.Mean, e.Index, e.2 (10 + 3 * d + 2) (by omega), e.2 (10 + 3 * d + w) (by omega)]
theorem E6.OfSample (e : E6 f f' dn n) {k w : Nat} (hk : k < n) (hw : w < 9) : pOfSample f' k w = pOfSample f k w := by
  unfold pOfSample; rw [e.Pen hk, e.Why hk, e.Need hk, e.O hk (by omega), e.O hk (by omega), e.O hk (by omega)]
theorem E6.OfBath (e : E6 f f' dn n) {b w : Nat} (hb : b < 3) : pOfBath f' n b w = pOfBath f n b w := by
  unfold pOfBath; rw [e.2 (28 + b) (by omega), e.InBath, e.Far hb n (Nat.le_refl _)]
/-! what the law looks at -/
def rdF (g : Nat → Int32) (k e w : Nat) : Int32 := if e < pMany g k then pOf g k (6 + (e * 4 + w)) else -1
def mxF (F : Nat → Int64 → Int64) : Nat → Int64 → Int64
  | 0, h => h
  | k + 1, h => F k (mxF F k h)
def lkS (g : Nat → Int32) (j : Nat) (h : Int64) : Int64 := mxs (fun w => rdF g (j / 9) (j % 9) w) 4 (mx h (pOfSample g (j / 9) (j % 9)))
def lkT (g : Nat → Int32) (n j : Nat) (h : Int64) : Int64 := mx (mx h (g (31 + 3 * (j / 3) + j % 3))) (pOfBath g n (j / 3) (j % 3))
def lk1 (g : Nat → Int32) (dn n : Nat) : Int64 := mxs (fun w => pCounted g 0 n dn w) 11 101
def lk2 (g : Nat → Int32) (dn n : Nat) : Int64 := mxs (fun j => pOfDrum g n (j / 9) (j % 9)) (9 * dn) (lk1 g dn n)
def lk3 (g : Nat → Int32) (dn n : Nat) : Int64 := mxF (lkS g) (9 * n) (lk2 g dn n)
def lk4 (g : Nat → Int32) (dn n : Nat) : Int64 := mxF (lkT g n) 9 (lk3 g dn n)
def lookF (g : Nat → Int32) (dn n : Nat) : Int64 := mx (mx (lk4 g dn n) (g 8)) (g 9)
theorem mxs_congr {F G : Nat → Int32} {h : Int64} : ∀ k, (∀ j, j < k → F j = G j) → mxs F k h = mxs G k h
  | 0, _ => rfl
  | k + 1, e => by show mx (mxs F k h) (F k) = mx (mxs G k h) (G k); rw [mxs_congr k (fun j hj => e j (by omega)), e k (by omega)]
theorem mxF_congr {F G : Nat → Int64 → Int64} {h : Int64} : ∀ k, (∀ j x, j < k → F j x = G j x) → mxF F k h = mxF G k h
  | 0, _ => rfl
  | k + 1, e => by show F k (mxF F k h) = G k (mxF G k h); rw [mxF_congr k (fun j x hj => e j x (by omega)), e k _ (by omega)]
theorem E6.Rd (e : E6 f f' dn n) {k r w : Nat} (hk : k < n) (hw : w < 4) : rdF f' k r w = rdF f k r w := by
  have h9 := (e.1.mM k hk).2
  unfold rdF; rw [e.M hk]
  by_cases c : r < pMany f k
  · rw [if_pos c, if_pos c, e.O hk (by omega)]
  · rw [if_neg c, if_neg c]
theorem E6.look (e : E6 f f' dn n) : lookF f' dn n = lookF f dn n := by
  have h1 : lk1 f' dn n = lk1 f dn n := mxs_congr 11 (fun w hw => e.Counted hw)
  have h2 : lk2 f' dn n = lk2 f dn n := by
    unfold lk2; rw [h1]; exact mxs_congr _ (fun j hj => e.OfDrum (by omega) (by omega))
  have h3 : lk3 f' dn n = lk3 f dn n := by
    unfold lk3; rw [h2]
    refine mxF_congr _ (fun j x hj => ?_)
    unfold lkS; rw [e.OfSample (by omega) (by omega)]
    exact mxs_congr 4 (fun w hw => e.Rd (by omega) hw)
  have h4 : lk4 f' dn n = lk4 f dn n := by
    unfold lk4; rw [h3]
    refine mxF_congr _ (fun j x hj => ?_)
    unfold lkT; rw [e.2 _ (by omega), e.OfBath (by omega)]
  unfold lookF; rw [h4, e.2 8 (by omega), e.2 9 (by omega)]
end E6
