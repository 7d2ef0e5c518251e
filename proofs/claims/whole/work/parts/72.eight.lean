/-! NUMBERS 8 AND 9 ARE READ BY NOBODY -/
section Ei
variable {f f' g g' u : Nat → Int32} {dn n : Nat}
def Ei (f f' : Nat → Int32) : Prop := ∀ j, j ≠ 8 → j ≠ 9 → f' j = f j
theorem Ei.up {i : Nat} {v v' : Int32} (e : Ei f f') (h : v' = v) : Ei (upd f i v) (upd f' i v') := by
  intro j a b
  subst h
  unfold upd
  split
  · rfl
  · exact e j a b
theorem Ei.O (e : Ei f f') : pOf f' = pOf f := by funext k w; exact e _ (by omega) (by omega)
theorem Ei.M (e : Ei f f') : pMany f' = pMany f := by funext k; unfold pMany; rw [e.O]
theorem Ei.L (e : Ei f f') : pLat f' = pLat f := by funext k a w; unfold pLat; rw [e.O, e.M]
theorem Ei.Are (e : Ei f f') : pAre f' = pAre f := by
  funext k a
  induction a with
  | zero => rfl
  | succ a ih => unfold pAre; rw [ih, e.L]
theorem Ei.Least (e : Ei f f') : pLeast f' = pLeast f := by
  funext k a
  induction a with
  | zero => rfl
  | succ a ih => unfold pLeast; rw [ih, e.L]
theorem Ei.Most (e : Ei f f') : pMost f' = pMost f := by
  funext k a
  induction a with
  | zero => rfl
  | succ a ih => unfold pMost; rw [ih, e.L]
theorem Ei.Mask (e : Ei f f') : pMask f' = pMask f := by
  funext k a
  induction a with
  | zero => rfl
  | succ a ih => unfold pMask; rw [ih, e.L]
theorem Ei.Why (e : Ei f f') : pWhy f' = pWhy f := by funext k; unfold pWhy; rw [e.M, e.Are, e.Most, e.Least, e 6 (by omega) (by omega)]
theorem Ei.Pen (e : Ei f f') : pPen f' = pPen f := by funext k; unfold pPen; rw [e.Why, e.L]
theorem Ei.Need (e : Ei f f') : pNeed f' = pNeed f := by funext k; unfold pNeed; rw [e.Mask, e.M]
theorem Ei.Told (e : Ei f f') : pTold f' = pTold f := by funext k q; unfold pTold; rw [e.Pen, e.O]
theorem Ei.Sum (e : Ei f f') : pSum f' = pSum f := by
  funext d q k
  induction k with
  | zero => rfl
  | succ k ih => unfold pSum; rw [ih]; unfold pIs; rw [e.O, e.Told]
theorem Ei.Num (e : Ei f f') : pNum f' = pNum f := by funext d q k; unfold pNum pIs; rw [e.O, e.Told]
theorem Ei.DMask (e : Ei f f') : pDMask f' = pDMask f := by
  funext d k
  induction k with
  | zero => rfl
  | succ k ih => unfold pDMask; rw [ih, e.Need]; unfold pIs; rw [e.O, e.Told]
theorem Ei.Mean (e : Ei f f') : pMean f' = pMean f := by funext n d q; unfold pMean; rw [e.Num, e.Sum]
theorem Ei.Index (e : Ei f f') : pIndex f' = pIndex f := by funext n d; unfold pIndex; rw [e.Mean, e 7 (by omega) (by omega)]
theorem Ei.WhyS (e : Ei f f') : pWhyS f' = pWhyS f := by funext n d; unfold pWhyS; rw [e.Num, e.DMask, e.Mean, e.Index, e (10 + 3 * d + 2) (by omega) (by omega)]
theorem Ei.InBath (e : Ei f f') : pInBath f' = pInBath f := by funext n b; unfold pInBath; rw [e.O]
theorem Ei.Dep (e : Ei f f') : pDep f' = pDep f := by funext nd k w s; unfold pDep; rw [e.O, e _ (by omega) (by omega)]
theorem Ei.Hard (e : Ei f f') : pHard f' = pHard f := by funext d; unfold pHard; rw [e (10 + 3 * d + 0) (by omega) (by omega), e (10 + 3 * d + 1) (by omega) (by omega)]
theorem Ei.WhyNot (e : Ei f f') : pWhyNot f' = pWhyNot f := by
  funext nd k; unfold pWhyNot; rw [e.O, e.M, e (31 + 3 * nd + 1) (by omega) (by omega), e (28 + (pOf f k 3).toNatClampNeg) (by omega) (by omega), e 5 (by omega) (by omega)]
theorem Ei.Around (e : Ei f f') : pAround f' = pAround f := by
  funext k; unfold pAround; rw [e.O, e (28 + (pOf f k 3).toNatClampNeg) (by omega) (by omega)]
theorem Ei.RingV (e : Ei f f') : pRingV f' = pRingV f := by funext k; unfold pRingV; rw [e.O]
theorem Ei.Step (e : Ei f f') : ∀ k, Ei (pStep f k) (pStep f' k)
  | 0 => e
  | k + 1 => by
    have ih := Ei.Step e k
    exact ih.up (by rw [ih.O, ih.Around])
theorem Ei.Pass (e : Ei f f') {n : Nat} : ∀ j, Ei (pPass f n j) (pPass f' n j)
  | 0 => e
  | j + 1 => (Ei.Pass e j).Step n
theorem Ei.stops (e : Ei g g') {c : Nat} : pStops g' dn n c u = pStops g dn n c u := by unfold pStops; rw [e.WhyS, e.O, e.InBath, e.WhyNot]
theorem Ei.Sink (e : Ei g g') {nd k : Nat} {w s : Int32} : Ei (pSink g nd k w s) (pSink g' nd k w s) := by
  rw [pSink_eq, pSink_eq]
  have e1 : Ei (sk1 g nd k w s) (sk1 g' nd k w s) := by
    unfold sk1; rw [e.M, e.Dep]
    exact (((e.up rfl).up rfl).up rfl).up rfl
  have e2 : Ei (sk2 g nd k w s) (sk2 g' nd k w s) := by
    unfold sk2; rw [e.M]; exact e1.up rfl
  have e3 : Ei (sk3 g nd k w s) (sk3 g' nd k w s) := by
    unfold sk3; rw [e.Dep]; exact e2.up (by rw [e2 (31 + 3 * nd + 0) (by omega) (by omega)])
  have e4 : Ei (sk4 g nd k w s) (sk4 g' nd k w s) := by
    unfold sk4; rw [e.Dep]; exact e3.up (by rw [e3 (31 + 3 * nd + 1) (by omega) (by omega)])
  have e5 : Ei (sk5 g nd k w s) (sk5 g' nd k w s) := by
    unfold sk5; exact e4.up (by rw [e4 (31 + 3 * nd + 2) (by omega) (by omega)])
  exact e5.up (by rw [e5 2 (by omega) (by omega)])
theorem Ei.Take (e : Ei g g') {n d : Nat} : Ei (pTake g n d) (pTake g' n d) := by
  have e1 : Ei (upd g (40 + 42 * n + 0) (nI d)) (upd g' (40 + 42 * n + 0) (nI d)) := e.up rfl
  have e2 := ((((e1.up (i := 40 + 42 * n + 1) (congrFun e1.Hard d)).up (i := 40 + 42 * n + 2) (v := nI 200) rfl).up (i := 40 + 42 * n + 3) (v := -1) rfl).up (i := 40 + 42 * n + 4) (v := -1) rfl).up (i := 40 + 42 * n + 5) (v := nI 0) rfl
  exact e2.up (by rw [e2 1 (by omega) (by omega)])
theorem Ei.Ring (e : Ei g g') {k : Nat} : Ei (pRing g k) (pRing g' k) := by
  unfold pRing; rw [e.O, e.RingV]
  split
  · exact e.up rfl
  · exact e
theorem Ei.does (e : Ei g g') {c : Nat} : Ei (pDoes g n c u) (pDoes g' n c u) := by
  unfold pDoes
  split
  · exact e.up (by rw [e.Mean])
  · split
    · exact e.up rfl
    · split
      · exact e.Sink
      · split
        · exact e.Ring
        · split
          · exact e.Take
          · exact (e.Pass _).up (by rw [e.Pass _ 3 (by omega) (by omega)])
theorem pDoes_9 {part : Nat} (hI : BI g dn n) (hP : PN part u) : pDoes g n part u 9 = g 9 := by
  have hn := hI.nle
  unfold pDoes
  rcases hP with ⟨rfl, d, hd, e0⟩ | ⟨rfl, q, h1, h2, e0⟩ | ⟨rfl, k, hk, e0, e1⟩ | ⟨rfl, nd, k, w, s, h1, h2, h3, h4, h5, h6, e0, e1, e2, e3⟩ | ⟨rfl, k, hk, e0⟩ | ⟨rfl, d, hd, e0⟩
  · rw [if_pos rfl]; unfold pSell; rw [pk_un (by omega)]
  · rw [if_neg (by decide), if_neg (by decide), if_neg (by decide), if_neg (by decide), if_neg (by decide)]; exact pPassT_ne (by omega) (by omega)
  · rw [if_neg (by decide), if_pos rfl, pk_un (by omega)]
  · rw [if_neg (by decide), if_neg (by decide), if_pos rfl, pSink_eq]
    rw [pk_un (by omega)]; unfold sk5; rw [pk_un (by omega)]; unfold sk4; rw [pk_un (by omega)]; unfold sk3; rw [pk_un (by omega)]; unfold sk2; rw [pk_un (by omega)]; unfold sk1; rw [pk_un (by omega), pk_un (by omega), pk_un (by omega), pk_un (by omega)]
  · rw [if_neg (by decide), if_neg (by decide), if_neg (by decide), if_pos rfl]; unfold pRing; split
    · rw [pk_un (by omega)]
    · rfl
  · rw [if_neg (by decide), if_neg (by decide), if_neg (by decide), if_neg (by decide), if_pos rfl]; unfold pTake
    rw [pk_un (by omega), pk_un (by omega), pk_un (by omega), pk_un (by omega), pk_un (by omega), pk_un (by omega), pk_un (by omega)]
def U89 (f : Nat → Int32) (x y : Int32) : Nat → Int32 := upd (upd f 8 x) 9 y
theorem Ei.u89 {x y : Int32} : Ei f (U89 f x y) := fun j a b => by unfold U89; rw [pk_un b, pk_un a]
theorem Ei.eq {x y : Int32} (e : Ei f f') (h8 : f' 8 = x) (h9 : f' 9 = y) : f' = U89 f x y := by
  funext j
  by_cases c9 : j = 9
  · subst c9; unfold U89; rw [pk_us]; exact h9
  · by_cases c8 : j = 8
    · subst c8; unfold U89; rw [pk_un (by omega), pk_us]; exact h8
    · rw [e j c8 c9]; exact (Ei.u89 j c8 c9).symm
/-- the class's loop: numbers, reason, parts done, samples -/
def cOb (ch : Nat → Nat) (dn : Nat) : Nat → (Nat → Int32) → Nat → Nat → Nat → (Nat → Int32) × Int32 × Nat × Nat
  | 0, g, n, _, c => (g, 0, c, n)
  | N + 1, g, n, i, c => if (rPart ch nu0 i).1 = true then (if pStops g dn n (ch i) (rPart ch nu0 i).2.2 ≤ 0 then cOb ch dn N (pDoes g n (ch i) (rPart ch nu0 i).2.2) (n + if ch i = 115 then 1 else 0) (if ch (rPart ch nu0 i).2.1 = 59 then (rPart ch nu0 i).2.1 + 1 else (rPart ch nu0 i).2.1) (c + 1) else (g, pStops g dn n (ch i) (rPart ch nu0 i).2.2, c, n)) else (g, 0, c, n)
def st89 (r x : Int32) : Int32 := if r = 0 then -1 else x
theorem pOb_cOb {ch : Nat → Nat} : ∀ (N : Nat) (g : Nat → Int32) (n i c : Nat), BI g dn n → pOb ch dn N (U89 g (-1) (-1)) n i c =
    (U89 (cOb ch dn N g n i c).1 (st89 (cOb ch dn N g n i c).2.1 (nI (cOb ch dn N g n i c).2.2.1)) (st89 (cOb ch dn N g n i c).2.1 (cOb ch dn N g n i c).2.1), (cOb ch dn N g n i c).2.2)
  | 0, g, n, i, c, _ => rfl
  | N + 1, g, n, i, c, hI => by
    have e : Ei g (U89 g (-1) (-1)) := Ei.u89
    have hIU : BI (U89 g (-1) (-1)) dn n := hI.u89
    have e1 : ∀ G : Nat → Int32, pOb ch dn (N + 1) G n i c = if (rPart ch nu0 i).1 = true then (if pStops G dn n (ch i) (rPart ch nu0 i).2.2 ≤ 0 then pOb ch dn N (pDoes G n (ch i) (rPart ch nu0 i).2.2) (n + if ch i = 115 then 1 else 0) (if ch (rPart ch nu0 i).2.1 = 59 then (rPart ch nu0 i).2.1 + 1 else (rPart ch nu0 i).2.1) (c + 1) else (upd (upd G 8 (nI c)) 9 (pStops G dn n (ch i) (rPart ch nu0 i).2.2), c, n)) else (G, c, n) := fun _ => rfl
    have e2 : cOb ch dn (N + 1) g n i c = if (rPart ch nu0 i).1 = true then (if pStops g dn n (ch i) (rPart ch nu0 i).2.2 ≤ 0 then cOb ch dn N (pDoes g n (ch i) (rPart ch nu0 i).2.2) (n + if ch i = 115 then 1 else 0) (if ch (rPart ch nu0 i).2.1 = 59 then (rPart ch nu0 i).2.1 + 1 else (rPart ch nu0 i).2.1) (c + 1) else (g, pStops g dn n (ch i) (rPart ch nu0 i).2.2, c, n)) else (g, 0, c, n) := rfl
    rw [e1, e2, e.stops]
    by_cases h1 : (rPart ch nu0 i).1 = true
    · rw [if_pos h1, if_pos h1]
      have hPN := rPart_PN h1
      by_cases h2 : pStops g dn n (ch i) (rPart ch nu0 i).2.2 ≤ 0
      · rw [if_pos h2, if_pos h2]
        have ed := (e.does (n := n) (u := (rPart ch nu0 i).2.2) (c := ch i)).eq (x := -1) (y := -1) ((pDoes_8 hIU hPN).trans (by unfold U89; rw [pk_un (by omega), pk_us])) ((pDoes_9 hIU hPN).trans (by unfold U89; rw [pk_us]))
        rw [ed]
        exact pOb_cOb N _ _ _ _ (hI.does hPN h2)
      · rw [if_neg h2, if_neg h2]
        have hne : ¬ pStops g dn n (ch i) (rPart ch nu0 i).2.2 = 0 := fun z => h2 (pStops_z.mpr z)
        show (_, _) = (U89 g (st89 _ _) (st89 _ _), _)
        rw [show st89 (pStops g dn n (ch i) (rPart ch nu0 i).2.2) (nI c) = nI c from if_neg hne, show st89 (pStops g dn n (ch i) (rPart ch nu0 i).2.2) (pStops g dn n (ch i) (rPart ch nu0 i).2.2) = pStops g dn n (ch i) (rPart ch nu0 i).2.2 from if_neg hne]
        congr 1
        refine Ei.eq (fun j a b => ?_) ?_ ?_
        · rw [pk_un b, pk_un a]; exact e j a b
        · rw [pk_un (by omega), pk_us]
        · rw [pk_us]
    · rw [if_neg h1, if_neg h1]; rfl
end Ei
