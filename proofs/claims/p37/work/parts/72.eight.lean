/-! NUMBERS 8 AND 9 ARE READ BY NOBODY -/
section Ei
variable {f f' g g' u : Nat → Int32} {dn n : Nat}
def Ei (f f' : Nat → Int32) : Prop := ∀ j, j ≠ 8 → j ≠ 9 → f' j = f j
theorem Ei.up {i : Nat} {v v' : Int32} (e : Ei f f') (h : v' = v) : Ei (upd f i v) (upd f' i v') := by
  intro j a b
  subst h
  unfold upd
  split
  · rfl
  · exact e j a b
theorem Ei.O (e : Ei f f') : pOf f' = pOf f := by funext k w; exact e _ (by omega) (by omega)
theorem Ei.M (e : Ei f f') : pMany f' = pMany f := by funext k; unfold pMany; rw [e.O]
theorem Ei.Dep (e : Ei f f') : pDep f' = pDep f := by funext nd k w s; unfold pDep; rw [e.O, e _ (by omega) (by omega)]
theorem Ei.Hard (e : Ei f f') : pHard f' = pHard f := by funext d; unfold pHard; rw [e (10 + 3 * d + 0) (by omega) (by omega), e (10 + 3 * d + 1) (by omega) (by omega)]
theorem Ei.Around (e : Ei f f') : pAround f' = pAround f := by
  funext k; unfold pAround; rw [e.O, e (28 + (pOf f k 3).toNatClampNeg) (by omega) (by omega)]
theorem Ei.RingV (e : Ei f f') : pRingV f' = pRingV f := by funext k; unfold pRingV; rw [e.O]
theorem Ei.Step (e : Ei f f') : ∀ k, Ei (pStep f k) (pStep f' k)
  | 0 => e
  | k + 1 => by
    have ih := Ei.Step e k
    exact ih.up (by rw [ih.O, ih.Around])
theorem Ei.Pass (e : Ei f f') {n : Nat} : ∀ j, Ei (pPass f n j) (pPass f' n j)
  | 0 => e
  | j + 1 => (Ei.Pass e j).Step n
theorem Ei.Sink (e : Ei g g') {nd k : Nat} {w s : Int32} : Ei (pSink g nd k w s) (pSink g' nd k w s) := by
  rw [pSink_eq, pSink_eq]
  have e1 : Ei (sk1 g nd k w s) (sk1 g' nd k w s) := by
    unfold sk1; rw [e.M, e.Dep]
    exact (((e.up rfl).up rfl).up rfl).up rfl
  have e2 : Ei (sk2 g nd k w s) (sk2 g' nd k w s) := by
    unfold sk2; rw [e.M]; exact e1.up rfl
  have e3 : Ei (sk3 g nd k w s) (sk3 g' nd k w s) := by
    unfold sk3; rw [e.Dep]; exact e2.up (by rw [e2 (31 + 3 * nd + 0) (by omega) (by omega)])
  have e4 : Ei (sk4 g nd k w s) (sk4 g' nd k w s) := by
    unfold sk4; rw [e.Dep]; exact e3.up (by rw [e3 (31 + 3 * nd + 1) (by omega) (by omega)])
  have e5 : Ei (sk5 g nd k w s) (sk5 g' nd k w s) := by
    unfold sk5; exact e4.up (by rw [e4 (31 + 3 * nd + 2) (by omega) (by omega)])
  exact e5.up (by rw [e5 2 (by omega) (by omega)])
theorem Ei.Take (e : Ei g g') {n d : Nat} : Ei (pTake g n d) (pTake g' n d) := by
  have e1 : Ei (upd g (40 + 42 * n + 0) (nI d)) (upd g' (40 + 42 * n + 0) (nI d)) := e.up rfl
  have e2 := ((((e1.up (i := 40 + 42 * n + 1) (congrFun e1.Hard d)).up (i := 40 + 42 * n + 2) (v := nI 200) rfl).up (i := 40 + 42 * n + 3) (v := -1) rfl).up (i := 40 + 42 * n + 4) (v := -1) rfl).up (i := 40 + 42 * n + 5) (v := nI 0) rfl
  exact e2.up (by rw [e2 1 (by omega) (by omega)])
theorem Ei.Ring (e : Ei g g') {k : Nat} : Ei (pRing g k) (pRing g' k) := by
  unfold pRing; rw [e.O, e.RingV]
  split
  · exact e.up rfl
  · exact e
def U89 (f : Nat → Int32) (x y : Int32) : Nat → Int32 := upd (upd f 8 x) 9 y
theorem Ei.u89 {x y : Int32} : Ei f (U89 f x y) := fun j a b => by unfold U89; rw [pk_un b, pk_un a]
theorem Ei.eq {x y : Int32} (e : Ei f f') (h8 : f' 8 = x) (h9 : f' 9 = y) : f' = U89 f x y := by
  funext j
  by_cases c9 : j = 9
  · subst c9; unfold U89; rw [pk_us]; exact h9
  · by_cases c8 : j = 8
    · subst c8; unfold U89; rw [pk_un (by omega), pk_us]; exact h8
    · rw [e j c8 c9]; exact (Ei.u89 j c8 c9).symm
end Ei
