/-! A LABORATORY CHANGED -/
def wPost (ad : Nat → Nat) (c : Nat) (M : Mem) (v : Option Value) (g : Nat → Int32) (dn n : Nat) (π : Nat → Nat) : FPost := fun o M' => o = .inl v ∧ LabAt M' ad c g dn n π ∧ Off ad c 31 M M'
theorem SpAt.upd1 {M : Mem} {a b k : Nat} {g g' : Nat → Int32} {x0 x1 x2 x3 x4 : Int32} {f : Nat → Int32} (hab : a ≠ b) (hf : M b = some (.inr (0, 36, .inl f))) (hv : ∀ j, j < 4 * pMany g k → f j = pOf g k (6 + j)) (h9 : pMany g k ≤ 9)
    (h0 : pOf g' k 0 = x0) (h1 : pOf g' k 1 = x1) (h2 : pOf g' k 2 = x2) (h3 : pOf g' k 3 = x3) (h4 : pOf g' k 4 = x4) (h5 : ∀ w, 5 ≤ w → w < 42 → pOf g' k w = pOf g k w) : SpAt (fup M a (.inl (6, [.int x0, .int x1, .int x2, .int x3, .int x4, .int (pOf g k 5), .ref b]))) a b g' k := by
  have em : pMany g' k = pMany g k := by unfold pMany; rw [h5 5 (by omega) (by omega)]
  refine ⟨?_, f, (fup_ne (Ne.symm hab)).trans hf, ?_⟩
  · rw [fup_eq, h0, h1, h2, h3, h4, h5 5 (by omega) (by omega)]
  · intro j hj
    rw [em] at hj
    rw [h5 _ (by omega) (by omega)]; exact hv j hj
theorem upd3_0 {g : Nat → Int32} {i j k : Nat} {p x y : Int32} (h1 : i ≠ j) (h2 : i ≠ k) : upd (upd (upd g i p) j x) k y i = p := by rw [pk_un h2, pk_un h1, pk_us]
theorem upd3_1 {g : Nat → Int32} {i j k : Nat} {p x y : Int32} (h2 : j ≠ k) : upd (upd (upd g i p) j x) k y j = x := by rw [pk_un h2, pk_us]
theorem upd3_2 {g : Nat → Int32} {i j k : Nat} {p x y : Int32} : upd (upd (upd g i p) j x) k y k = y := pk_us
theorem Off.upE {ad : Nat → Nat} {c len t i : Nat} {M : Mem} {x : MC} (e : i = c + t) (ht : t < len) : Off ad c len M (fup M (ad i) x) := by subst e; exact Off.up ht
section Wr
variable {M : Mem} {ad : Nat → Nat} {c : Nat} {g : Nat → Int32} {dn n : Nat} {π : Nat → Nat}
theorem BI.k9 (hI : BI g dn n) : ∀ k, k < n → pMany g k ≤ 9 := fun k hk => (hI.mM k hk).2
theorem W_fill (hA : aInj ad) (hc : c + 31 ≤ 256) (hL : LabAt M ad c g dn n π) (hI : BI g dn n) (hd : dn < 6) {p : Int32} : LabAt (fup M (ad (c + 6 + dn)) (.inl (0, [.int p, .int (nI 0), .int (-1)]))) ad c (upd (upd (upd g (10 + 3 * dn + 0) p) (10 + 3 * dn + 1) (nI 0)) (10 + 3 * dn + 2) (-1)) dn n π :=
  hL.putDr hA hc hI.k9 hd (fun b hb => fup_ne hb) ⟨_, _, _, fup_eq⟩ (fun h => absurd h (by omega)) (fun j _ hj => by rw [pk_un (by omega), pk_un (by omega), pk_un (by omega)])
theorem W_drum (hA : aInj ad) (hc : c + 31 ≤ 256) {M1 : Mem} {p : Int32} (hL : LabAt M1 ad c (upd (upd (upd g (10 + 3 * dn + 0) p) (10 + 3 * dn + 1) (nI 0)) (10 + 3 * dn + 2) (-1)) dn n π) (hM : M1 = fup M (ad (c + 6 + dn)) (.inl (0, [.int p, .int (nI 0), .int (-1)]))) (hI : BI g dn n) (hd : dn < 6) :
    LabAt (fup M1 (ad c) (.inl (2, [.ref (ad (c + 1)), .ref (ad (c + 2)), .ref (ad (c + 3)), .ref (ad (c + 4)), .ref (ad (c + 5)), .int (nI (dn + 1)), .int (nI n), .int (upd (upd (upd g (10 + 3 * dn + 0) p) (10 + 3 * dn + 1) (nI 0)) (10 + 3 * dn + 2) (-1) 3), .int (upd (upd (upd g (10 + 3 * dn + 0) p) (10 + 3 * dn + 1) (nI 0)) (10 + 3 * dn + 2) (-1) 4), .int (upd (upd (upd g (10 + 3 * dn + 0) p) (10 + 3 * dn + 1) (nI 0)) (10 + 3 * dn + 2) (-1) 8), .int (upd (upd (upd g (10 + 3 * dn + 0) p) (10 + 3 * dn + 1) (nI 0)) (10 + 3 * dn + 2) (-1) 9)]))) ad c (pDrum g dn p) (dn + 1) n π := by
  have hn := hL.nl
  refine hL.putLab hA hc (by omega) hL.nl (fun b hb => fup_ne hb) fup_eq ?_ ?_ ?_
  · intro d hd'
    by_cases e : d < dn
    · exact hL.dr d e
    · have e' : d = dn := by omega
      subst e'
      show M1 _ = _
      rw [hM, fup_eq, upd3_0 (by omega) (by omega), upd3_1 (by omega), upd3_2]
  · intro k hk
    refine ⟨hL.sp k hk, ?_⟩
    have := hI.k9 k hk
    rw [pMany_un (by omega), pMany_un (by omega), pMany_un (by omega)]; exact this
  · intro j _ hj; unfold pDrum; rw [pk_un (by omega)]
theorem mn999 {y : Int32} : (if y < nI 999 then y else nI 999) = (if nI 999 < y then nI 999 else y) := by
  by_cases h : nI 999 < y
  · rw [if_pos h, if_neg (Int32.not_lt.mpr (by rw [i32_le]; rw [i32_lt] at h; omega))]
  · rw [if_neg h]
    by_cases h2 : y < nI 999
    · rw [if_pos h2]
    · rw [if_neg h2]; rw [i32_lt] at h h2; exact i32_ext (by omega)
theorem W_age (hA : aInj ad) (hc : c + 31 ≤ 256) {x : Int32} {d : Nat} (hd : d < dn) (hL : LabAt M ad c (pAgeG g x d) dn n π) (hI : BI (pAgeG g x d) dn n) : LabAt (fup M (ad (c + 6 + d)) (.inl (0, [.int (pAgeG g x d (10 + 3 * d + 0)), .int (if nI 999 < pAgeG g x d (10 + 3 * d + 1) + x then nI 999 else pAgeG g x d (10 + 3 * d + 1) + x), .int (pAgeG g x d (10 + 3 * d + 2))]))) ad c (pAgeG g x (d + 1)) dn n π := by
  have h6 := hL.dl
  refine hL.putDr hA hc hI.k9 (by omega) (fun b hb => fup_ne hb) ⟨_, _, _, fup_eq⟩ (fun _ => ?_) (fun j _ hj => by show upd _ _ _ j = _; rw [pk_un (by omega)])
  show fup _ _ _ _ = some (.inl (0, [.int (upd _ _ _ (10 + 3 * d + 0)), .int (upd _ _ _ (10 + 3 * d + 1)), .int (upd _ _ _ (10 + 3 * d + 2))]))
  rw [fup_eq, pk_us, pk_un (by omega), pk_un (by omega)]
theorem W_begin (hA : aInj ad) (hc : c + 31 ≤ 256) (hL : LabAt M ad c g dn n π) (hI : BI g dn n) (hn : n < 8) {d : Nat} {h : Int32} (hh : h = pHard g d) : LabAt (fup M (ad (c + 12 + π n)) (.inl (6, [.int (nI d), .int h, .int (nI 200), .int (-1), .int (-1), .int (nI 0), .ref (ad (c + 20 + π n))]))) ad c (tk6 g n d) dn n π := by
  have hp := hL.pl n hn
  obtain ⟨y0, y1, y2, y3, y4, y5, f, e1, e2⟩ := hL.spa (π n) hp
  refine hL.putSp hA hc hI.k9 hn (fun b h1 h2 => fup_ne h1) ⟨_, _, _, _, _, _, f, fup_eq, (fup_ne (hA.ne (by omega) (by omega) (by omega))).trans e2⟩ (fun h => absurd h (by omega)) (fun j _ hj => ?_)
  unfold tk6; rw [pk_un (by omega), pk_un (by omega), pk_un (by omega), pk_un (by omega), pk_un (by omega), pk_un (by omega)]
theorem W_take (hA : aInj ad) (hc : c + 31 ≤ 256) {M1 : Mem} {d : Nat} {h : Int32} (hh : h = pHard g d) (hL0 : LabAt M ad c g dn n π) (hL : LabAt M1 ad c (tk6 g n d) dn n π) (hM : M1 = fup M (ad (c + 12 + π n)) (.inl (6, [.int (nI d), .int h, .int (nI 200), .int (-1), .int (-1), .int (nI 0), .ref (ad (c + 20 + π n))]))) (hI : BI g dn n) (hd : d < dn) (hn : n < 8) :
    LabAt (fup M1 (ad c) (.inl (2, [.ref (ad (c + 1)), .ref (ad (c + 2)), .ref (ad (c + 3)), .ref (ad (c + 4)), .ref (ad (c + 5)), .int (nI dn), .int (nI (n + 1)), .int (tk6 g n d 3), .int (tk6 g n d 4), .int (tk6 g n d 8), .int (tk6 g n d 9)]))) ad c (pTake g n d) dn (n + 1) π := by
  have hp := hL.pl n hn
  rw [pTake_eq hI hd]
  refine hL.putLab hA hc hL.dl (by omega) (fun b hb => fup_ne hb) fup_eq (fun d hd' => hL.dr d hd') ?_ ?_
  · intro k hk
    by_cases e : k < n
    · refine ⟨hL.sp k e, ?_⟩
      have := hI.k9 k e
      unfold tk6
      rw [pMany_un (by omega), pMany_un (by omega), pMany_un (by omega), pMany_un (by omega), pMany_un (by omega), pMany_un (by omega)]; exact this
    · have e' : k = n := by omega
      subst e'
      have e5 : pOf (tk6 g k d) k 5 = nI 0 := pk_us
      have em : pMany (tk6 g k d) k = 0 := by unfold pMany; rw [e5]; rfl
      obtain ⟨y0, y1, y2, y3, y4, y5, f, e1, e2⟩ := hL0.spa (π k) hp
      refine ⟨⟨?_, f, ?_, fun j hj => by rw [em] at hj; omega⟩, by rw [em]; omega⟩
      · have t0 : pOf (tk6 g k d) k 0 = nI d := by unfold tk6 pOf; rw [pk_un (by omega), pk_un (by omega), pk_un (by omega), pk_un (by omega), pk_un (by omega), pk_us]
        have t1 : pOf (tk6 g k d) k 1 = pHard g d := by unfold tk6 pOf; rw [pk_un (by omega), pk_un (by omega), pk_un (by omega), pk_un (by omega), pk_us]
        have t2 : pOf (tk6 g k d) k 2 = nI 200 := by unfold tk6 pOf; rw [pk_un (by omega), pk_un (by omega), pk_un (by omega), pk_us]
        have t3 : pOf (tk6 g k d) k 3 = -1 := by unfold tk6 pOf; rw [pk_un (by omega), pk_un (by omega), pk_us]
        have t4 : pOf (tk6 g k d) k 4 = -1 := by unfold tk6 pOf; rw [pk_un (by omega), pk_us]
        rw [hM, fup_eq, e5, t0, t1, t2, t3, t4, hh]
      · rw [hM]; exact (fup_ne (hA.ne (by omega) (by omega) (by omega))).trans e2
  · intro j _ hj; rw [pk_un (by omega)]
theorem W_bath (hA : aInj ad) (hc : c + 31 ≤ 256) (hL : LabAt M ad c g dn n π) (hI : BI g dn n) {k : Nat} (hk : k < n) {b : Int32} : LabAt (fup M (ad (c + 12 + π k)) (.inl (6, [.int (pOf g k 0), .int (pOf g k 1), .int (pOf g k 2), .int b, .int (pOf g k 4), .int (pOf g k 5), .ref (ad (c + 20 + π k))]))) ad c (upd g (40 + 42 * k + 3) b) dn n π := by
  have h8 := hL.nl
  have hp := hL.pl k (by omega)
  obtain ⟨e1, f, e2, e3⟩ := hL.sp k hk
  have h := SpAt.upd1 (M := M) (a := ad (c + 12 + π k)) (b := ad (c + 20 + π k)) (g := g) (g' := upd g (40 + 42 * k + 3) b) (k := k) (hA.ne (by omega) (by omega) (by omega)) e2 e3 (hI.k9 k hk) (pk_un (by omega)) (pk_un (by omega)) (pk_un (by omega)) pk_us (pk_un (by omega)) (fun w h1 h2 => pk_un (by omega))
  rw [show pOf g k 0 = g (40 + 42 * k + 0) from rfl] at *
  exact hL.putSp hA hc hI.k9 (by omega) (fun b h1 h2 => fup_ne h1) h.any (fun _ => h) (fun j _ hj => pk_un (by omega))
theorem W_warm (hA : aInj ad) (hc : c + 31 ≤ 256) (hL : LabAt M ad c g dn n π) (hI : BI g dn n) {k : Nat} (hk : k < n) {b : Int32} : LabAt (fup M (ad (c + 12 + π k)) (.inl (6, [.int (pOf g k 0), .int (pOf g k 1), .int b, .int (pOf g k 3), .int (pOf g k 4), .int (pOf g k 5), .ref (ad (c + 20 + π k))]))) ad c (upd g (40 + 42 * k + 2) b) dn n π := by
  have h8 := hL.nl
  have hp := hL.pl k (by omega)
  obtain ⟨e1, f, e2, e3⟩ := hL.sp k hk
  have h := SpAt.upd1 (M := M) (a := ad (c + 12 + π k)) (b := ad (c + 20 + π k)) (g := g) (g' := upd g (40 + 42 * k + 2) b) (k := k) (hA.ne (by omega) (by omega) (by omega)) e2 e3 (hI.k9 k hk) (pk_un (by omega)) (pk_un (by omega)) pk_us (pk_un (by omega)) (pk_un (by omega)) (fun w h1 h2 => pk_un (by omega))
  exact hL.putSp hA hc hI.k9 (by omega) (fun b h1 h2 => fup_ne h1) h.any (fun _ => h) (fun j _ hj => pk_un (by omega))
theorem W_soft (hA : aInj ad) (hc : c + 31 ≤ 256) (hL : LabAt M ad c g dn n π) (hI : BI g dn n) {k : Nat} (hk : k < n) {b : Int32} : LabAt (fup M (ad (c + 12 + π k)) (.inl (6, [.int (pOf g k 0), .int (pOf g k 1), .int (pOf g k 2), .int (pOf g k 3), .int b, .int (pOf g k 5), .ref (ad (c + 20 + π k))]))) ad c (upd g (40 + 42 * k + 4) b) dn n π := by
  have h8 := hL.nl
  have hp := hL.pl k (by omega)
  obtain ⟨e1, f, e2, e3⟩ := hL.sp k hk
  have h := SpAt.upd1 (M := M) (a := ad (c + 12 + π k)) (b := ad (c + 20 + π k)) (g := g) (g' := upd g (40 + 42 * k + 4) b) (k := k) (hA.ne (by omega) (by omega) (by omega)) e2 e3 (hI.k9 k hk) (pk_un (by omega)) (pk_un (by omega)) (pk_un (by omega)) (pk_un (by omega)) pk_us (fun w h1 h2 => pk_un (by omega))
  exact hL.putSp hA hc hI.k9 (by omega) (fun b h1 h2 => fup_ne h1) h.any (fun _ => h) (fun j _ hj => pk_un (by omega))
/-- the lab's own number of minutes, of renewals, its stop -/
theorem W_num (hA : aInj ad) (hc : c + 31 ≤ 256) (hL : LabAt M ad c g dn n π) (hI : BI g dn n) {x3 x4 x8 x9 : Int32} {g' : Nat → Int32} (e3 : g' 3 = x3) (e4 : g' 4 = x4) (e8 : g' 8 = x8) (e9 : g' 9 = x9) (e : ∀ j, j < 376 → (5 ≤ j ∧ j < 8 ∨ 10 ≤ j) → g' j = g j) :
    LabAt (fup M (ad c) (.inl (2, [.ref (ad (c + 1)), .ref (ad (c + 2)), .ref (ad (c + 3)), .ref (ad (c + 4)), .ref (ad (c + 5)), .int (nI dn), .int (nI n), .int x3, .int x4, .int x8, .int x9]))) ad c g' dn n π :=
  hL.putLab hA hc hL.dl hL.nl (fun b hb => fup_ne hb) (by rw [fup_eq, e3, e4, e8, e9]) hL.dr (fun k hk => ⟨hL.sp k hk, hI.k9 k hk⟩) e
theorem W_grade (hA : aInj ad) (hc : c + 31 ≤ 256) (hL : LabAt M ad c g dn n π) (hI : BI g dn n) {d : Nat} (hd : d < dn) {x : Int32} : LabAt (fup M (ad (c + 6 + d)) (.inl (0, [.int (g (10 + 3 * d + 0)), .int (g (10 + 3 * d + 1)), .int x]))) ad c (upd g (10 + 3 * d + 2) x) dn n π := by
  have h6 := hL.dl
  refine hL.putDr hA hc hI.k9 (by omega) (fun b hb => fup_ne hb) ⟨_, _, _, fup_eq⟩ (fun _ => ?_) (fun j _ hj => pk_un (by omega))
  show fup _ _ _ _ = _
  rw [fup_eq, pk_us, pk_un (by omega), pk_un (by omega)]
theorem W_new (hA : aInj ad) (hc : c + 31 ≤ 256) (hL : LabAt M ad c g dn n π) (hI : BI g dn n) {i : Nat} (hi : i < 3) : LabAt (fup M (ad (c + 28 + i)) (.inl (3, [.int (nI 0), .int (nI 0), .int (g (31 + 3 * i + 2))]))) ad c (upd (upd g (31 + 3 * i + 0) (nI 0)) (31 + 3 * i + 1) (nI 0)) dn n π := by
  refine hL.putNd hA hc hI.k9 hi (fun b hb => fup_ne hb) ?_ (fun j _ _ _ _ hj => by rw [pk_un (by omega), pk_un (by omega)])
  show fup _ _ _ _ = _
  rw [fup_eq, pk_us, pk_un (by omega), pk_us, pk_un (by omega), pk_un (by omega)]
theorem W_deg (hA : aInj ad) (hc : c + 31 ≤ 256) (hL : LabAt M ad c g dn n π) (hI : BI g dn n) {f : Nat → Int32} (hv : ∀ b, b < 3 → f b = g (28 + b)) {b : Nat} (hb : b < 3) {x : Int32} : LabAt (fup M (ad (c + 4)) (.inr (0, 3, .inl (upd f b x)))) ad c (upd g (28 + b) x) dn n π := by
  refine hL.putDg hA hc hI.k9 (fun b hb => fup_ne hb) ⟨_, fup_eq, fun b' hb' => ?_⟩ (fun j _ hj => pk_un (by omega))
  by_cases e : b' = b
  · subst e; rw [pk_us, pk_us]
  · rw [pk_un e, pk_un (by omega)]; exact hv b' hb'
theorem W_set (hA : aInj ad) (hc : c + 31 ≤ 256) (hL : LabAt M ad c g dn n π) (hI : BI g dn n) {f : Nat → Int32} (hv : ∀ b, b < 3 → f b = g (5 + b)) {b : Nat} (hb : b < 3) {x : Int32} : LabAt (fup M (ad (c + 5)) (.inr (0, 3, .inl (upd f b x)))) ad c (upd g (5 + b) x) dn n π := by
  refine hL.putSt hA hc hI.k9 (fun b hb => fup_ne hb) ⟨_, fup_eq, fun b' hb' => ?_⟩ (fun j _ hj => pk_un (by omega))
  by_cases e : b' = b
  · subst e; rw [pk_us, pk_us]
  · rw [pk_un e, pk_un (by omega)]; exact hv b' hb'
theorem pMany_up {k m : Nat} (h : m < 2 ^ 31) : pMany (upd g (40 + 42 * k + 5) (nI m)) k = m := by
  show (upd g (40 + 42 * k + 5) (nI m) (40 + 42 * k + 5)).toNatClampNeg = m
  rw [pk_us]; exact nI_clamp h
theorem W_write (hA : aInj ad) (hc : c + 31 ≤ 256) (hL : LabAt M ad c g dn n π) (hI : BI g dn n) {k nd : Nat} (hk : k < n) (h9 : pMany g k < 9) {w s : Int32} {f : Nat → Int32} (hf : M (ad (c + 20 + π k)) = some (.inr (0, 36, .inl f))) (hv : ∀ j, j < 4 * pMany g k → f j = pOf g k (6 + j)) :
    LabAt (fup (fup M (ad (c + 20 + π k)) (.inr (0, 36, .inl (upd (upd (upd (upd f (pMany g k * 4 + 0) (nI nd)) (pMany g k * 4 + 1) (pDep g nd k w s)) (pMany g k * 4 + 2) w) (pMany g k * 4 + 3) s)))) (ad (c + 12 + π k)) (.inl (6, [.int (pOf g k 0), .int (pOf g k 1), .int (pOf g k 2), .int (pOf g k 3), .int (pOf g k 4), .int (nI (pMany g k + 1)), .ref (ad (c + 20 + π k))]))) ad c (sk2 g nd k w s) dn n π := by
  have h8 := hL.nl
  have hp := hL.pl k (by omega)
  have hne : ad (c + 20 + π k) ≠ ad (c + 12 + π k) := hA.ne (by omega) (by omega) (by omega)
  have em : pMany (sk2 g nd k w s) k = pMany g k + 1 := pMany_up (by omega)
  have e5 : pOf (sk2 g nd k w s) k 5 = nI (pMany g k + 1) := pk_us
  have elo : ∀ i, i < 5 → pOf (sk2 g nd k w s) k i = pOf g k i := fun i hi => by
    unfold sk2 sk1 pOf; rw [pk_un (by omega), pk_un (by omega), pk_un (by omega), pk_un (by omega), pk_un (by omega)]
  have h : SpAt (fup (fup M (ad (c + 20 + π k)) (.inr (0, 36, .inl (upd (upd (upd (upd f (pMany g k * 4 + 0) (nI nd)) (pMany g k * 4 + 1) (pDep g nd k w s)) (pMany g k * 4 + 2) w) (pMany g k * 4 + 3) s)))) (ad (c + 12 + π k)) (.inl (6, [.int (pOf g k 0), .int (pOf g k 1), .int (pOf g k 2), .int (pOf g k 3), .int (pOf g k 4), .int (nI (pMany g k + 1)), .ref (ad (c + 20 + π k))]))) (ad (c + 12 + π k)) (ad (c + 20 + π k)) (sk2 g nd k w s) k := by
    refine ⟨?_, _, (fup_ne hne).trans fup_eq, ?_⟩
    · rw [fup_eq, elo 0 (by omega), elo 1 (by omega), elo 2 (by omega), elo 3 (by omega), elo 4 (by omega), e5]
    · intro j hj
      rw [em] at hj
      have r3 : pOf (sk2 g nd k w s) k (6 + (pMany g k * 4 + 3)) = s := by unfold sk2 sk1 pOf; rw [pk_un (by omega), show 40 + 42 * k + (6 + (pMany g k * 4 + 3)) = 40 + 42 * k + (6 + 4 * pMany g k + 3) by omega, pk_us]
      have r2 : pOf (sk2 g nd k w s) k (6 + (pMany g k * 4 + 2)) = w := by unfold sk2 sk1 pOf; rw [pk_un (by omega), pk_un (by omega), show 40 + 42 * k + (6 + (pMany g k * 4 + 2)) = 40 + 42 * k + (6 + 4 * pMany g k + 2) by omega, pk_us]
      have r1 : pOf (sk2 g nd k w s) k (6 + (pMany g k * 4 + 1)) = pDep g nd k w s := by unfold sk2 sk1 pOf; rw [pk_un (by omega), pk_un (by omega), pk_un (by omega), show 40 + 42 * k + (6 + (pMany g k * 4 + 1)) = 40 + 42 * k + (6 + 4 * pMany g k + 1) by omega, pk_us]
      have r0 : pOf (sk2 g nd k w s) k (6 + (pMany g k * 4 + 0)) = nI nd := by unfold sk2 sk1 pOf; rw [pk_un (by omega), pk_un (by omega), pk_un (by omega), pk_un (by omega), show 40 + 42 * k + (6 + (pMany g k * 4 + 0)) = 40 + 42 * k + (6 + 4 * pMany g k) by omega, pk_us]
      by_cases c3 : j = pMany g k * 4 + 3
      · rw [c3, r3]; exact pk_us
      · by_cases c2 : j = pMany g k * 4 + 2
        · rw [c2, r2]; exact (pk_un (by omega)).trans pk_us
        · by_cases c1 : j = pMany g k * 4 + 1
          · rw [c1, r1]; exact (pk_un (by omega)).trans ((pk_un (by omega)).trans pk_us)
          · by_cases c0 : j = pMany g k * 4 + 0
            · rw [c0, r0]; exact (pk_un (by omega)).trans ((pk_un (by omega)).trans ((pk_un (by omega)).trans pk_us))
            · have r : pOf (sk2 g nd k w s) k (6 + j) = pOf g k (6 + j) := by unfold sk2 sk1 pOf; rw [pk_un (by omega), pk_un (by omega), pk_un (by omega), pk_un (by omega), pk_un (by omega)]
              rw [r, ← hv j (by omega)]
              exact (pk_un c3).trans ((pk_un c2).trans ((pk_un c1).trans (pk_un c0)))
  refine hL.putSp hA hc hI.k9 (by omega) (fun b h1 h2 => (fup_ne h1).trans (fup_ne h2)) h.any (fun _ => h) (fun j _ hj => ?_)
  unfold sk2 sk1; rw [pk_un (by omega), pk_un (by omega), pk_un (by omega), pk_un (by omega), pk_un (by omega)]
theorem wear_eq {d w : Int32} {x : Nat} (hw : w = nI x) (hx : x ≤ 20) : wWear d w = w + (if d < nI 50 ∧ w < nI 20 then nI 1 else nI 0) := by
  subst hw
  by_cases h : d < nI 50
  · unfold wWear
    rw [if_pos h, nI_add]
    by_cases h2 : x < 20
    · have r : (if d < nI 50 ∧ nI x < nI 20 then nI 1 else nI 0) = nI 1 := if_pos ⟨h, (nI_ltI (by omega) (by omega)).mpr h2⟩
      rw [r, nI_add]
      by_cases h3 : x + 1 < 20
      · rw [if_pos ((nI_ltI (by omega) (by omega)).mpr h3)]
      · rw [if_neg (fun q => h3 ((nI_ltI (by omega) (by omega)).mp q))]; congr 1; omega
    · have r : (if d < nI 50 ∧ nI x < nI 20 then nI 1 else nI 0) = nI 0 := if_neg (fun q => h2 ((nI_ltI (by omega) (by omega)).mp q.2))
      rw [r, nI_add, if_neg (fun q => by have := (nI_ltI (by omega) (by omega)).mp q; omega)]; congr 1; omega
  · unfold wWear
    rw [if_neg h, if_neg (fun q => h q.1), nI_add]; congr 1
theorem W_sink (hA : aInj ad) (hc : c + 31 ≤ 256) {k nd : Nat} {w s : Int32} (hL : LabAt M ad c (sk2 g nd k w s) dn n π) (hI : BI g dn n) (hk : k < n) (h9 : pMany g k < 9) (hnd : nd < 3) :
    LabAt (fup M (ad (c + 28 + nd)) (.inl (3, [.int (wWear (pDep g nd k w s) (sk2 g nd k w s (31 + 3 * nd + 0))), .int (wBent (pDep g nd k w s) (sk2 g nd k w s (31 + 3 * nd + 1))), .int (sk2 g nd k w s (31 + 3 * nd + 2) + nI 1)]))) ad c (pSink g nd k w s) dn n π := by
  have h8 := hL.nl
  have es : ∀ j, j < 40 → sk2 g nd k w s j = g j := fun j hj => by unfold sk2 sk1; rw [pk_un (by omega), pk_un (by omega), pk_un (by omega), pk_un (by omega), pk_un (by omega)]
  obtain ⟨x, hx, ex⟩ := (hI.nd nd hnd).1
  rw [pSink_eq]
  have h9' : ∀ j, j < n → pMany (sk2 g nd k w s) j ≤ 9 := by
    intro j hj
    by_cases e : j = k
    · subst e; rw [show pMany (sk2 g nd j w s) j = pMany g j + 1 from pMany_up (by omega)]; omega
    · unfold sk2 sk1; rw [pMany_un (by omega), pMany_un (by omega), pMany_un (by omega), pMany_un (by omega), pMany_un (by omega)]; exact hI.k9 j hj
  refine hL.putNd hA hc h9' hnd (fun b hb => fup_ne hb) ?_ (fun j _ _ _ h2 hj => ?_)
  · show fup _ _ _ _ = _
    rw [fup_eq]
    have a0 : (upd (sk5 g nd k w s) 2 (sk5 g nd k w s 2 + nI 1)) (31 + 3 * nd + 0) = wWear (pDep g nd k w s) (sk2 g nd k w s (31 + 3 * nd + 0)) := by
      rw [pk_un (by omega)]; unfold sk5; rw [pk_un (by omega)]; unfold sk4; rw [pk_un (by omega)]; unfold sk3; rw [pk_us]
      exact (wear_eq (x := x) (by rw [es _ (by omega)]; exact ex) hx).symm
    have a1 : (upd (sk5 g nd k w s) 2 (sk5 g nd k w s 2 + nI 1)) (31 + 3 * nd + 1) = wBent (pDep g nd k w s) (sk2 g nd k w s (31 + 3 * nd + 1)) := by
      rw [pk_un (by omega)]; unfold sk5; rw [pk_un (by omega)]; unfold sk4; rw [pk_us]; unfold sk3; rw [pk_un (by omega)]; rfl
    have a2 : (upd (sk5 g nd k w s) 2 (sk5 g nd k w s 2 + nI 1)) (31 + 3 * nd + 2) = sk2 g nd k w s (31 + 3 * nd + 2) + nI 1 := by
      rw [pk_un (by omega)]; unfold sk5; rw [pk_us]; unfold sk4; rw [pk_un (by omega)]; unfold sk3; rw [pk_un (by omega)]
    rw [a0, a1, a2]
  · rw [pk_un h2]; unfold sk5; rw [pk_un (by omega)]; unfold sk4; rw [pk_un (by omega)]; unfold sk3; rw [pk_un (by omega)]
end Wr
theorem tX2_addDrum {l : Launch} {κ : KP} {M : Mem} {ad : Nat → Nat} {c : Nat} {g : Nat → Int32} {dn n : Nat} {π : Nat → Nat} (hA : aInj ad) (hc : c + 31 ≤ 256) (hL : LabAt M ad c g dn n π) (hI : BI g dn n) (hd : dn < 6) {p : Int32} : fM l κ mX2_addDrum [.ref (ad c), .int (p)] M (wPost ad c M (some (.int (nI dn))) (pDrum g dn p) (dn + 1) n π) := by
  refine fM_of rfl (by decide +kernel) (Nat.le_of_ble_eq_true rfl) ?_
  obtain ⟨fD, hfD, hvD⟩ := hL.drs
  obtain ⟨fS, hfS, hvS⟩ := hL.sps
  obtain ⟨fN, hfN, hvN⟩ := hL.nds
  obtain ⟨fG, hfG, hvG⟩ := hL.dgs
  obtain ⟨fT, hfT, hvT⟩ := hL.sts
  have hdn := hL.dl
  have hn := hL.nl
  show fR l κ mX2_addDrum 0 [(0, .ref (ad c)), (1, .int (p))] [] M 0 0 _
  refine r_aload_n dX2_addDrum_0 rfl ?_
  refine r_get (k := 5) dX2_addDrum_1 hL.lab rfl rfl (by decide) kX2_57F ?_
  refine r_istore_n (lv' := [(2, .int (nI (dn))), (0, .ref (ad c)), (1, .int (p))]) dX2_addDrum_4 (by decide) rfl ?_
  refine r_aload_n dX2_addDrum_5 rfl ?_
  refine r_get (k := 0) dX2_addDrum_6 hL.lab rfl rfl (by decide) kX2_11F ?_
  refine r_iload_n dX2_addDrum_9 rfl ?_
  refine r_aldqN dX2_addDrum_10 hfD rfl (by omega) (by decide) (hvD _ (by omega)) ?_
  refine r_iload_n dX2_addDrum_11 rfl ?_
  obtain ⟨y0, y1, y2, hy⟩ := hL.dra dn hd
  have hL1 := W_fill hA hc hL hI hd (p := p)
  refine r_callV (As := [.int (p)]) dX2_addDrum_12 (tX0_fill hy) rfl hy rfl rfl oX0_fill rfl kX2_85M nX0_fill eX0_fill (by unfold fRoom; decide) (Nat.le_of_ble_eq_true rfl) rfl (bc' := 0) (bs' := 0) rfl rfl ?_
  show fR _ _ _ 15 _ _ _ _ _ _
  refine r_aload_n dX2_addDrum_15 rfl ?_
  refine r_dup dX2_addDrum_16 rfl ?_
  refine r_get (k := 5) dX2_addDrum_17 hL1.lab rfl rfl (by decide) kX2_57F ?_
  refine r_iconst (v := nI 1) dX2_addDrum_20 (by decide) ?_
  refine r_iaddN dX2_addDrum_21 ?_
  refine r_put (k := 5) (fs' := [.ref (ad (c + 1)), .ref (ad (c + 2)), .ref (ad (c + 3)), .ref (ad (c + 4)), .ref (ad (c + 5)), .int (nI ((dn + 1))), .int (nI (n)), .int ((upd (upd (upd g (10 + 3 * dn + 0) p) (10 + 3 * dn + 1) (nI 0)) (10 + 3 * dn + 2) (-1)) 3), .int ((upd (upd (upd g (10 + 3 * dn + 0) p) (10 + 3 * dn + 1) (nI 0)) (10 + 3 * dn + 2) (-1)) 4), .int ((upd (upd (upd g (10 + 3 * dn + 0) p) (10 + 3 * dn + 1) (nI 0)) (10 + 3 * dn + 2) (-1)) 8), .int ((upd (upd (upd g (10 + 3 * dn + 0) p) (10 + 3 * dn + 1) (nI 0)) (10 + 3 * dn + 2) (-1)) 9)]) dX2_addDrum_22 hL1.lab rfl (by decide) kX2_57F rfl rfl rfl (Nat.le_of_ble_eq_true rfl) rfl ?_
  refine r_iload_n dX2_addDrum_25 rfl ?_
  exact fR_iret dX2_addDrum_26 rfl ⟨rfl, W_drum hA hc hL1 rfl hI hd, Off.trans (Off.upE (t := 6 + dn) (by omega) (by omega)) (Off.up0 (by omega))⟩
theorem lX2_age {l : Launch} {κ : KP} {M : Mem} {ad : Nat → Nat} {c : Nat} {g : Nat → Int32} {dn n : Nat} {π : Nat → Nat} (hA : aInj ad) (hc : c + 31 ≤ 256) (hI : BI g dn n) {x : Nat} (hx : x ≤ 99) : ∀ (N d : Nat) (M1 : Mem), dn < N + d → d ≤ dn → LabAt M1 ad c (pAgeG g (nI x) d) dn n π → Off ad c 31 M M1 → fR l κ mX2_ageDrums 4 [(3, .int (nI (d))), (2, .int (pAgeM g (nI x) d)), (0, .ref (ad c)), (1, .int (nI (x)))] [] M1 0 0 (wPost ad c M (some (.int (pAgeM g (nI x) dn))) (pAgeG g (nI x) dn) dn n π) := by
  intro N
  induction N with
  | zero => intro d M1 h1 h2; omega
  | succ N ih =>
    intro d M1 h1 h2 hL hO
    obtain ⟨fD, hfD, hvD⟩ := hL.drs
    obtain ⟨fS, hfS, hvS⟩ := hL.sps
    obtain ⟨fN, hfN, hvN⟩ := hL.nds
    obtain ⟨fG, hfG, hvG⟩ := hL.dgs
    obtain ⟨fT, hfT, hvT⟩ := hL.sts
    have hdn := hL.dl
    have hn := hL.nl
    refine r_iload_n dX2_ageDrums_4 rfl ?_
    refine r_aload_n dX2_ageDrums_5 rfl ?_
    refine r_get (k := 5) dX2_ageDrums_6 hL.lab rfl rfl (by decide) kX2_57F ?_
    refine r_icmp_geN (tgt := 58) dX2_ageDrums_9 (by decide) (by omega) (by omega) (fun c1 => ?_) (fun c1 => ?_)
    · skip
      have e : d = dn := by omega
      subst e
      refine r_iload_n dX2_ageDrums_58 rfl ?_
      exact fR_iret dX2_ageDrums_59 rfl ⟨rfl, hL, hO⟩
    · skip
      refine r_aload_n dX2_ageDrums_12 rfl ?_
      refine r_get (k := 0) dX2_ageDrums_13 hL.lab rfl rfl (by decide) kX2_11F ?_
      refine r_iload_n dX2_ageDrums_16 rfl ?_
      refine r_aldqN dX2_ageDrums_17 hfD rfl (by omega) (by decide) (hvD _ (by omega)) ?_
      refine r_sipush (v := nI 999) dX2_ageDrums_18 (by decide) ?_
      refine r_aload_n dX2_ageDrums_21 rfl ?_
      refine r_get (k := 0) dX2_ageDrums_22 hL.lab rfl rfl (by decide) kX2_11F ?_
      refine r_iload_n dX2_ageDrums_25 rfl ?_
      refine r_aldqN dX2_ageDrums_26 hfD rfl (by omega) (by decide) (hvD _ (by omega)) ?_
      refine r_get (k := 1) dX2_ageDrums_27 (hL.dr _ (by omega)) rfl rfl (by decide) kX2_89F ?_
      refine r_iload_n dX2_ageDrums_30 rfl ?_
      refine r_iadd dX2_ageDrums_31 ?_
      refine r_mmin dX2_ageDrums_32 kX2_92M kJ_minS kJ_math kJ_minC (Nat.le_of_ble_eq_true rfl) (Nat.le_of_ble_eq_true rfl) ?_
      refine r_top (y := ((if nI 999 < pAgeG g (nI x) d (10 + 3 * d + 1) + nI x then nI 999 else pAgeG g (nI x) d (10 + 3 * d + 1) + nI x))) mn999 ?_
      refine r_put (k := 1) (fs' := [.int ((pAgeG g (nI x) d) (10 + 3 * (d) + 0)), .int ((if nI 999 < pAgeG g (nI x) d (10 + 3 * d + 1) + nI x then nI 999 else pAgeG g (nI x) d (10 + 3 * d + 1) + nI x)), .int ((pAgeG g (nI x) d) (10 + 3 * (d) + 2))]) dX2_ageDrums_35 (hL.dr _ (by omega)) rfl (by decide) kX2_89F rfl rfl rfl (Nat.le_of_ble_eq_true rfl) rfl ?_
      have hL2 := W_age hA hc (x := nI x) (show d < dn by omega) hL (hI.ageK hx d (by omega))
      obtain ⟨fD2, hfD2, hvD2⟩ := hL2.drs
      refine r_iload_n dX2_ageDrums_38 rfl ?_
      refine r_aload_n dX2_ageDrums_39 rfl ?_
      refine r_get (k := 0) dX2_ageDrums_40 hL2.lab rfl rfl (by decide) kX2_11F ?_
      refine r_iload_n dX2_ageDrums_43 rfl ?_
      refine r_aldqN dX2_ageDrums_44 hfD2 rfl (by omega) (by decide) (hvD2 _ (by omega)) ?_
      refine r_get (k := 1) dX2_ageDrums_45 (hL2.dr _ (by omega)) rfl rfl (by decide) kX2_89F ?_
      refine r_mmax dX2_ageDrums_48 kX2_98M kJ_maxS kJ_math kJ_maxC (Nat.le_of_ble_eq_true rfl) (Nat.le_of_ble_eq_true rfl) ?_
      refine r_top (y := (pAgeM g (nI x) (d + 1))) rfl ?_
      refine r_istore_n (lv' := [(2, .int (pAgeM g (nI x) (d + 1))), (3, .int (nI (d))), (0, .ref (ad c)), (1, .int (nI (x)))]) dX2_ageDrums_51 (by decide) rfl ?_
      refine r_iinc (v := (nI (d + 1))) (lv' := [(3, .int (nI (d + 1))), (2, .int (pAgeM g (nI x) (d + 1))), (0, .ref (ad c)), (1, .int (nI (x)))]) dX2_ageDrums_52 rfl (nI_inc _) (by decide) rfl ?_
      refine r_goto (tgt := 4) dX2_ageDrums_55 (by decide) ?_
      refine r_lv (lv' := [(3, .int (nI (d + 1))), (2, .int (pAgeM g (nI x) (d + 1))), (0, .ref (ad c)), (1, .int (nI (x)))]) (by simp) ?_
      exact ih (d + 1) _ (by omega) (by omega) hL2 (hO.trans (Off.upE (t := 6 + d) (by omega) (by omega)))
theorem tX2_age {l : Launch} {κ : KP} {M : Mem} {ad : Nat → Nat} {c : Nat} {g : Nat → Int32} {dn n : Nat} {π : Nat → Nat} (hA : aInj ad) (hc : c + 31 ≤ 256) (hL : LabAt M ad c g dn n π) (hI : BI g dn n) {x : Nat} (hx : x ≤ 99) : fM l κ mX2_ageDrums [.ref (ad c), .int (nI (x))] M (wPost ad c M (some (.int (pAgeM g (nI x) dn))) (pAgeG g (nI x) dn) dn n π) := by
  refine fM_of rfl (by decide +kernel) (Nat.le_of_ble_eq_true rfl) ?_
  obtain ⟨fD, hfD, hvD⟩ := hL.drs
  obtain ⟨fS, hfS, hvS⟩ := hL.sps
  obtain ⟨fN, hfN, hvN⟩ := hL.nds
  obtain ⟨fG, hfG, hvG⟩ := hL.dgs
  obtain ⟨fT, hfT, hvT⟩ := hL.sts
  have hdn := hL.dl
  have hn := hL.nl
  show fR l κ mX2_ageDrums 0 [(0, .ref (ad c)), (1, .int (nI (x)))] [] M 0 0 _
  refine r_iconst (v := (-1)) dX2_ageDrums_0 (by decide) ?_
  refine r_istore_n (lv' := [(2, .int (-1)), (0, .ref (ad c)), (1, .int (nI (x)))]) dX2_ageDrums_1 (by decide) rfl ?_
  refine r_iconst (v := nI 0) dX2_ageDrums_2 (by decide) ?_
  refine r_istore_n (lv' := [(3, .int (nI (0))), (2, .int (-1)), (0, .ref (ad c)), (1, .int (nI (x)))]) dX2_ageDrums_3 (by decide) rfl ?_
  exact lX2_age hA hc hI hx (dn + 1) 0 M (by omega) (by omega) hL Off.refl
theorem tX2_take {l : Launch} {κ : KP} {M : Mem} {ad : Nat → Nat} {c : Nat} {g : Nat → Int32} {dn n : Nat} {π : Nat → Nat} (hA : aInj ad) (hc : c + 31 ≤ 256) (hL : LabAt M ad c g dn n π) (hI : BI g dn n) (hn8 : n < 8) {d : Nat} (hd : d < dn) : fM l κ mX2_take [.ref (ad c), .int (nI (d))] M (wPost ad c M (some (.int (nI n))) (pTake g n d) dn (n + 1) π) := by
  refine fM_of rfl (by decide +kernel) (Nat.le_of_ble_eq_true rfl) ?_
  obtain ⟨fD, hfD, hvD⟩ := hL.drs
  obtain ⟨fS, hfS, hvS⟩ := hL.sps
  obtain ⟨fN, hfN, hvN⟩ := hL.nds
  obtain ⟨fG, hfG, hvG⟩ := hL.dgs
  obtain ⟨fT, hfT, hvT⟩ := hL.sts
  have hdn := hL.dl
  have hn := hL.nl
  show fR l κ mX2_take 0 [(0, .ref (ad c)), (1, .int (nI (d)))] [] M 0 0 _
  refine r_aload_n dX2_take_0 rfl ?_
  refine r_get (k := 6) dX2_take_1 hL.lab rfl rfl (by decide) kX2_64F ?_
  refine r_istore_n (lv' := [(2, .int (nI (n))), (0, .ref (ad c)), (1, .int (nI (d)))]) dX2_take_4 (by decide) rfl ?_
  refine r_aload_n dX2_take_5 rfl ?_
  refine r_get (k := 1) dX2_take_6 hL.lab rfl rfl (by decide) kX2_19F ?_
  refine r_iload_n dX2_take_9 rfl ?_
  refine r_aldqN dX2_take_10 hfS rfl (by omega) (by decide) (hvS _ (by omega)) ?_
  refine r_iload_n dX2_take_11 rfl ?_
  refine r_aload_n dX2_take_12 rfl ?_
  refine r_get (k := 0) dX2_take_13 hL.lab rfl rfl (by decide) kX2_11F ?_
  refine r_iload_n dX2_take_16 rfl ?_
  refine r_aldqN dX2_take_17 hfD rfl (by omega) (by decide) (hvD _ (by omega)) ?_
  obtain ⟨⟨s, hs1, hs2, es⟩, ⟨y, hy, ey⟩, -⟩ := hI.dr d hd
  have hh := pHard_N hs1 hs2 hy es ey
  refine r_callV (As := []) dX2_take_18 (tX0_hardness (s := s) (y := y) (z := g (10 + 3 * d + 2)) (by omega) (by omega) (by omega) (by rw [← es, ← ey]; exact hL.dr d hd)) rfl (hL.dr _ (by omega)) rfl rfl oX0_hardness rfl kX2_105M nX0_hardness eX0_hardness (by unfold fRoom; decide) (Nat.le_of_ble_eq_true rfl) rfl (bc' := 0) (bs' := 0) rfl rfl ?_
  show fR _ _ _ 21 _ (.int (nI ((1000 / s + y / 10))) :: _) _ _ _ _
  obtain ⟨y0, y1, y2, y3, y4, y5, yf, hq, hqf⟩ := hL.spa (π n) (hL.pl n hn8)
  have hL1 := W_begin hA hc hL hI hn8 hh.symm
  refine r_callV (As := [.int (nI (d)), .int (nI ((1000 / s + y / 10)))]) dX2_take_21 (tX6_begin hq) rfl hq rfl rfl oX6_begin rfl kX2_109M nX6_begin eX6_begin (by unfold fRoom; decide) (Nat.le_of_ble_eq_true rfl) rfl (bc' := 0) (bs' := 0) rfl rfl ?_
  show fR _ _ _ 24 _ _ _ _ _ _
  refine r_aload_n dX2_take_24 rfl ?_
  refine r_dup dX2_take_25 rfl ?_
  refine r_get (k := 6) dX2_take_26 hL1.lab rfl rfl (by decide) kX2_64F ?_
  refine r_iconst (v := nI 1) dX2_take_29 (by decide) ?_
  refine r_iaddN dX2_take_30 ?_
  refine r_put (k := 6) (fs' := [.ref (ad (c + 1)), .ref (ad (c + 2)), .ref (ad (c + 3)), .ref (ad (c + 4)), .ref (ad (c + 5)), .int (nI (dn)), .int (nI ((n + 1))), .int ((tk6 g n d) 3), .int ((tk6 g n d) 4), .int ((tk6 g n d) 8), .int ((tk6 g n d) 9)]) dX2_take_31 hL1.lab rfl (by decide) kX2_64F rfl rfl rfl (Nat.le_of_ble_eq_true rfl) rfl ?_
  refine r_iload_n dX2_take_34 rfl ?_
  have hp := hL.pl n hn8
  exact fR_iret dX2_take_35 rfl ⟨rfl, W_take hA hc hh.symm hL hL1 rfl hI hd hn8, Off.trans (Off.upE (t := 12 + π n) (by omega) (by omega)) (Off.up0 (by omega))⟩
theorem tX2_lay {l : Launch} {κ : KP} {M : Mem} {ad : Nat → Nat} {c : Nat} {g : Nat → Int32} {dn n : Nat} {π : Nat → Nat} (hA : aInj ad) (hc : c + 31 ≤ 256) (hL : LabAt M ad c g dn n π) (hI : BI g dn n) {k : Nat} (hk : k < n) {b : Int32} : fM l κ mX2_lay [.ref (ad c), .int (nI (k)), .int (b)] M (wPost ad c M (some (.int (pOf g k 3))) (upd g (40 + 42 * k + 3) b) dn n π) := by
  refine fM_of rfl (by decide +kernel) (Nat.le_of_ble_eq_true rfl) ?_
  obtain ⟨fD, hfD, hvD⟩ := hL.drs
  obtain ⟨fS, hfS, hvS⟩ := hL.sps
  obtain ⟨fN, hfN, hvN⟩ := hL.nds
  obtain ⟨fG, hfG, hvG⟩ := hL.dgs
  obtain ⟨fT, hfT, hvT⟩ := hL.sts
  have hdn := hL.dl
  have hn := hL.nl
  show fR l κ mX2_lay 0 [(0, .ref (ad c)), (1, .int (nI (k))), (2, .int (b))] [] M 0 0 _
  refine r_aload_n dX2_lay_0 rfl ?_
  refine r_get (k := 1) dX2_lay_1 hL.lab rfl rfl (by decide) kX2_19F ?_
  refine r_iload_n dX2_lay_4 rfl ?_
  refine r_aldqN dX2_lay_5 hfS rfl (by omega) (by decide) (hvS _ (by omega)) ?_
  refine r_get (k := 3) dX2_lay_6 (hL.sp _ (by omega)).1 rfl rfl (by decide) kX2_116F ?_
  refine r_istore_n (lv' := [(3, .int (pOf g (k) 3)), (0, .ref (ad c)), (1, .int (nI (k))), (2, .int (b))]) dX2_lay_9 (by decide) rfl ?_
  refine r_aload_n dX2_lay_10 rfl ?_
  refine r_get (k := 1) dX2_lay_11 hL.lab rfl rfl (by decide) kX2_19F ?_
  refine r_iload_n dX2_lay_14 rfl ?_
  refine r_aldqN dX2_lay_15 hfS rfl (by omega) (by decide) (hvS _ (by omega)) ?_
  refine r_iload_n dX2_lay_16 rfl ?_
  refine r_put (k := 3) (fs' := [.int (pOf g (k) 0), .int (pOf g (k) 1), .int (pOf g (k) 2), .int (b), .int (pOf g (k) 4), .int (pOf g (k) 5), .ref (ad (c + 20 + π (k)))]) dX2_lay_17 (hL.sp _ (by omega)).1 rfl (by decide) kX2_116F rfl rfl rfl (Nat.le_of_ble_eq_true rfl) rfl ?_
  refine r_iload_n dX2_lay_20 rfl ?_
  have hp := hL.pl k (by omega)
  exact fR_iret dX2_lay_21 rfl ⟨rfl, W_bath hA hc hL hI hk, (Off.upE (t := 12 + π k) (by omega) (by omega))⟩
theorem lX2_pass1 {l : Launch} {κ : KP} {M : Mem} {ad : Nat → Nat} {c : Nat} {g : Nat → Int32} {dn n : Nat} {π : Nat → Nat} (hA : aInj ad) (hc : c + 31 ≤ 256) (hI : BI g dn n) {q : Nat} (hq : q ≤ 99) {j : Nat} (hj : j < q) (kk : ∀ M1 : Mem, LabAt M1 ad c (pPass g n (j + 1)) dn n π → Off ad c 31 M M1 → fR l κ mX2_passMinutes 2 [(2, .int (nI (j + 1))), (0, .ref (ad c)), (1, .int (nI (q)))] [] M1 0 0 (wPost ad c M none (pPassT g n q) dn n π)) : ∀ (N k : Nat) (M1 : Mem), n < N + k → k ≤ n → LabAt M1 ad c (pStep (pPass g n j) k) dn n π → Off ad c 31 M M1 → fR l κ mX2_passMinutes 9 [(3, .int (nI (k))), (2, .int (nI (j))), (0, .ref (ad c)), (1, .int (nI (q)))] [] M1 0 0 (wPost ad c M none (pPassT g n q) dn n π) := by
  intro N
  induction N with
  | zero => intro k M1 h1 h2; omega
  | succ N ih =>
    intro k M1 h1 h2 hL hO
    have hJ := (hI.passK j).stepK k h2
    obtain ⟨fD, hfD, hvD⟩ := hL.drs
    obtain ⟨fS, hfS, hvS⟩ := hL.sps
    obtain ⟨fN, hfN, hvN⟩ := hL.nds
    obtain ⟨fG, hfG, hvG⟩ := hL.dgs
    obtain ⟨fT, hfT, hvT⟩ := hL.sts
    have hdn := hL.dl
    have hn := hL.nl
    refine r_iload_n dX2_passMinutes_9 rfl ?_
    refine r_aload_n dX2_passMinutes_10 rfl ?_
    refine r_get (k := 6) dX2_passMinutes_11 hL.lab rfl rfl (by decide) kX2_64F ?_
    refine r_icmp_geN (tgt := 53) dX2_passMinutes_14 (by decide) (by omega) (by omega) (fun c1 => ?_) (fun c1 => ?_)
    · skip
      have e : k = n := by omega
      subst e
      refine r_iinc (v := (nI (j + 1))) (lv' := [(2, .int (nI (j + 1))), (3, .int (nI (k))), (0, .ref (ad c)), (1, .int (nI (q)))]) dX2_passMinutes_53 rfl (nI_inc _) (by decide) rfl ?_
      refine r_goto (tgt := 2) dX2_passMinutes_56 (by decide) ?_
      refine r_lv (lv' := [(2, .int (nI (j + 1))), (0, .ref (ad c)), (1, .int (nI (q)))]) (by simp) ?_
      exact kk M1 hL hO
    · skip
      refine r_aload_n dX2_passMinutes_17 rfl ?_
      refine r_get (k := 1) dX2_passMinutes_18 hL.lab rfl rfl (by decide) kX2_19F ?_
      refine r_iload_n dX2_passMinutes_21 rfl ?_
      refine r_aldqN dX2_passMinutes_22 hfS rfl (by omega) (by decide) (hvS _ (by omega)) ?_
      refine r_astore (lv' := [(4, .ref (ad (c + 12 + π (k)))), (3, .int (nI (k))), (2, .int (nI (j))), (0, .ref (ad c)), (1, .int (nI (q)))]) dX2_passMinutes_23 (by decide) rfl ?_
      refine r_aload dX2_passMinutes_25 rfl ?_
      refine r_aload dX2_passMinutes_27 rfl ?_
      refine r_get (k := 2) dX2_passMinutes_29 (hL.sp _ (by omega)).1 rfl rfl (by decide) kX2_130F ?_
      refine r_aload_n dX2_passMinutes_32 rfl ?_
      refine r_aload dX2_passMinutes_33 rfl ?_
      refine r_get (k := 3) dX2_passMinutes_35 (hL.sp _ (by omega)).1 rfl rfl (by decide) kX2_116F ?_
      refine r_callV (As := [.int (pOf (pStep (pPass g n j) k) (k) 3)]) dX2_passMinutes_38 (tX2_around hL hJ (by omega)) rfl hL.lab rfl rfl oX2_degreeAround rfl kX2_133M nX2_degreeAround eX2_degreeAround (by unfold fRoom; decide) (Nat.le_of_ble_eq_true rfl) rfl (bc' := 0) (bs' := 0) rfl rfl ?_
      show fR _ _ _ 41 _ (.int (pAround (pStep (pPass g n j) k) (k)) :: _) _ _ _ _
      refine r_callSN (As := [.int (pOf (pStep (pPass g n j) k) (k) 2), .int (pAround (pStep (pPass g n j) k) (k))]) dX2_passMinutes_41 tX8_degreeNext rfl oX8_degreeNext rfl kX2_136M sX8_degreeNext (by unfold fRoom; decide) (Nat.le_of_ble_eq_true rfl) (bc' := 0) (bs' := 0) rfl rfl ?_
      show fR _ _ _ 44 _ (.int (pWarm (pOf (pStep (pPass g n j) k) (k) 2) (pAround (pStep (pPass g n j) k) (k))) :: _) _ _ _ _
      refine r_put (k := 2) (fs' := [.int (pOf (pStep (pPass g n j) k) (k) 0), .int (pOf (pStep (pPass g n j) k) (k) 1), .int (pWarm (pOf (pStep (pPass g n j) k) (k) 2) (pAround (pStep (pPass g n j) k) (k))), .int (pOf (pStep (pPass g n j) k) (k) 3), .int (pOf (pStep (pPass g n j) k) (k) 4), .int (pOf (pStep (pPass g n j) k) (k) 5), .ref (ad (c + 20 + π (k)))]) dX2_passMinutes_44 (hL.sp _ (by omega)).1 rfl (by decide) kX2_130F rfl rfl rfl (Nat.le_of_ble_eq_true rfl) rfl ?_
      have hL2 : LabAt _ ad c (pStep (pPass g n j) (k + 1)) dn n π := W_warm hA hc hL hJ (show k < n by omega)
      refine r_iinc (v := (nI (k + 1))) (lv' := [(3, .int (nI (k + 1))), (4, .ref (ad (c + 12 + π (k)))), (2, .int (nI (j))), (0, .ref (ad c)), (1, .int (nI (q)))]) dX2_passMinutes_47 rfl (nI_inc _) (by decide) rfl ?_
      refine r_goto (tgt := 9) dX2_passMinutes_50 (by decide) ?_
      refine r_lv (lv' := [(3, .int (nI (k + 1))), (2, .int (nI (j))), (0, .ref (ad c)), (1, .int (nI (q)))]) (by simp) ?_
      have hp := hL.pl k (by omega)
      exact ih (k + 1) _ (by omega) (by omega) hL2 (hO.trans (Off.upE (t := 12 + π k) (by omega) (by omega)))
theorem lX2_pass {l : Launch} {κ : KP} {M : Mem} {ad : Nat → Nat} {c : Nat} {g : Nat → Int32} {dn n : Nat} {π : Nat → Nat} (hA : aInj ad) (hc : c + 31 ≤ 256) (hI : BI g dn n) {q : Nat} (hq : q ≤ 99) : ∀ (N j : Nat) (M1 : Mem), q < N + j → j ≤ q → LabAt M1 ad c (pPass g n j) dn n π → Off ad c 31 M M1 → fR l κ mX2_passMinutes 2 [(2, .int (nI (j))), (0, .ref (ad c)), (1, .int (nI (q)))] [] M1 0 0 (wPost ad c M none (pPassT g n q) dn n π) := by
  intro N
  induction N with
  | zero => intro j M1 h1 h2; omega
  | succ N ih =>
    intro j M1 h1 h2 hL hO
    obtain ⟨fD, hfD, hvD⟩ := hL.drs
    obtain ⟨fS, hfS, hvS⟩ := hL.sps
    obtain ⟨fN, hfN, hvN⟩ := hL.nds
    obtain ⟨fG, hfG, hvG⟩ := hL.dgs
    obtain ⟨fT, hfT, hvT⟩ := hL.sts
    have hdn := hL.dl
    have hn := hL.nl
    refine r_iload_n dX2_passMinutes_2 rfl ?_
    refine r_iload_n dX2_passMinutes_3 rfl ?_
    refine r_icmp_geN (tgt := 59) dX2_passMinutes_4 (by decide) (by omega) (by omega) (fun c1 => ?_) (fun c1 => ?_)
    · skip
      have e : j = q := by omega
      subst e
      refine r_aload_n dX2_passMinutes_59 rfl ?_
      refine r_dup dX2_passMinutes_60 rfl ?_
      refine r_get (k := 7) dX2_passMinutes_61 hL.lab rfl rfl (by decide) kX2_79F ?_
      refine r_iload_n dX2_passMinutes_64 rfl ?_
      refine r_iadd dX2_passMinutes_65 ?_
      refine r_put (k := 7) (fs' := [.ref (ad (c + 1)), .ref (ad (c + 2)), .ref (ad (c + 3)), .ref (ad (c + 4)), .ref (ad (c + 5)), .int (nI (dn)), .int (nI (n)), .int ((((pPass g n j) 3) + (nI (j)))), .int ((pPass g n j) 4), .int ((pPass g n j) 8), .int ((pPass g n j) 9)]) dX2_passMinutes_66 hL.lab rfl (by decide) kX2_79F rfl rfl rfl (Nat.le_of_ble_eq_true rfl) rfl ?_
      exact fR_vret dX2_passMinutes_69 rfl ⟨rfl, W_num hA hc hL (hI.passK j) pk_us (pk_un (by omega)) (pk_un (by omega)) (pk_un (by omega)) (fun j _ hj => pk_un (by omega)), hO.trans (Off.up0 (by omega))⟩
    · skip
      refine r_iconst (v := nI 0) dX2_passMinutes_7 (by decide) ?_
      refine r_istore_n (lv' := [(3, .int (nI (0))), (2, .int (nI (j))), (0, .ref (ad c)), (1, .int (nI (q)))]) dX2_passMinutes_8 (by decide) rfl ?_
      refine r_lv (lv' := [(3, .int (nI (0))), (2, .int (nI (j))), (0, .ref (ad c)), (1, .int (nI (q)))]) (by simp) ?_
      exact lX2_pass1 hA hc hI hq (by omega) (fun M1 hL hO => ih (j + 1) M1 (by omega) (by omega) hL hO) (n + 1) 0 M1 (by omega) (by omega) hL hO
theorem tX2_pass {l : Launch} {κ : KP} {M : Mem} {ad : Nat → Nat} {c : Nat} {g : Nat → Int32} {dn n : Nat} {π : Nat → Nat} (hA : aInj ad) (hc : c + 31 ≤ 256) (hL : LabAt M ad c g dn n π) (hI : BI g dn n) {q : Nat} (hq : q ≤ 99) : fM l κ mX2_passMinutes [.ref (ad c), .int (nI (q))] M (wPost ad c M none (pPassT g n q) dn n π) := by
  refine fM_of rfl (by decide +kernel) (Nat.le_of_ble_eq_true rfl) ?_
  obtain ⟨fD, hfD, hvD⟩ := hL.drs
  obtain ⟨fS, hfS, hvS⟩ := hL.sps
  obtain ⟨fN, hfN, hvN⟩ := hL.nds
  obtain ⟨fG, hfG, hvG⟩ := hL.dgs
  obtain ⟨fT, hfT, hvT⟩ := hL.sts
  have hdn := hL.dl
  have hn := hL.nl
  show fR l κ mX2_passMinutes 0 [(0, .ref (ad c)), (1, .int (nI (q)))] [] M 0 0 _
  refine r_iconst (v := nI 0) dX2_passMinutes_0 (by decide) ?_
  refine r_istore_n (lv' := [(2, .int (nI (0))), (0, .ref (ad c)), (1, .int (nI (q)))]) dX2_passMinutes_1 (by decide) rfl ?_
  exact lX2_pass hA hc hI hq (q + 1) 0 M (by omega) (by omega) hL Off.refl
theorem tX2_read {l : Launch} {κ : KP} {M : Mem} {ad : Nat → Nat} {c : Nat} {g : Nat → Int32} {dn n : Nat} {π : Nat → Nat} (hA : aInj ad) (hc : c + 31 ≤ 256) (hL : LabAt M ad c g dn n π) (hI : BI g dn n) {nd k w s : Nat} (hnd : nd < 3) (hk : k < n) (h9 : pMany g k < 9) (hw : w ≤ 200) (hs : s ≤ 60) : fM l κ mX2_read [.ref (ad c), .int (nI (nd)), .int (nI (k)), .int (nI (w)), .int (nI (s))] M (wPost ad c M (some (.int (pDep g nd k (nI w) (nI s)))) (pSink g nd k (nI w) (nI s)) dn n π) := by
  refine fM_of rfl (by decide +kernel) (Nat.le_of_ble_eq_true rfl) ?_
  obtain ⟨fD, hfD, hvD⟩ := hL.drs
  obtain ⟨fS, hfS, hvS⟩ := hL.sps
  obtain ⟨fN, hfN, hvN⟩ := hL.nds
  obtain ⟨fG, hfG, hvG⟩ := hL.dgs
  obtain ⟨fT, hfT, hvT⟩ := hL.sts
  have hdn := hL.dl
  have hn := hL.nl
  show fR l κ mX2_read 0 [(0, .ref (ad c)), (1, .int (nI (nd))), (2, .int (nI (k))), (3, .int (nI (w))), (4, .int (nI (s)))] [] M 0 0 _
  refine r_aload_n dX2_read_0 rfl ?_
  refine r_iload_n dX2_read_1 rfl ?_
  refine r_iload_n dX2_read_2 rfl ?_
  refine r_iload_n dX2_read_3 rfl ?_
  refine r_iload dX2_read_4 rfl ?_
  refine r_callV (As := [.int (nI (nd)), .int (nI (k)), .int (nI (w)), .int (nI (s))]) dX2_read_6 (tX2_depth hL hI hnd hk hw hs) rfl hL.lab rfl rfl oX2_depth rfl kX2_153M nX2_depth eX2_depth (by unfold fRoom; decide) (Nat.le_of_ble_eq_true rfl) rfl (bc' := 0) (bs' := 0) rfl rfl ?_
  show fR _ _ _ 9 _ (.int (pDep g nd k (nI w) (nI s)) :: _) _ _ _ _
  refine r_istore (lv' := [(5, .int (pDep g nd k (nI w) (nI s))), (0, .ref (ad c)), (1, .int (nI (nd))), (2, .int (nI (k))), (3, .int (nI (w))), (4, .int (nI (s)))]) dX2_read_9 (by decide) rfl ?_
  refine r_aload_n dX2_read_11 rfl ?_
  refine r_get (k := 1) dX2_read_12 hL.lab rfl rfl (by decide) kX2_19F ?_
  refine r_iload_n dX2_read_15 rfl ?_
  refine r_aldqN dX2_read_16 hfS rfl (by omega) (by decide) (hvS _ (by omega)) ?_
  refine r_iload_n dX2_read_17 rfl ?_
  refine r_iload dX2_read_18 rfl ?_
  refine r_iload_n dX2_read_20 rfl ?_
  refine r_iload dX2_read_21 rfl ?_
  obtain ⟨e1, f, e2, e3⟩ := hL.sp k hk
  rw [(hI.mM k hk).1] at e1
  have hp := hL.pl k (by omega)
  have hL1 := W_write (nd := nd) (w := nI w) (s := nI s) hA hc hL hI hk h9 e2 e3
  obtain ⟨fN1, hfN1, hvN1⟩ := hL1.nds
  refine r_callV (As := [.int (nI (nd)), .int (pDep g nd k (nI w) (nI s)), .int (nI (w)), .int (nI (s))]) dX2_read_23 (tX6_write (hA.ne (by omega) (by omega) (by omega)) h9 e1 e2) rfl e1 rfl rfl oX6_write rfl kX2_157M nX6_write eX6_write (by unfold fRoom; decide) (Nat.le_of_ble_eq_true rfl) rfl (bc' := 0) (bs' := 0) rfl rfl ?_
  show fR _ _ _ 26 _ _ _ _ _ _
  refine r_aload_n dX2_read_26 rfl ?_
  refine r_get (k := 2) dX2_read_27 hL1.lab rfl rfl (by decide) kX2_25F ?_
  refine r_iload_n dX2_read_30 rfl ?_
  refine r_aldqN dX2_read_31 hfN1 rfl (by omega) (by decide) (hvN1 _ (by omega)) ?_
  refine r_iload dX2_read_32 rfl ?_
  refine r_callV (As := [.int (pDep g nd k (nI w) (nI s))]) dX2_read_34 (tX3_wearBy (hL1.nd nd hnd)) rfl (hL1.nd _ (by omega)) rfl rfl oX3_wearBy rfl kX2_161M nX3_wearBy eX3_wearBy (by unfold fRoom; decide) (Nat.le_of_ble_eq_true rfl) rfl (bc' := 0) (bs' := 0) rfl rfl ?_
  show fR _ _ _ 37 _ _ _ _ _ _
  refine r_iload dX2_read_37 rfl ?_
  exact fR_iret dX2_read_39 rfl ⟨rfl, W_sink hA hc hL1 hI hk h9 hnd, Off.trans (Off.trans (Off.upE (t := 20 + π k) (by omega) (by omega)) (Off.upE (t := 12 + π k) (by omega) (by omega))) (Off.upE (t := 28 + nd) (by omega) (by omega))⟩
theorem tX7_close {l : Launch} {κ : KP} {M : Mem} {ad : Nat → Nat} {c : Nat} {g : Nat → Int32} {dn n : Nat} {π : Nat → Nat} (hA : aInj ad) (hc : c + 31 ≤ 256) (hL : LabAt M ad c g dn n π) (hI : BI g dn n) {d : Nat} (hd : d < dn) (hm : ¬ pMean g n d true = -1) : fM l κ mX7_close [.ref (ad c), .int (nI (d))] M (wPost ad c M (some (.int (pMean g n d true / nI 20))) (pSell g n d) dn n π) := by
  refine fM_of rfl (by decide +kernel) (Nat.le_of_ble_eq_true rfl) ?_
  obtain ⟨fD, hfD, hvD⟩ := hL.drs
  obtain ⟨fS, hfS, hvS⟩ := hL.sps
  obtain ⟨fN, hfN, hvN⟩ := hL.nds
  obtain ⟨fG, hfG, hvG⟩ := hL.dgs
  obtain ⟨fT, hfT, hvT⟩ := hL.sts
  have hdn := hL.dl
  have hn := hL.nl
  show fR l κ mX7_close 0 [(0, .ref (ad c)), (1, .int (nI (d)))] [] M 0 0 _
  refine r_aload_n dX7_close_0 rfl ?_
  refine r_iload_n dX7_close_1 rfl ?_
  refine r_callS (As := [.ref (ad c), .int (nI (d))]) dX7_close_2 (tX7_meanPen hL hI) rfl oX7_meanPenetration rfl kX7_91M sX7_meanPenetration (by unfold fRoom; decide) (Nat.le_of_ble_eq_true rfl) rfl (bc' := 0) (bs' := 0) rfl rfl ?_
  show fR _ _ _ 5 _ (.int (pMean g n d true) :: _) _ _ _ _
  refine r_bipush (v := nI 20) dX7_close_5 (by decide) ?_
  obtain ⟨y, hy, ey⟩ := pMean_d hI hm
  rw [if_pos rfl] at hy
  have hfd := tJ9_floorDiv (l := l) (κ := κ) (M := M) (x := pMean g n d true) (m := 20) (by omega) (by omega)
  rw [show pDiv (pMean g n d true) (nI 20) = pMean g n d true / nI 20 by rw [ey, pDiv_n (by omega) (by omega) (by omega), pk_div (by omega) (by omega) (by omega)]] at hfd
  refine r_callS (As := [.int (pMean g n d true), .int (nI (20))]) dX7_close_7 hfd rfl oJ9_floorDiv_7cf53 rfl kX7_48M sJ9_floorDiv_7cf53 (by unfold fRoom; decide) (Nat.le_of_ble_eq_true rfl) rfl (bc' := 0) (bs' := 0) rfl rfl ?_
  show fR _ _ _ 10 _ (.int ((pMean g n d true / nI 20)) :: _) _ _ _ _
  refine r_istore_n (lv' := [(2, .int ((pMean g n d true / nI 20))), (0, .ref (ad c)), (1, .int (nI (d)))]) dX7_close_10 (by decide) rfl ?_
  refine r_aload_n dX7_close_11 rfl ?_
  refine r_get (k := 0) dX7_close_12 hL.lab rfl rfl (by decide) kX7_76F ?_
  refine r_iload_n dX7_close_15 rfl ?_
  refine r_aldqN dX7_close_16 hfD rfl (by omega) (by decide) (hvD _ (by omega)) ?_
  refine r_iload_n dX7_close_17 rfl ?_
  refine r_put (k := 2) (fs' := [.int (g (10 + 3 * (d) + 0)), .int (g (10 + 3 * (d) + 1)), .int ((pMean g n d true / nI 20))]) dX7_close_18 (hL.dr _ (by omega)) rfl (by decide) kX7_80F rfl rfl rfl (Nat.le_of_ble_eq_true rfl) rfl ?_
  refine r_iload_n dX7_close_21 rfl ?_
  exact fR_iret dX7_close_22 rfl ⟨rfl, W_grade hA hc hL hI hd, (Off.upE (t := 6 + d) (by omega) (by omega))⟩
