/-! EVERY MOVE IS A GOOD ONE -/
theorem pWhyNot_many {f : Nat → Int32} {dn n i k : Nat} (hI : BI f dn n) (hk : k < n) (h : pWhyNot f i k = nI 0) : pMany f k < 9 := by
  have h9 := (hI.mM k hk).2
  rcases Nat.lt_or_ge (pMany f k) 9 with c | c
  · exact c
  · have e : pMany f k = 9 := by omega
    unfold pWhyNot at h
    rw [if_pos e] at h
    split at h
    · exact absurd h (by decide)
    · split at h
      · exact absurd h (by decide)
      · split at h <;> exact absurd h (by decide)
section Mv
variable {g : Nat → Int32} {dn n : Nat}
theorem age_lt {x : Int32} {j : Nat} (hj : j < 10 ∨ 28 ≤ j) : ∀ d, d ≤ 6 → pAgeG g x d j = g j
  | 0, _ => rfl
  | d + 1, h => by
    show upd (pAgeG g x d) _ _ j = g j
    rw [pk_un (by omega)]; exact age_lt hj d (by omega)
theorem step_ne {f : Nat → Int32} {j : Nat} : ∀ k, (∀ i, j ≠ 40 + 42 * i + 2) → pStep f k j = f j
  | 0, _ => rfl
  | k + 1, h => by
    show upd (pStep f k) _ _ j = f j
    rw [pk_un (h k)]; exact step_ne k h
theorem pass_ne {j : Nat} : ∀ i, (∀ i, j ≠ 40 + 42 * i + 2) → pPass g n i j = g j
  | 0, _ => rfl
  | i + 1, h => (step_ne n h).trans (pass_ne i h)
theorem mv_drum (hI : BI g dn n) (hX : XI g n) {p : Nat} (h1 : 20 ≤ p) (h2 : p ≤ 300) (h6 : dn < 6) : MvOK (mvDrum dn p) g dn n := by
  refine ⟨VOK.nI (by omega), fun g' e _ => ⟨rfl, (((e.s.up rfl).up rfl).up rfl).up rfl⟩, fun g' e j hj => ?_, dn + 1, n, hI.drum h6 (pIn_nI h1 h2 (by omega)), ?_⟩
  · show pDrum g' dn (nI p) j = g' j
    unfold pDrum; rw [upd_far (by omega) hj, upd_far (by omega) hj, upd_far (by omega) hj, upd_far (by omega) hj]
  · show XI (pDrum g dn (nI p)) n
    have lo : ∀ j, j ≠ 0 → (j < 10 ∨ 28 ≤ j) → pDrum g dn (nI p) j = g j := fun j a b => by
      unfold pDrum; rw [pk_un a, pk_un (by omega), pk_un (by omega), pk_un (by omega)]
    exact hX.keep (lo 8 (by omega) (by omega)) (lo 9 (by omega) (by omega)) rfl (fun k hk => lo _ (by omega) (by omega))
theorem mv_age (hI : BI g dn n) (hX : XI g n) {p : Nat} (h2 : p ≤ 99) : MvOK (mvAge dn p) g dn n := by
  have h6 := hI.dle
  refine ⟨?_, fun g' e _ => ⟨e.ageM dn (Nat.le_refl _), e.ageG dn (Nat.le_refl _)⟩, fun g' e j hj => ageG_far hj dn h6, dn, n, hI.age h2, ?_⟩
  · show VOK (pAgeM g (nI p) dn)
    rcases ageM_nI hI h2 dn (Nat.le_refl _) with h | ⟨a, ha, h⟩
    · rw [h]; exact VOK.m1
    · rw [h]; exact VOK.nI (by omega)
  · show XI (pAgeG g (nI p) dn) n
    have lo : ∀ j, (j < 10 ∨ 28 ≤ j) → pAgeG g (nI p) dn j = g j := fun j hj => age_lt hj dn h6
    exact hX.keep (lo 8 (by omega)) (lo 9 (by omega)) rfl (fun k hk => lo _ (by omega))
theorem mv_sample (hI : BI g dn n) (hX : XI g n) {d : Nat} (hd : d < dn) (h8 : n < 8) : MvOK (mvSample n d) g dn n := by
  refine ⟨VOK.nI (by omega), fun g' e _ => ⟨rfl, e.take hd⟩, fun g' e j hj => ?_, dn, n + 1, hI.take hd h8, hX.take hI hd h8⟩
  show pTake g' n d j = g' j
  rw [pTake_eq e.B' hd]; unfold tk6
  rw [upd_far (by omega) hj, upd_far (by omega) hj, upd_far (by omega) hj, upd_far (by omega) hj, upd_far (by omega) hj, upd_far (by omega) hj, upd_far (by omega) hj]
theorem mv_toss (hI : BI g dn n) (hX : XI g n) {k : Nat} (hk : k < n) : MvOK (mvToss n k) g dn n := by
  have h8 := hI.nle
  obtain ⟨hm, h9⟩ := hI.mM k hk
  refine ⟨?_, fun g' e _ => ⟨e.O hk (by omega), e.toss⟩, fun g' e j hj => ?_, dn, n - 1, hI.toss hk, hX.toss hk h8⟩
  · show VOK (pOf g k 5)
    rw [hm]; exact VOK.nI (by omega)
  · show pToss g' n k j = g' j
    unfold pToss pTossK; rw [if_neg (by omega), upd_far (by omega) hj]
theorem VOK_bath (hI : BI g dn n) {k : Nat} (hk : k < n) : VOK (pOf g k 3) := by
  rcases (hI.sa k hk).2.2.2.1 with h | ⟨b, hb, h⟩
  · rw [h]; exact VOK.m1
  · rw [h]; exact VOK.nI (by omega)
theorem mv_bath (hI : BI g dn n) (hX : XI g n) {k : Nat} {v : Int32} (hk : k < n) (hv : v = -1 ∨ ∃ b, b < 3 ∧ v = nI b ∧ (pOf g k 3 = nI b ∨ pInBath g n (nI b) < 3)) : MvOK (mvBath k v) g dn n := by
  have h8 := hI.nle
  exact ⟨VOK_bath hI hk, fun g' e _ => ⟨e.O hk (by omega), e.s.up rfl⟩, fun g' e j hj => upd_far (by omega) hj, dn, n, hI.uBath hk (hv.imp (fun h => h) (fun ⟨b, h1, h2, _⟩ => ⟨b, h1, h2⟩)), hX.bath h8 hv⟩
theorem mv_warm (hI : BI g dn n) (hX : XI g n) {b t : Nat} (hb : b < 3) (ht : t ≤ 900) : MvOK (mvWarm b t) g dn n := by
  refine ⟨?_, fun g' e _ => ⟨e.2 _ (by omega), e.s.up rfl⟩, fun g' e j hj => upd_far (by omega) hj, dn, n, hI.uDeg hb ht, ?_⟩
  · obtain ⟨x, hx, h⟩ := hI.dg b hb
    show VOK (g (28 + b))
    rw [h]; exact VOK.nI (by omega)
  · show XI (upd g (28 + b) (nI t)) n
    exact hX.keep (pk_un (by omega)) (pk_un (by omega)) rfl (fun k hk => pk_un (by omega))
theorem mv_pass (hI : BI g dn n) (hX : XI g n) {p : Nat} : MvOK (mvPass n p) g dn n := by
  have h8 := hI.nle
  refine ⟨VOK.nI (Nat.lt_of_le_of_lt (pCnt_le _ n) (by omega)), fun g' e _ => ⟨?_, e.passT.s⟩, fun g' e j hj => ?_, dn, n, hI.pass, ?_⟩
  · show nI (pSame (pPassT g' n p) n) = nI (pSame (pPassT g n p) n)
    rw [e.passT.Same]
  · show pPassT g' n p j = g' j
    unfold pPassT; rw [upd_far (by omega) hj, pass_far h8 hj]
  · show XI (pPassT g n p) n
    have lo : ∀ j, j ≠ 3 → (∀ i, j ≠ 40 + 42 * i + 2) → pPassT g n p j = g j := fun j a b => by
      unfold pPassT; rw [pk_un a, pass_ne p b]
    exact hX.keep (lo 8 (by omega) (fun i => by omega)) (lo 9 (by omega) (fun i => by omega)) rfl (fun k hk => lo _ (by omega) (fun i => by omega))
theorem sink_lo {nd k j : Nat} {w s : Int32} (h2 : j ≠ 2) (ha : j < 31 ∨ 40 ≤ j) (hb : j < 40 + 42 * k + 5 ∨ 40 + 42 * k + 42 ≤ j) (hnd : nd < 3) (h9 : pMany g k < 9) : pSink g nd k w s j = g j := by
  rw [pSink_eq, pk_un h2]
  unfold sk5; rw [pk_un (by omega)]
  unfold sk4; rw [pk_un (by omega)]
  unfold sk3; rw [pk_un (by omega)]
  unfold sk2; rw [pk_un (by omega)]
  unfold sk1; rw [pk_un (by omega), pk_un (by omega), pk_un (by omega), pk_un (by omega)]
theorem mv_sink (hI : BI g dn n) (hX : XI g n) {i k w s : Nat} (hi : i < 3) (hk : k < n) (h9 : pMany g k < 9) : MvOK (mvSink i k w s) g dn n := by
  have h8 := hI.nle
  refine ⟨?_, fun g' e _ => ⟨e.Dep hi hk, e.sink hi hk⟩, fun g' e j hj => sink_far hi (by omega) (by rw [e.M hk]; exact h9) hj, dn, n, hI.sink hi hk h9, ?_⟩
  · obtain ⟨y, hy, h⟩ := pDep_nI (f := g) (nd := i) (k := k) (w := nI w) (s := nI s)
    show VOK (pDep g i k (nI w) (nI s))
    rw [h]; exact VOK.nI (by omega)
  · show XI (pSink g i k (nI w) (nI s)) n
    refine hX.keep (sink_lo (by omega) (by omega) (by omega) hi h9) (sink_lo (by omega) (by omega) (by omega) hi h9) rfl (fun j hj => ?_)
    unfold pOf
    by_cases c : j = k
    · subst c; exact sink_lo (by omega) (by omega) (by omega) hi h9
    · exact sink_lo (by omega) (by omega) (by omega) hi h9
theorem renew_lo {i j : Nat} (hi : i < 3) (h4 : j ≠ 4) (ha : j < 31 ∨ 40 ≤ j) : pRenew g i j = g j := by
  unfold pRenew; rw [pk_un h4, pk_un (by omega), pk_un (by omega)]
theorem mv_renew (hI : BI g dn n) (hX : XI g n) {i : Nat} (hi : i < 3) : MvOK (mvRenew i) g dn n := by
  refine ⟨?_, fun g' e _ => ⟨e.2 _ (by omega), ((e.s.up rfl).up rfl).up (by rw [e.2 4 (by omega)])⟩, fun g' e j hj => renew_lo hi (by omega) (by omega), dn, n, hI.renew hi, show XI (pRenew g i) n from hX.keep (renew_lo hi (by omega) (by omega)) (renew_lo hi (by omega) (by omega)) rfl (fun k hk => renew_lo hi (by omega) (by omega))⟩
  obtain ⟨w, hw, h⟩ := (hI.nd i hi).1
  show VOK (g (31 + 3 * i + 0))
  rw [h]; exact VOK.nI (by omega)
theorem pRingR_nI (hI : BI g dn n) {k : Nat} (hk : k < n) : ∃ s, s ≤ 2100 ∧ 250 ≤ s ∧ pRingR g k = nI s := by
  unfold pRingR
  by_cases c : pOf g k 4 = -1
  · rw [if_pos c]; exact pRingV_nI hI hk
  · rw [if_neg c]; exact (hI.sa k hk).2.2.2.2.1.resolve_left c
theorem ring_lo {k j : Nat} (h : j ≠ 40 + 42 * k + 4) : pRing g k j = g j := by
  unfold pRing; split
  · exact pk_un h
  · rfl
theorem mv_ring (hI : BI g dn n) (hX : XI g n) {k : Nat} (hk : k < n) : MvOK (mvRing k) g dn n := by
  have h8 := hI.nle
  refine ⟨?_, fun g' e _ => ⟨e.RingR hk, e.ring hk⟩, fun g' e j hj => ring_far (by omega) hj, dn, n, hI.ring hk, show XI (pRing g k) n from hX.keep (ring_lo (by omega)) (ring_lo (by omega)) rfl (fun j hj => ring_lo (by omega))⟩
  obtain ⟨s, h1, h2, h⟩ := pRingR_nI hI hk
  show VOK (pRingR g k)
  rw [h]; exact VOK.nI (by omega)
theorem mv_sell (hI : BI g dn n) (hX : XI g n) {d : Nat} (hd : d < dn) (hw : pWhyS g n d = nI 0) : MvOK (mvSell n d) g dn n := by
  have h6 := hI.dle
  have h2 := pWhyS_0 (f := g) (n := n) (d := d) (by rw [hw]; decide)
  refine ⟨?_, fun g' e _ => ⟨?_, e.s.up (by rw [e.Mean])⟩, fun g' e j hj => upd_far (by omega) hj, dn, n, hI.sell hd h2, ?_⟩
  · show VOK (pMean g n d true / nI 20)
    rcases pMean_nI (d := d) (q := true) hI with ⟨h0, -⟩ | ⟨y, hy, -, e⟩
    · omega
    · rw [e, pk_div (by rw [if_pos rfl] at hy; omega) (by omega) (by omega)]
      rw [if_pos rfl] at hy
      exact VOK.nI (by omega)
  · show pMean g' n d true / nI 20 = pMean g n d true / nI 20
    rw [e.Mean]
  · show XI (pSell g n d) n
    unfold pSell
    exact hX.keep (pk_un (by omega)) (pk_un (by omega)) rfl (fun k hk => pk_un (by omega))
theorem mv_set (hI : BI g dn n) (hX : XI g n) {i v : Nat} (hi : i < 3) (h0 : i = 0 → v ≤ 50) (h1 : i = 1 → v ≤ 100) (h2 : i = 2 → v ≤ 60) : MvOK (mvSet i v) g dn n := by
  obtain ⟨⟨x0, b0, s0⟩, ⟨x1, b1, s1⟩, x2, b2, s2⟩ := hI.st
  refine ⟨?_, fun g' e _ => ⟨e.2 _ (by omega), e.s.up rfl⟩, fun g' e j hj => upd_far (by omega) hj, dn, n, ?_, show XI (upd g (5 + i) (nI v)) n from hX.keep (pk_un (by omega)) (pk_un (by omega)) rfl (fun k hk => pk_un (by omega))⟩
  · show VOK (g (5 + i))
    match i, hi with
    | 0, _ => rw [s0]; exact VOK.nI (by omega)
    | 1, _ => rw [show 5 + 1 = 6 from rfl, s1]; exact VOK.nI (by omega)
    | 2, _ => rw [show 5 + 2 = 7 from rfl, s2]; exact VOK.nI (by omega)
    | i + 3, h => omega
  · show BI (upd g (5 + i) (nI v)) dn n
    match i, hi with
    | 0, _ => exact hI.uSet5 (h0 rfl)
    | 1, _ => exact hI.uSet6 (h1 rfl)
    | 2, _ => exact hI.uSet7 (h2 rfl)
    | i + 3, h => omega
theorem mv_restore {d7 n7 : Nat} (hI : BI (blk g 7) d7 n7) (hX : XI (blk g 7) n7) : MvOK mvRestore g dn n := by
  have e7 : S6 (blk g 7) (pCp g 7 0) := fun j hj => pCp_0 hj
  refine ⟨?_, fun g' e q => ⟨?_, restore_S6 q⟩, fun g' e j hj => pCp70_far hj, d7, n7, hI.congr e7, hX.congr hI.nle e7⟩
  · show VOK (pCp g 7 0 1)
    have h8 := hI.nle
    rw [e7 1 (by omega), hI.n0]; exact VOK.nI (by omega)
  · show pCp g' 7 0 1 = pCp g 7 0 1
    exact restore_S6 q 1 (by omega)
end Mv
