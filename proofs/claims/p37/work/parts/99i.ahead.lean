/-! WHAT IS TOLD AHEAD -/
theorem lcmp_same {x : Int64} : (if x < x then (1 : Int32) else if x = x then 0 else -1) = nI 0 := by
  rw [if_neg (by rw [Int64.lt_iff_toInt_lt]; omega), if_pos rfl]; rfl
theorem fM_look {l : Launch} {κ : KP} {M : Mem} {ad : Nat → Nat} {g tx : Nat → Int32} {dn n sn ln : Nat} {kp : Bool} {L0 : Int64} (hA : aInj ad) (hC : ClsAt κ ad M ⟨g, sn, kp, tx, ln⟩ dn n) (hL : lookF g dn n = L0) : fM l κ mL_looks [.ref (ad 254)] M (isR (some (.long L0)) M) := hL ▸ tL_looks hA hC
def ahP (κ : KP) (ad : Nat → Nat) (M : Mem) (g tx : Nat → Int32) (ln dn n : Nat) : FPost := fun o M' => o = .inl (some (.int (nI 1))) ∧ ∃ g' sn', ClsAt κ ad M' ⟨g', sn', true, tx, ln⟩ dn n ∧ S6 g g' ∧ SQ g g' ∧ OffC ad M M'
theorem ahP.trans {κ : KP} {ad : Nat → Nat} {M M2 M' : Mem} {g g2 tx : Nat → Int32} {ln dn n : Nat} {o : Out} (h1 : S6 g g2) (h2 : SQ g g2) (h3 : OffC ad M M2) (h : ahP κ ad M2 g2 tx ln dn n o M') : ahP κ ad M g tx ln dn n o M' := by
  obtain ⟨q1, g', sn', q2, q3, q4, q5⟩ := h
  exact ⟨q1, g', sn', q2, h1.trans q3, h2.trans q4, h3.trans q5⟩
theorem pUp2 {sn : Nat} (hs : sn ≤ 6) : 1 < pUp (pUp sn) ∧ pUp (pUp sn) ≤ 6 := by
  obtain ⟨h1, h2, h3, h4⟩ := pUp_b hs
  obtain ⟨h5, h6, h7, h8⟩ := pUp_b (sn := pUp sn) h2
  omega
theorem fM_stP {l : Launch} {κ : KP} {μ : MD} {av : List Value} {M : Mem} {ad : Nat → Nat} {g f tx : Nat → Int32} {sn ln dn n : Nat} {v v' : Int32} (h : fM l κ μ av M (stP κ ad M g sn tx ln dn n f v)) (e : v = v') : fM l κ μ av M (stP κ ad M g sn tx ln dn n f v') := e ▸ h
theorem lL_ah4 {l : Launch} {κ : KP} {M : Mem} {ad : Nat → Nat} {g tx : Nat → Int32} {dn n sn ln : Nat} (hA : aInj ad) (hC : ClsAt κ ad M ⟨g, sn, true, tx, ln⟩ dn n) {i k : Nat} {L0 : Int64} (hX : XI g n) (hL : lookF g dn n = L0) (hi : i < 3) (hk : k < n) : fR l κ mL_isAhead 444 [(11, .int (nI (1))), (4, .long (L0)), (1, .int (nI (i))), (2, .int (nI (k))), (0, .ref (ad 254))] [] M 40 240 (ahP κ ad M g tx ln dn n) := by
  have hI : BI g dn n := hC.2.2.1
  have hdn := hI.dle
  have hn := hI.nle
  have hsn : sn ≤ 6 := hC.2.1.s6
  have hE : E6 g (pSave g sn) dn n := ⟨hI, fun j hj => pSave_lo hj⟩
  obtain ⟨hu1, hu2, -, -⟩ := pUp_b hsn
  refine r_iload dL_isAhead_444 rfl ?_
  refine r_if_eqN (tgt := 486) dL_isAhead_446 (by decide) (by omega) (fun c1 => absurd c1 (by omega)) (fun c1 => ?_)
  refine r_aload_n dL_isAhead_449 rfl ?_
  refine r_iload_n dL_isAhead_450 rfl ?_
  refine r_callVP (As := [.int (nI (i))]) dL_isAhead_451 (tW_renew hA hC hX hi) rfl hC.1 rfl rfl oX8_renew rfl kL_56M nX8_renew eX8_renew (by unfold fRoom; decide) (Nat.le_of_ble_eq_true rfl) rfl (bc' := 39) (bs' := 234) rfl rfl (fun E M9 h => by cases h.1) (fun v M1 hq => ?_)
  obtain ⟨hv, hC1, hO1, hX1, hF1⟩ := hq
  cases hv
  obtain ⟨r0, r1⟩ := renew_0 (G := pSave g sn) hi
  generalize pRenew (pSave g sn) i = g1 at hC1 hX1 hF1 r0 r1
  have hw0 : ¬ g (31 + 3 * i + 0) < 0 := by obtain ⟨w, hw, ew⟩ := (hI.nd i hi).1; rw [ew]; exact nI_pos (by omega)
  show fR _ _ _ 454 _ (.int (g (31 + 3 * i + 0)) :: _) _ _ _ _
  refine r_if_lt (tgt := 486) dL_isAhead_454 (by decide) (fun c2 => by exact absurd c2 hw0) (fun c2 => ?_)
  refine r_aload_n dL_isAhead_457 rfl ?_
  refine r_iload_n dL_isAhead_458 rfl ?_
  refine r_iconst (v := nI 0) dL_isAhead_459 (by decide) ?_
  refine r_callV (As := [.int (nI (i)), .int (nI (0))]) dL_isAhead_460 (fM_isI (v' := (g1 (31 + 3 * i + 0))) (tZ_needle hA hC1 (by omega) (by omega)) rfl) rfl hC1.1 rfl rfl oX8_needleZ rfl kL_30M nX8_needleZ eX8_needleZ (by unfold fRoom; decide) (Nat.le_of_ble_eq_true rfl) rfl (bc' := 39) (bs' := 234) rfl rfl ?_
  show fR _ _ _ 463 _ (.int (g1 (31 + 3 * i + 0)) :: _) _ _ _ _
  refine r_if_ne (tgt := 486) dL_isAhead_463 (by decide) (fun c3 => by exact absurd (r0.trans nI_0) c3) (fun c3 => ?_)
  refine r_aload_n dL_isAhead_466 rfl ?_
  refine r_iload_n dL_isAhead_467 rfl ?_
  refine r_iconst (v := nI 1) dL_isAhead_468 (by decide) ?_
  refine r_callV (As := [.int (nI (i)), .int (nI (1))]) dL_isAhead_469 (fM_isI (v' := (g1 (31 + 3 * i + 1))) (tZ_needle hA hC1 (by omega) (by omega)) rfl) rfl hC1.1 rfl rfl oX8_needleZ rfl kL_30M nX8_needleZ eX8_needleZ (by unfold fRoom; decide) (Nat.le_of_ble_eq_true rfl) rfl (bc' := 39) (bs' := 234) rfl rfl ?_
  show fR _ _ _ 472 _ (.int (g1 (31 + 3 * i + 1)) :: _) _ _ _ _
  refine r_if_ne (tgt := 486) dL_isAhead_472 (by decide) (fun c4 => by exact absurd (r1.trans nI_0) c4) (fun c4 => ?_)
  refine r_aload_n dL_isAhead_475 rfl ?_
  refine r_callVP (As := []) dL_isAhead_476 (tW_undo hA hC1 hu1 (far_top hsn hF1) hI) rfl hC1.1 rfl rfl oX8_undo rfl kL_121M nX8_undo eX8_undo (by unfold fRoom; decide) (Nat.le_of_ble_eq_true rfl) rfl (bc' := 38) (bs' := 228) rfl rfl (fun E M9 h => by cases h.1) (fun v M2 hq => ?_)
  obtain ⟨hv, g2, hC2, hO2, hS2, hF2⟩ := hq
  cases hv
  have hQ2 : SQ g g2 := fun j hj => (hF2 _ (by omega)).trans (far_SQ hsn hF1 j hj)
  have hL2 : lookF g2 dn n = L0 := (E6.look ⟨hI, hS2⟩).trans hL
  show fR _ _ _ 479 _ (.int (nI ((pUp sn - 1))) :: _) _ _ _ _
  refine r_if_ltN (tgt := 486) dL_isAhead_479 (by decide) (by omega) (fun c5 => by omega) (fun c5 => ?_)
  refine r_iconst (v := nI 1) dL_isAhead_482 (by decide) ?_
  refine r_goto (tgt := 487) dL_isAhead_483 (by decide) ?_
  refine r_istore (lv' := [(11, .int (nI (1))), (4, .long (L0)), (1, .int (nI (i))), (2, .int (nI (k))), (0, .ref (ad 254))]) dL_isAhead_487 (by decide) rfl ?_
  refine r_iload dL_isAhead_489 rfl ?_
  refine r_if_eqN (tgt := 508) dL_isAhead_491 (by decide) (by omega) (fun c6 => absurd c6 (by omega)) (fun c6 => ?_)
  refine r_aload_n dL_isAhead_494 rfl ?_
  refine r_callS (As := [.ref (ad 254)]) dL_isAhead_495 (fM_look hA hC2 hL2) rfl oL_looks rfl kL_111M sL_looks (by unfold fRoom; decide) (Nat.le_of_ble_eq_true rfl) rfl (bc' := 38) (bs' := 228) rfl rfl ?_
  show fR _ _ _ 498 _ (.long (L0) :: _) _ _ _ _
  refine r_lload dL_isAhead_498 rfl ?_
  refine r_lcmp dL_isAhead_500 ?_
  refine r_top lcmp_same ?_
  refine r_if_neN (tgt := 508) dL_isAhead_501 (by decide) (by omega) (fun c7 => absurd c7 (by omega)) (fun c7 => ?_)
  refine r_iconst (v := nI 1) dL_isAhead_504 (by decide) ?_
  refine r_goto (tgt := 509) dL_isAhead_505 (by decide) ?_
  exact fR_zret dL_isAhead_509 rfl rfl ⟨rfl, g2, _, hC2, hS2, hQ2, hO1.trans hO2⟩
theorem lL_ah3 {l : Launch} {κ : KP} {M : Mem} {ad : Nat → Nat} {g tx : Nat → Int32} {dn n sn ln : Nat} (hA : aInj ad) (hC : ClsAt κ ad M ⟨g, sn, true, tx, ln⟩ dn n) {i k : Nat} {L0 : Int64} (hX : XI g n) (hL : lookF g dn n = L0) (hi : i < 3) (hk : k < n) : fR l κ mL_isAhead 379 [(11, .int (nI (1))), (4, .long (L0)), (1, .int (nI (i))), (2, .int (nI (k))), (0, .ref (ad 254))] [] M 60 360 (ahP κ ad M g tx ln dn n) := by
  have hI : BI g dn n := hC.2.2.1
  have hdn := hI.dle
  have hn := hI.nle
  have hsn : sn ≤ 6 := hC.2.1.s6
  have hE : E6 g (pSave g sn) dn n := ⟨hI, fun j hj => pSave_lo hj⟩
  obtain ⟨hu1, hu2, -, -⟩ := pUp_b hsn
  refine r_iload dL_isAhead_379 rfl ?_
  refine r_if_eqN (tgt := 444) dL_isAhead_381 (by decide) (by omega) (fun c1 => absurd c1 (by omega)) (fun c1 => ?_)
  by_cases b3 : pOf g k 3 = -1
  · skip
    refine r_aload_n dL_isAhead_384 rfl ?_
    refine r_iload_n dL_isAhead_385 rfl ?_
    refine r_iconst (v := nI 3) dL_isAhead_386 (by decide) ?_
    refine r_callV (As := [.int (nI (k)), .int (nI (3))]) dL_isAhead_387 (fM_isI (v' := (pOf g k 3)) (tZ_sampleOf hA hC (by omega) (by omega)) rfl) rfl hC.1 rfl rfl oX8_sampleOfZ rfl kL_23M nX8_sampleOfZ eX8_sampleOfZ (by unfold fRoom; decide) (Nat.le_of_ble_eq_true rfl) rfl (bc' := 60) (bs' := 360) rfl rfl ?_
    show fR _ _ _ 390 _ (.int (pOf g k 3) :: _) _ _ _ _
    refine r_iconst (v := (-1)) dL_isAhead_390 (by decide) ?_
    refine r_icmp_ne (tgt := 444) dL_isAhead_391 (by decide) (fun c2 => by exact absurd b3 c2) (fun c2 => ?_)
    refine r_aload_n dL_isAhead_394 rfl ?_
    refine r_iload_n dL_isAhead_395 rfl ?_
    refine r_callVP (As := [.int (nI (k))]) dL_isAhead_396 (tW_ring hA hC hX hk b3) rfl hC.1 rfl rfl oX8_ring rfl kL_68M nX8_ring eX8_ring (by unfold fRoom; decide) (Nat.le_of_ble_eq_true rfl) rfl (bc' := 59) (bs' := 354) rfl rfl (fun E M9 h => by cases h.1) (fun v M1 hq => ?_)
    obtain ⟨hv, hC1, hO1, hX1, hF1⟩ := hq
    cases hv
    have e4 : pOf (pRing (pSave g sn) k) k 4 = pRingR g k := ring_4.trans (hE.RingR hk)
    have h3' : pOf (pRing (pSave g sn) k) k 3 = -1 := by unfold pOf; rw [ring_lo (by omega), pSave_lo (by omega)]; exact b3
    have e5 : pRingR (pRing (pSave g sn) k) k = pRingR g k := (ring_again (by rw [hE.RingR hk]; obtain ⟨s, s1, s2, es⟩ := pRingR_nI hI hk; rw [es]; exact nI_m1 (by omega))).trans (hE.RingR hk)
    generalize pRing (pSave g sn) k = g1 at hC1 hX1 hF1 e4 h3' e5
    have hI1 : BI g1 dn n := hC1.2.2.1
    show fR _ _ _ 399 _ (.int (pRingR g k) :: _) _ _ _ _
    refine r_istore (lv' := [(13, .int (pRingR g k)), (11, .int (nI (1))), (4, .long (L0)), (1, .int (nI (i))), (2, .int (nI (k))), (0, .ref (ad 254))]) dL_isAhead_399 (by decide) rfl ?_
    refine r_aload_n dL_isAhead_401 rfl ?_
    refine r_iload_n dL_isAhead_402 rfl ?_
    refine r_bipush (v := nI 7) dL_isAhead_403 (by decide) ?_
    refine r_callV (As := [.int (nI (k)), .int (nI (7))]) dL_isAhead_405 (fM_isI (v' := (pOf g1 k 4)) (tZ_sampleOf hA hC1 (by omega) (by omega)) rfl) rfl hC1.1 rfl rfl oX8_sampleOfZ rfl kL_23M nX8_sampleOfZ eX8_sampleOfZ (by unfold fRoom; decide) (Nat.le_of_ble_eq_true rfl) rfl (bc' := 59) (bs' := 354) rfl rfl ?_
    show fR _ _ _ 408 _ (.int (pOf g1 k 4) :: _) _ _ _ _
    refine r_iload dL_isAhead_408 rfl ?_
    refine r_icmp_ne (tgt := 441) dL_isAhead_410 (by decide) (fun c3 => by exact absurd e4 c3) (fun c3 => ?_)
    refine r_aload_n dL_isAhead_413 rfl ?_
    refine r_iload_n dL_isAhead_414 rfl ?_
    refine r_callVP (As := [.int (nI (k))]) dL_isAhead_415 (fM_stP (tW_ring hA hC1 hX1 hk h3') e5) rfl hC1.1 rfl rfl oX8_ring rfl kL_68M nX8_ring eX8_ring (by unfold fRoom; decide) (Nat.le_of_ble_eq_true rfl) rfl (bc' := 58) (bs' := 348) rfl rfl (fun E M9 h => by cases h.1) (fun v M2 hq => ?_)
    obtain ⟨hv, hC2, hO2, hX2, hF2⟩ := hq
    cases hv
    generalize pRing (pSave g1 (pUp sn)) k = g2 at hC2 hX2 hF2
    obtain ⟨hv1, hv2⟩ := pUp2 hsn
    show fR _ _ _ 418 _ (.int (pRingR g k) :: _) _ _ _ _
    refine r_iload dL_isAhead_418 rfl ?_
    refine r_icmp_ne (tgt := 441) dL_isAhead_420 (by decide) (fun c4 => by exact absurd rfl c4) (fun c4 => ?_)
    refine r_aload_n dL_isAhead_423 rfl ?_
    refine r_callVP (As := []) dL_isAhead_424 (tW_undo hA hC2 (by omega) (far_top hu2 hF2) hI1) rfl hC2.1 rfl rfl oX8_undo rfl kL_121M nX8_undo eX8_undo (by unfold fRoom; decide) (Nat.le_of_ble_eq_true rfl) rfl (bc' := 57) (bs' := 342) rfl rfl (fun E M9 h => by cases h.1) (fun v M3 hq => ?_)
    obtain ⟨hv, g3, hC3, hO3, hS3, hF3⟩ := hq
    cases hv
    show fR _ _ _ 427 _ (.int (nI ((pUp (pUp sn) - 1))) :: _) _ _ _ _
    refine r_if_ltN (tgt := 441) dL_isAhead_427 (by decide) (by omega) (fun c5 => by omega) (fun c5 => ?_)
    refine r_aload_n dL_isAhead_430 rfl ?_
    refine r_callVP (As := []) dL_isAhead_431 (tW_undo hA hC3 (by omega) (fun j hj => (hF3 _ (by omega)).trans ((hF2 _ (by omega)).trans ((save_below hu1 hu2 hj).trans (far_top hsn hF1 j hj)))) hI) rfl hC3.1 rfl rfl oX8_undo rfl kL_121M nX8_undo eX8_undo (by unfold fRoom; decide) (Nat.le_of_ble_eq_true rfl) rfl (bc' := 56) (bs' := 336) rfl rfl (fun E M9 h => by cases h.1) (fun v M4 hq => ?_)
    obtain ⟨hv, g4, hC4, hO4, hS4, hF4⟩ := hq
    cases hv
    have hQ4 : SQ g g4 := fun j hj => (hF4 _ (by omega)).trans ((hF3 _ (by omega)).trans ((far_SQ hu2 hF2 j hj).trans (far_SQ hsn hF1 j hj)))
    have hL4 : lookF g4 dn n = L0 := (E6.look ⟨hI, hS4⟩).trans hL
    show fR _ _ _ 434 _ (.int (nI ((pUp (pUp sn) - 1 - 1))) :: _) _ _ _ _
    refine r_if_ltN (tgt := 441) dL_isAhead_434 (by decide) (by omega) (fun c6 => by omega) (fun c6 => ?_)
    refine r_iconst (v := nI 1) dL_isAhead_437 (by decide) ?_
    refine r_goto (tgt := 442) dL_isAhead_438 (by decide) ?_
    refine r_istore (lv' := [(11, .int (nI (1))), (13, .int (pRingR g k)), (4, .long (L0)), (1, .int (nI (i))), (2, .int (nI (k))), (0, .ref (ad 254))]) dL_isAhead_442 (by decide) rfl ?_
    refine r_lv (lv' := [(11, .int (nI (1))), (4, .long (L0)), (1, .int (nI (i))), (2, .int (nI (k))), (0, .ref (ad 254))]) (by simp) ?_
    exact r_bud (bc' := 40) (bs' := 240) (by omega) (by omega) ((lL_ah4 hA hC4 (hX.congr hn hS4) hL4 hi hk).mono (fun o M9 h => ahP.trans hS4 hQ4 (((hO1.trans hO2).trans hO3).trans hO4) h))
  · skip
    refine r_aload_n dL_isAhead_384 rfl ?_
    refine r_iload_n dL_isAhead_385 rfl ?_
    refine r_iconst (v := nI 3) dL_isAhead_386 (by decide) ?_
    refine r_callV (As := [.int (nI (k)), .int (nI (3))]) dL_isAhead_387 (fM_isI (v' := (pOf g k 3)) (tZ_sampleOf hA hC (by omega) (by omega)) rfl) rfl hC.1 rfl rfl oX8_sampleOfZ rfl kL_23M nX8_sampleOfZ eX8_sampleOfZ (by unfold fRoom; decide) (Nat.le_of_ble_eq_true rfl) rfl (bc' := 60) (bs' := 360) rfl rfl ?_
    show fR _ _ _ 390 _ (.int (pOf g k 3) :: _) _ _ _ _
    refine r_iconst (v := (-1)) dL_isAhead_390 (by decide) ?_
    refine r_icmp_ne (tgt := 444) dL_isAhead_391 (by decide) (fun c7 => ?_) (fun c7 => by exact absurd c7 b3)
    refine r_lv (lv' := [(11, .int (nI (1))), (4, .long (L0)), (1, .int (nI (i))), (2, .int (nI (k))), (0, .ref (ad 254))]) (by simp) ?_
    exact r_bud (bc' := 40) (bs' := 240) (by omega) (by omega) (lL_ah4 hA hC hX hL hi hk)
theorem lL_ah2 {l : Launch} {κ : KP} {M : Mem} {ad : Nat → Nat} {g tx : Nat → Int32} {dn n sn ln : Nat} (hA : aInj ad) (hC : ClsAt κ ad M ⟨g, sn, true, tx, ln⟩ dn n) {i k : Nat} {L0 : Int64} (hX : XI g n) (hL : lookF g dn n = L0) (hi : i < 3) (hk : k < n) {w s : Nat} (w1 : 50 ≤ w) (w2 : w ≤ 199) (s1 : 1 ≤ s) (s2 : s ≤ 59) : fR l κ mL_isAhead 277 [(12, .int ((pWhyNot g i k))), (11, .int (nI (1))), (8, .int ((pDep g i k (nI w) (nI s)))), (7, .int (nI (s))), (6, .int (nI (w))), (4, .long (L0)), (1, .int (nI (i))), (2, .int (nI (k))), (0, .ref (ad 254))] [] M 80 480 (ahP κ ad M g tx ln dn n) := by
  have hI : BI g dn n := hC.2.2.1
  have hdn := hI.dle
  have hn := hI.nle
  have hsn : sn ≤ 6 := hC.2.1.s6
  have hE : E6 g (pSave g sn) dn n := ⟨hI, fun j hj => pSave_lo hj⟩
  obtain ⟨hu1, hu2, -, -⟩ := pUp_b hsn
  have hm9 := (hI.mM k hk).2
  refine r_iload dL_isAhead_277 rfl ?_
  refine r_if_eqN (tgt := 379) dL_isAhead_279 (by decide) (by omega) (fun c1 => absurd c1 (by omega)) (fun c1 => ?_)
  by_cases z : pWhyNot g i k = 0
  · skip
    refine r_iload dL_isAhead_282 rfl ?_
    refine r_if_ne (tgt := 379) dL_isAhead_284 (by decide) (fun c2 => by exact absurd z c2) (fun c2 => ?_)
    refine r_aload_n dL_isAhead_287 rfl ?_
    refine r_iconst (v := nI 2) dL_isAhead_288 (by decide) ?_
    refine r_callV (As := [.int (nI (2))]) dL_isAhead_289 (fM_isI (v' := (g 2)) (tZ_count hA hC (by omega)) rfl) rfl hC.1 rfl rfl oX8_countZ rfl kL_13M nX8_countZ eX8_countZ (by unfold fRoom; decide) (Nat.le_of_ble_eq_true rfl) rfl (bc' := 80) (bs' := 480) rfl rfl ?_
    show fR _ _ _ 292 _ (.int (g 2) :: _) _ _ _ _
    refine r_istore (lv' := [(13, .int (g 2)), (12, .int ((pWhyNot g i k))), (11, .int (nI (1))), (8, .int ((pDep g i k (nI w) (nI s)))), (7, .int (nI (s))), (6, .int (nI (w))), (4, .long (L0)), (1, .int (nI (i))), (2, .int (nI (k))), (0, .ref (ad 254))]) dL_isAhead_292 (by decide) rfl ?_
    refine r_aload_n dL_isAhead_294 rfl ?_
    refine r_iload_n dL_isAhead_295 rfl ?_
    refine r_iconst (v := nI 4) dL_isAhead_296 (by decide) ?_
    refine r_callV (As := [.int (nI (k)), .int (nI (4))]) dL_isAhead_297 (fM_isI (v' := (nI (pMany g k))) (tZ_sampleOf hA hC (by omega) (by omega)) (hC.2.2.1.mM _ (by omega)).1) rfl hC.1 rfl rfl oX8_sampleOfZ rfl kL_23M nX8_sampleOfZ eX8_sampleOfZ (by unfold fRoom; decide) (Nat.le_of_ble_eq_true rfl) rfl (bc' := 80) (bs' := 480) rfl rfl ?_
    show fR _ _ _ 300 _ (.int (nI (pMany g k)) :: _) _ _ _ _
    refine r_istore (lv' := [(14, .int (nI (pMany g k))), (13, .int (g 2)), (12, .int ((pWhyNot g i k))), (11, .int (nI (1))), (8, .int ((pDep g i k (nI w) (nI s)))), (7, .int (nI (s))), (6, .int (nI (w))), (4, .long (L0)), (1, .int (nI (i))), (2, .int (nI (k))), (0, .ref (ad 254))]) dL_isAhead_300 (by decide) rfl ?_
    refine r_aload_n dL_isAhead_302 rfl ?_
    refine r_iload_n dL_isAhead_303 rfl ?_
    refine r_iload_n dL_isAhead_304 rfl ?_
    refine r_iload dL_isAhead_305 rfl ?_
    refine r_iload dL_isAhead_307 rfl ?_
    refine r_callVP (As := [.int (nI (i)), .int (nI (k)), .int (nI (w)), .int (nI (s))]) dL_isAhead_309 (tW_sink hA hC hX hi hk w1 (by omega) s1 (by omega) (z.trans nI_0.symm)) rfl hC.1 rfl rfl oX8_sink rfl kL_87M nX8_sink eX8_sink (by unfold fRoom; decide) (Nat.le_of_ble_eq_true rfl) rfl (bc' := 75) (bs' := 450) rfl rfl (fun E M9 h => by cases h.1) (fun v M1 hq => ?_)
    obtain ⟨hv, hC1, hO1, hX1, hF1⟩ := hq
    cases hv
    have h9 := pWhyNot_many hI hk (z.trans nI_0.symm)
    have hMG : pMany (pSave g sn) k = pMany g k := hE.M hk
    have k2 : pSink (pSave g sn) i k (nI w) (nI s) 2 = g 2 + nI 1 := (sink_2 hi (by rw [hMG]; exact h9)).trans (by rw [pSave_lo (by omega)])
    have k3 : pMany (pSink (pSave g sn) i k (nI w) (nI s)) k = pMany g k + 1 := (sink_many hi (by rw [hMG]; exact h9)).trans (by rw [hMG])
    have k4 : rdF (pSink (pSave g sn) i k (nI w) (nI s)) k (pMany g k) 1 = pDep g i k (nI w) (nI s) := by have q := sink_rd (G := pSave g sn) (w := nI w) (s := nI s) hi (by rw [hMG]; exact h9); rw [hMG] at q; exact q.trans (hE.Dep hi hk)
    generalize pSink (pSave g sn) i k (nI w) (nI s) = g1 at hC1 hX1 hF1 k2 k3 k4
    show fR _ _ _ 312 _ (.int (pDep g i k (nI w) (nI s)) :: _) _ _ _ _
    refine r_iload dL_isAhead_312 rfl ?_
    refine r_icmp_ne (tgt := 376) dL_isAhead_314 (by decide) (fun c3 => by exact absurd rfl c3) (fun c3 => ?_)
    refine r_aload_n dL_isAhead_317 rfl ?_
    refine r_iconst (v := nI 2) dL_isAhead_318 (by decide) ?_
    refine r_callV (As := [.int (nI (2))]) dL_isAhead_319 (fM_isI (v' := (g1 2)) (tZ_count hA hC1 (by omega)) rfl) rfl hC1.1 rfl rfl oX8_countZ rfl kL_13M nX8_countZ eX8_countZ (by unfold fRoom; decide) (Nat.le_of_ble_eq_true rfl) rfl (bc' := 75) (bs' := 450) rfl rfl ?_
    show fR _ _ _ 322 _ (.int (g1 2) :: _) _ _ _ _
    refine r_iload dL_isAhead_322 rfl ?_
    refine r_iconst (v := nI 1) dL_isAhead_324 (by decide) ?_
    refine r_iadd dL_isAhead_325 ?_
    refine r_icmp_ne (tgt := 376) dL_isAhead_326 (by decide) (fun c4 => by exact absurd k2 c4) (fun c4 => ?_)
    refine r_aload_n dL_isAhead_329 rfl ?_
    refine r_iload_n dL_isAhead_330 rfl ?_
    refine r_iconst (v := nI 4) dL_isAhead_331 (by decide) ?_
    refine r_callV (As := [.int (nI (k)), .int (nI (4))]) dL_isAhead_332 (fM_isI (v' := (nI (pMany g1 k))) (tZ_sampleOf hA hC1 (by omega) (by omega)) (hC1.2.2.1.mM _ (by omega)).1) rfl hC1.1 rfl rfl oX8_sampleOfZ rfl kL_23M nX8_sampleOfZ eX8_sampleOfZ (by unfold fRoom; decide) (Nat.le_of_ble_eq_true rfl) rfl (bc' := 75) (bs' := 450) rfl rfl ?_
    show fR _ _ _ 335 _ (.int (nI (pMany g1 k)) :: _) _ _ _ _
    refine r_iload dL_isAhead_335 rfl ?_
    refine r_iconst (v := nI 1) dL_isAhead_337 (by decide) ?_
    refine r_iaddN dL_isAhead_338 ?_
    refine r_icmp_neN (tgt := 376) dL_isAhead_339 (by decide) (by omega) (by omega) (fun c5 => by omega) (fun c5 => ?_)
    refine r_aload_n dL_isAhead_342 rfl ?_
    refine r_iload_n dL_isAhead_343 rfl ?_
    refine r_iload dL_isAhead_344 rfl ?_
    refine r_iconst (v := nI 1) dL_isAhead_346 (by decide) ?_
    refine r_callV (As := [.int (nI (k)), .int (nI (pMany g k)), .int (nI (1))]) dL_isAhead_347 (fM_isI (v' := (rdF g1 k (pMany g k) 1)) (tZ_rd hA hC1 (by omega) (by omega) (by omega)) rfl) rfl hC1.1 rfl rfl oX8_readingZ rfl kL_26M nX8_readingZ eX8_readingZ (by unfold fRoom; decide) (Nat.le_of_ble_eq_true rfl) rfl (bc' := 75) (bs' := 450) rfl rfl ?_
    show fR _ _ _ 350 _ (.int (rdF g1 k (pMany g k) 1) :: _) _ _ _ _
    refine r_iload dL_isAhead_350 rfl ?_
    refine r_icmp_ne (tgt := 376) dL_isAhead_352 (by decide) (fun c6 => by exact absurd k4 c6) (fun c6 => ?_)
    refine r_aload_n dL_isAhead_355 rfl ?_
    refine r_callVP (As := []) dL_isAhead_356 (tW_undo hA hC1 hu1 (far_top hsn hF1) hI) rfl hC1.1 rfl rfl oX8_undo rfl kL_121M nX8_undo eX8_undo (by unfold fRoom; decide) (Nat.le_of_ble_eq_true rfl) rfl (bc' := 74) (bs' := 444) rfl rfl (fun E M9 h => by cases h.1) (fun v M2 hq => ?_)
    obtain ⟨hv, g2, hC2, hO2, hS2, hF2⟩ := hq
    cases hv
    have hQ2 : SQ g g2 := fun j hj => (hF2 _ (by omega)).trans (far_SQ hsn hF1 j hj)
    have hL2 : lookF g2 dn n = L0 := (E6.look ⟨hI, hS2⟩).trans hL
    show fR _ _ _ 359 _ (.int (nI ((pUp sn - 1))) :: _) _ _ _ _
    refine r_if_ltN (tgt := 376) dL_isAhead_359 (by decide) (by omega) (fun c7 => by omega) (fun c7 => ?_)
    refine r_aload_n dL_isAhead_362 rfl ?_
    refine r_callS (As := [.ref (ad 254)]) dL_isAhead_363 (fM_look hA hC2 hL2) rfl oL_looks rfl kL_111M sL_looks (by unfold fRoom; decide) (Nat.le_of_ble_eq_true rfl) rfl (bc' := 74) (bs' := 444) rfl rfl ?_
    show fR _ _ _ 366 _ (.long (L0) :: _) _ _ _ _
    refine r_lload dL_isAhead_366 rfl ?_
    refine r_lcmp dL_isAhead_368 ?_
    refine r_top lcmp_same ?_
    refine r_if_neN (tgt := 376) dL_isAhead_369 (by decide) (by omega) (fun c8 => absurd c8 (by omega)) (fun c8 => ?_)
    refine r_iconst (v := nI 1) dL_isAhead_372 (by decide) ?_
    refine r_goto (tgt := 377) dL_isAhead_373 (by decide) ?_
    refine r_istore (lv' := [(11, .int (nI (1))), (14, .int (nI (pMany g k))), (13, .int (g 2)), (12, .int ((pWhyNot g i k))), (8, .int ((pDep g i k (nI w) (nI s)))), (7, .int (nI (s))), (6, .int (nI (w))), (4, .long (L0)), (1, .int (nI (i))), (2, .int (nI (k))), (0, .ref (ad 254))]) dL_isAhead_377 (by decide) rfl ?_
    refine r_lv (lv' := [(11, .int (nI (1))), (4, .long (L0)), (1, .int (nI (i))), (2, .int (nI (k))), (0, .ref (ad 254))]) (by simp) ?_
    exact r_bud (bc' := 60) (bs' := 360) (by omega) (by omega) ((lL_ah3 hA hC2 (hX.congr hn hS2) hL2 hi hk).mono (fun o M9 h => ahP.trans hS2 hQ2 (hO1.trans hO2) h))
  · skip
    refine r_iload dL_isAhead_282 rfl ?_
    refine r_if_ne (tgt := 379) dL_isAhead_284 (by decide) (fun c9 => ?_) (fun c9 => by exact absurd c9 z)
    refine r_lv (lv' := [(11, .int (nI (1))), (4, .long (L0)), (1, .int (nI (i))), (2, .int (nI (k))), (0, .ref (ad 254))]) (by simp) ?_
    exact r_bud (bc' := 60) (bs' := 360) (by omega) (by omega) (lL_ah3 hA hC hX hL hi hk)
theorem lL_ah1b {l : Launch} {κ : KP} {M : Mem} {ad : Nat → Nat} {g tx : Nat → Int32} {dn n sn ln : Nat} (hA : aInj ad) (hC : ClsAt κ ad M ⟨g, sn, true, tx, ln⟩ dn n) {i k : Nat} {L0 : Int64} (hX : XI g n) (hL : lookF g dn n = L0) (hi : i < 3) (hk : k < n) {w s : Nat} (w1 : 50 ≤ w) (w2 : w ≤ 199) (s1 : 1 ≤ s) (s2 : s ≤ 59) : fR l κ mL_isAhead 183 [(11, .int (nI (1))), (8, .int ((pDep g i k (nI w) (nI s)))), (7, .int (nI (s))), (6, .int (nI (w))), (4, .long (L0)), (1, .int (nI (i))), (2, .int (nI (k))), (0, .ref (ad 254))] [] M 90 540 (ahP κ ad M g tx ln dn n) := by
  have hI : BI g dn n := hC.2.2.1
  have hdn := hI.dle
  have hn := hI.nle
  have hsn : sn ≤ 6 := hC.2.1.s6
  have hE : E6 g (pSave g sn) dn n := ⟨hI, fun j hj => pSave_lo hj⟩
  obtain ⟨hu1, hu2, -, -⟩ := pUp_b hsn
  refine r_aload_n dL_isAhead_183 rfl ?_
  refine r_iload_n dL_isAhead_184 rfl ?_
  refine r_iload_n dL_isAhead_185 rfl ?_
  refine r_callV (As := [.int (nI (i)), .int (nI (k))]) dL_isAhead_186 (fM_isI (v' := (pWhyNot g i k)) (tZ_noSink hA hC (by omega) (by omega)) rfl) rfl hC.1 rfl rfl oX8_noSinkZ rfl kL_84M nX8_noSinkZ eX8_noSinkZ (by unfold fRoom; decide) (Nat.le_of_ble_eq_true rfl) rfl (bc' := 90) (bs' := 540) rfl rfl ?_
  show fR _ _ _ 189 _ (.int (pWhyNot g i k) :: _) _ _ _ _
  refine r_istore (lv' := [(12, .int (pWhyNot g i k)), (11, .int (nI (1))), (8, .int ((pDep g i k (nI w) (nI s)))), (7, .int (nI (s))), (6, .int (nI (w))), (4, .long (L0)), (1, .int (nI (i))), (2, .int (nI (k))), (0, .ref (ad 254))]) dL_isAhead_189 (by decide) rfl ?_
  refine r_iload dL_isAhead_191 rfl ?_
  refine r_if_eqN (tgt := 274) dL_isAhead_193 (by decide) (by omega) (fun c1 => absurd c1 (by omega)) (fun c1 => ?_)
  by_cases n1 : g (31 + 3 * i + 1) = nI 1
  · skip
    refine r_iload dL_isAhead_196 rfl ?_
    refine r_iconst (v := nI 1) dL_isAhead_198 (by decide) ?_
    refine r_icmp_ne (tgt := 206) dL_isAhead_199 (by decide) (fun c2 => by exact absurd (pWhyNot_1 n1) c2) (fun c2 => ?_)
    refine r_iconst (v := nI 1) dL_isAhead_202 (by decide) ?_
    refine r_goto (tgt := 207) dL_isAhead_203 (by decide) ?_
    refine r_aload_n dL_isAhead_207 rfl ?_
    refine r_iload_n dL_isAhead_208 rfl ?_
    refine r_iconst (v := nI 1) dL_isAhead_209 (by decide) ?_
    refine r_callV (As := [.int (nI (i)), .int (nI (1))]) dL_isAhead_210 (fM_isI (v' := (g (31 + 3 * i + 1))) (tZ_needle hA hC (by omega) (by omega)) rfl) rfl hC.1 rfl rfl oX8_needleZ rfl kL_30M nX8_needleZ eX8_needleZ (by unfold fRoom; decide) (Nat.le_of_ble_eq_true rfl) rfl (bc' := 90) (bs' := 540) rfl rfl ?_
    show fR _ _ _ 213 _ (.int (g (31 + 3 * i + 1)) :: _) _ _ _ _
    refine r_iconst (v := nI 1) dL_isAhead_213 (by decide) ?_
    refine r_icmp_ne (tgt := 221) dL_isAhead_214 (by decide) (fun c3 => by exact absurd n1 c3) (fun c3 => ?_)
    refine r_iconst (v := nI 1) dL_isAhead_217 (by decide) ?_
    refine r_goto (tgt := 222) dL_isAhead_218 (by decide) ?_
    refine r_icmp_neN (tgt := 274) dL_isAhead_222 (by decide) (by omega) (by omega) (fun c4 => absurd c4 (by omega)) (fun c4 => ?_)
    refine r_iload dL_isAhead_225 rfl ?_
    refine r_iconst (v := nI 1) dL_isAhead_227 (by decide) ?_
    refine r_icmp_eq (tgt := 260) dL_isAhead_228 (by decide) (fun c5 => ?_) (fun c5 => by exact absurd (pWhyNot_1 n1) c5)
    refine r_aload_n dL_isAhead_260 rfl ?_
    refine r_callS (As := [.ref (ad 254)]) dL_isAhead_261 (fM_look hA hC hL) rfl oL_looks rfl kL_111M sL_looks (by unfold fRoom; decide) (Nat.le_of_ble_eq_true rfl) rfl (bc' := 90) (bs' := 540) rfl rfl ?_
    show fR _ _ _ 264 _ (.long (L0) :: _) _ _ _ _
    refine r_lload dL_isAhead_264 rfl ?_
    refine r_lcmp dL_isAhead_266 ?_
    refine r_top lcmp_same ?_
    refine r_if_neN (tgt := 274) dL_isAhead_267 (by decide) (by omega) (fun c6 => absurd c6 (by omega)) (fun c6 => ?_)
    refine r_iconst (v := nI 1) dL_isAhead_270 (by decide) ?_
    refine r_goto (tgt := 275) dL_isAhead_271 (by decide) ?_
    refine r_istore (lv' := [(11, .int (nI (1))), (12, .int (pWhyNot g i k)), (8, .int ((pDep g i k (nI w) (nI s)))), (7, .int (nI (s))), (6, .int (nI (w))), (4, .long (L0)), (1, .int (nI (i))), (2, .int (nI (k))), (0, .ref (ad 254))]) dL_isAhead_275 (by decide) rfl ?_
    refine r_lv (lv' := [(12, .int (pWhyNot g i k)), (11, .int (nI (1))), (8, .int ((pDep g i k (nI w) (nI s)))), (7, .int (nI (s))), (6, .int (nI (w))), (4, .long (L0)), (1, .int (nI (i))), (2, .int (nI (k))), (0, .ref (ad 254))]) (by simp) ?_
    exact r_bud (bc' := 80) (bs' := 480) (by omega) (by omega) (lL_ah2 hA hC hX hL hi hk w1 w2 s1 s2)
  · skip
    refine r_iload dL_isAhead_196 rfl ?_
    refine r_iconst (v := nI 1) dL_isAhead_198 (by decide) ?_
    refine r_icmp_ne (tgt := 206) dL_isAhead_199 (by decide) (fun c7 => ?_) (fun c7 => by exact absurd c7 (pWhyNot_n1 n1))
    refine r_iconst (v := nI 0) dL_isAhead_206 (by decide) ?_
    refine r_aload_n dL_isAhead_207 rfl ?_
    refine r_iload_n dL_isAhead_208 rfl ?_
    refine r_iconst (v := nI 1) dL_isAhead_209 (by decide) ?_
    refine r_callV (As := [.int (nI (i)), .int (nI (1))]) dL_isAhead_210 (fM_isI (v' := (g (31 + 3 * i + 1))) (tZ_needle hA hC (by omega) (by omega)) rfl) rfl hC.1 rfl rfl oX8_needleZ rfl kL_30M nX8_needleZ eX8_needleZ (by unfold fRoom; decide) (Nat.le_of_ble_eq_true rfl) rfl (bc' := 90) (bs' := 540) rfl rfl ?_
    show fR _ _ _ 213 _ (.int (g (31 + 3 * i + 1)) :: _) _ _ _ _
    refine r_iconst (v := nI 1) dL_isAhead_213 (by decide) ?_
    refine r_icmp_ne (tgt := 221) dL_isAhead_214 (by decide) (fun c8 => ?_) (fun c8 => by exact absurd c8 n1)
    refine r_iconst (v := nI 0) dL_isAhead_221 (by decide) ?_
    refine r_icmp_neN (tgt := 274) dL_isAhead_222 (by decide) (by omega) (by omega) (fun c9 => absurd c9 (by omega)) (fun c9 => ?_)
    refine r_iload dL_isAhead_225 rfl ?_
    refine r_iconst (v := nI 1) dL_isAhead_227 (by decide) ?_
    refine r_icmp_eq (tgt := 260) dL_isAhead_228 (by decide) (fun c10 => by exact absurd c10 (pWhyNot_n1 n1)) (fun c10 => ?_)
    by_cases b3 : pOf g k 3 = -1
    · skip
      refine r_iload dL_isAhead_231 rfl ?_
      refine r_iconst (v := nI 2) dL_isAhead_233 (by decide) ?_
      refine r_icmp_ne (tgt := 241) dL_isAhead_234 (by decide) (fun c11 => by exact absurd (pWhyNot_2 n1 b3) c11) (fun c11 => ?_)
      refine r_iconst (v := nI 1) dL_isAhead_237 (by decide) ?_
      refine r_goto (tgt := 242) dL_isAhead_238 (by decide) ?_
      refine r_aload_n dL_isAhead_242 rfl ?_
      refine r_iload_n dL_isAhead_243 rfl ?_
      refine r_iconst (v := nI 3) dL_isAhead_244 (by decide) ?_
      refine r_callV (As := [.int (nI (k)), .int (nI (3))]) dL_isAhead_245 (fM_isI (v' := (pOf g k 3)) (tZ_sampleOf hA hC (by omega) (by omega)) rfl) rfl hC.1 rfl rfl oX8_sampleOfZ rfl kL_23M nX8_sampleOfZ eX8_sampleOfZ (by unfold fRoom; decide) (Nat.le_of_ble_eq_true rfl) rfl (bc' := 90) (bs' := 540) rfl rfl ?_
      show fR _ _ _ 248 _ (.int (pOf g k 3) :: _) _ _ _ _
      refine r_iconst (v := (-1)) dL_isAhead_248 (by decide) ?_
      refine r_icmp_ne (tgt := 256) dL_isAhead_249 (by decide) (fun c12 => by exact absurd b3 c12) (fun c12 => ?_)
      refine r_iconst (v := nI 1) dL_isAhead_252 (by decide) ?_
      refine r_goto (tgt := 257) dL_isAhead_253 (by decide) ?_
      refine r_icmp_neN (tgt := 274) dL_isAhead_257 (by decide) (by omega) (by omega) (fun c13 => absurd c13 (by omega)) (fun c13 => ?_)
      refine r_aload_n dL_isAhead_260 rfl ?_
      refine r_callS (As := [.ref (ad 254)]) dL_isAhead_261 (fM_look hA hC hL) rfl oL_looks rfl kL_111M sL_looks (by unfold fRoom; decide) (Nat.le_of_ble_eq_true rfl) rfl (bc' := 90) (bs' := 540) rfl rfl ?_
      show fR _ _ _ 264 _ (.long (L0) :: _) _ _ _ _
      refine r_lload dL_isAhead_264 rfl ?_
      refine r_lcmp dL_isAhead_266 ?_
      refine r_top lcmp_same ?_
      refine r_if_neN (tgt := 274) dL_isAhead_267 (by decide) (by omega) (fun c14 => absurd c14 (by omega)) (fun c14 => ?_)
      refine r_iconst (v := nI 1) dL_isAhead_270 (by decide) ?_
      refine r_goto (tgt := 275) dL_isAhead_271 (by decide) ?_
      refine r_istore (lv' := [(11, .int (nI (1))), (12, .int (pWhyNot g i k)), (8, .int ((pDep g i k (nI w) (nI s)))), (7, .int (nI (s))), (6, .int (nI (w))), (4, .long (L0)), (1, .int (nI (i))), (2, .int (nI (k))), (0, .ref (ad 254))]) dL_isAhead_275 (by decide) rfl ?_
      refine r_lv (lv' := [(12, .int (pWhyNot g i k)), (11, .int (nI (1))), (8, .int ((pDep g i k (nI w) (nI s)))), (7, .int (nI (s))), (6, .int (nI (w))), (4, .long (L0)), (1, .int (nI (i))), (2, .int (nI (k))), (0, .ref (ad 254))]) (by simp) ?_
      exact r_bud (bc' := 80) (bs' := 480) (by omega) (by omega) (lL_ah2 hA hC hX hL hi hk w1 w2 s1 s2)
    · skip
      refine r_iload dL_isAhead_231 rfl ?_
      refine r_iconst (v := nI 2) dL_isAhead_233 (by decide) ?_
      refine r_icmp_ne (tgt := 241) dL_isAhead_234 (by decide) (fun c15 => ?_) (fun c15 => by exact absurd c15 (pWhyNot_n2 n1 b3))
      refine r_iconst (v := nI 0) dL_isAhead_241 (by decide) ?_
      refine r_aload_n dL_isAhead_242 rfl ?_
      refine r_iload_n dL_isAhead_243 rfl ?_
      refine r_iconst (v := nI 3) dL_isAhead_244 (by decide) ?_
      refine r_callV (As := [.int (nI (k)), .int (nI (3))]) dL_isAhead_245 (fM_isI (v' := (pOf g k 3)) (tZ_sampleOf hA hC (by omega) (by omega)) rfl) rfl hC.1 rfl rfl oX8_sampleOfZ rfl kL_23M nX8_sampleOfZ eX8_sampleOfZ (by unfold fRoom; decide) (Nat.le_of_ble_eq_true rfl) rfl (bc' := 90) (bs' := 540) rfl rfl ?_
      show fR _ _ _ 248 _ (.int (pOf g k 3) :: _) _ _ _ _
      refine r_iconst (v := (-1)) dL_isAhead_248 (by decide) ?_
      refine r_icmp_ne (tgt := 256) dL_isAhead_249 (by decide) (fun c16 => ?_) (fun c16 => by exact absurd c16 b3)
      refine r_iconst (v := nI 0) dL_isAhead_256 (by decide) ?_
      refine r_icmp_neN (tgt := 274) dL_isAhead_257 (by decide) (by omega) (by omega) (fun c17 => absurd c17 (by omega)) (fun c17 => ?_)
      refine r_aload_n dL_isAhead_260 rfl ?_
      refine r_callS (As := [.ref (ad 254)]) dL_isAhead_261 (fM_look hA hC hL) rfl oL_looks rfl kL_111M sL_looks (by unfold fRoom; decide) (Nat.le_of_ble_eq_true rfl) rfl (bc' := 90) (bs' := 540) rfl rfl ?_
      show fR _ _ _ 264 _ (.long (L0) :: _) _ _ _ _
      refine r_lload dL_isAhead_264 rfl ?_
      refine r_lcmp dL_isAhead_266 ?_
      refine r_top lcmp_same ?_
      refine r_if_neN (tgt := 274) dL_isAhead_267 (by decide) (by omega) (fun c18 => absurd c18 (by omega)) (fun c18 => ?_)
      refine r_iconst (v := nI 1) dL_isAhead_270 (by decide) ?_
      refine r_goto (tgt := 275) dL_isAhead_271 (by decide) ?_
      refine r_istore (lv' := [(11, .int (nI (1))), (12, .int (pWhyNot g i k)), (8, .int ((pDep g i k (nI w) (nI s)))), (7, .int (nI (s))), (6, .int (nI (w))), (4, .long (L0)), (1, .int (nI (i))), (2, .int (nI (k))), (0, .ref (ad 254))]) dL_isAhead_275 (by decide) rfl ?_
      refine r_lv (lv' := [(12, .int (pWhyNot g i k)), (11, .int (nI (1))), (8, .int ((pDep g i k (nI w) (nI s)))), (7, .int (nI (s))), (6, .int (nI (w))), (4, .long (L0)), (1, .int (nI (i))), (2, .int (nI (k))), (0, .ref (ad 254))]) (by simp) ?_
      exact r_bud (bc' := 80) (bs' := 480) (by omega) (by omega) (lL_ah2 hA hC hX hL hi hk w1 w2 s1 s2)
theorem tL_isAhead {l : Launch} {κ : KP} {M : Mem} {ad : Nat → Nat} {g tx : Nat → Int32} {dn n sn ln : Nat} (hA : aInj ad) (hC : ClsAt κ ad M ⟨g, sn, true, tx, ln⟩ dn n) {i k : Nat} {x : Int32} (hX : XI g n) (hi : i < 3) (hk : k < n) : fM l κ mL_isAhead [.ref (ad 254), .int (nI (i)), .int (nI (k)), .int (x)] M (ahP κ ad M g tx ln dn n) := by
  refine fM_of rfl (by decide +kernel) (Nat.le_of_ble_eq_true rfl) ?_
  have hI : BI g dn n := hC.2.2.1
  have hdn := hI.dle
  have hn := hI.nle
  have hsn : sn ≤ 6 := hC.2.1.s6
  obtain ⟨L0, hL⟩ : ∃ L0, lookF g dn n = L0 := ⟨_, rfl⟩
  obtain ⟨h', p', r', ed⟩ := pDep_dN hI hi hk
  have u1 := upN_lt (v := x) (n := 150) (by omega)
  have u2 := upN_lt (v := shR x 5) (n := 59) (by omega)
  have u3 := upN_lt (v := shR x 3) (n := 400) (by omega)
  have d0 : ∀ w s, ¬ pDep g i k w s < 0 := fun w s => by obtain ⟨y, hy, e⟩ := pDep_nI (f := g) (nd := i) (k := k) (w := w) (s := s); rw [e]; exact nI_pos (by omega)
  have d4 : ∀ w s, ¬ nI 400 < pDep g i k w s := fun w s => by obtain ⟨y, hy, e⟩ := pDep_nI (f := g) (nd := i) (k := k) (w := w) (s := s); rw [e]; exact nI_nlt hy (by omega)
  have dm : ∀ w s w' s', w ≤ w' → s ≤ s' → w' ≤ 200 → s' ≤ 60 → ¬ pDep g i k (nI w') (nI s') < pDep g i k (nI w) (nI s) := fun w s w' s' a b c d => by rw [ed _ _ (by omega) (by omega), ed _ _ (by omega) (by omega)]; exact nI_nlt (dN_mono a b) (Nat.lt_of_le_of_lt dN_le (by omega))
  show fR l κ mL_isAhead 0 [(0, .ref (ad 254)), (1, .int (nI (i))), (2, .int (nI (k))), (3, .int (x))] [] M 90 540 _
  refine r_aload_n dL_isAhead_0 rfl ?_
  refine r_callS (As := [.ref (ad 254)]) dL_isAhead_1 (fM_look hA hC hL) rfl oL_looks rfl kL_111M sL_looks (by unfold fRoom; decide) (Nat.le_of_ble_eq_true rfl) rfl (bc' := 90) (bs' := 540) rfl rfl ?_
  show fR _ _ _ 4 _ (.long (L0) :: _) _ _ _ _
  refine r_lstore (lv' := [(4, .long (L0)), (0, .ref (ad 254)), (1, .int (nI (i))), (2, .int (nI (k))), (3, .int (x))]) dL_isAhead_4 (by decide) rfl ?_
  refine r_bipush (v := nI 50) dL_isAhead_6 (by decide) ?_
  refine r_iload_n dL_isAhead_8 rfl ?_
  refine r_sipush (v := nI 150) dL_isAhead_9 (by decide) ?_
  refine r_callS (As := [.int (x), .int (nI (150))]) dL_isAhead_12 (tL_up (v := x) (by omega) (by omega)) rfl oL_up rfl kL_39M sL_up (by unfold fRoom; decide) (Nat.le_of_ble_eq_true rfl) rfl (bc' := 90) (bs' := 540) rfl rfl ?_
  show fR _ _ _ 15 _ (.int (nI ((upN x 150))) :: _) _ _ _ _
  have u1 := upN_lt (v := x) (n := 150) (by omega)
  refine r_iaddN dL_isAhead_15 ?_
  refine r_istore (lv' := [(6, .int (nI ((50 + (upN x 150))))), (4, .long (L0)), (0, .ref (ad 254)), (1, .int (nI (i))), (2, .int (nI (k))), (3, .int (x))]) dL_isAhead_16 (by decide) rfl ?_
  refine r_iconst (v := nI 1) dL_isAhead_18 (by decide) ?_
  refine r_iload_n dL_isAhead_19 rfl ?_
  refine r_iconst (v := nI 5) dL_isAhead_20 (by decide) ?_
  refine r_ishr dL_isAhead_21 ?_
  refine r_bipush (v := nI 59) dL_isAhead_22 (by decide) ?_
  refine r_callS (As := [.int (((x) >>> ((nI (5)) &&& 31))), .int (nI (59))]) dL_isAhead_24 (tL_up (v := (shR x 5)) (by omega) (by omega)) rfl oL_up rfl kL_39M sL_up (by unfold fRoom; decide) (Nat.le_of_ble_eq_true rfl) rfl (bc' := 90) (bs' := 540) rfl rfl ?_
  show fR _ _ _ 27 _ (.int (nI ((upN (shR x 5) 59))) :: _) _ _ _ _
  have u2 := upN_lt (v := (shR x 5)) (n := 59) (by omega)
  refine r_iaddN dL_isAhead_27 ?_
  refine r_istore (lv' := [(7, .int (nI ((1 + (upN (shR x 5) 59))))), (6, .int (nI ((50 + (upN x 150))))), (4, .long (L0)), (0, .ref (ad 254)), (1, .int (nI (i))), (2, .int (nI (k))), (3, .int (x))]) dL_isAhead_28 (by decide) rfl ?_
  refine r_aload_n dL_isAhead_30 rfl ?_
  refine r_iload_n dL_isAhead_31 rfl ?_
  refine r_iload_n dL_isAhead_32 rfl ?_
  refine r_iload dL_isAhead_33 rfl ?_
  refine r_iload dL_isAhead_35 rfl ?_
  refine r_callV (As := [.int (nI (i)), .int (nI (k)), .int (nI ((50 + (upN x 150)))), .int (nI ((1 + (upN (shR x 5) 59))))]) dL_isAhead_37 (fM_isI (v' := (pDep g i k (nI (50 + (upN x 150))) (nI (1 + (upN (shR x 5) 59))))) (tZ_ifSunk hA hC (by omega) (by omega) (by omega) (by omega) (by omega) (by omega)) rfl) rfl hC.1 rfl rfl oX8_ifSunkZ rfl kL_115M nX8_ifSunkZ eX8_ifSunkZ (by unfold fRoom; decide) (Nat.le_of_ble_eq_true rfl) rfl (bc' := 90) (bs' := 540) rfl rfl ?_
  show fR _ _ _ 40 _ (.int (pDep g i k (nI (50 + (upN x 150))) (nI (1 + (upN (shR x 5) 59)))) :: _) _ _ _ _
  refine r_istore (lv' := [(8, .int (pDep g i k (nI (50 + (upN x 150))) (nI (1 + (upN (shR x 5) 59))))), (7, .int (nI ((1 + (upN (shR x 5) 59))))), (6, .int (nI ((50 + (upN x 150))))), (4, .long (L0)), (0, .ref (ad 254)), (1, .int (nI (i))), (2, .int (nI (k))), (3, .int (x))]) dL_isAhead_40 (by decide) rfl ?_
  refine r_iconst (v := nI 1) dL_isAhead_42 (by decide) ?_
  refine r_iload_n dL_isAhead_43 rfl ?_
  refine r_iconst (v := nI 3) dL_isAhead_44 (by decide) ?_
  refine r_ishr dL_isAhead_45 ?_
  refine r_sipush (v := nI 400) dL_isAhead_46 (by decide) ?_
  refine r_callS (As := [.int (((x) >>> ((nI (3)) &&& 31))), .int (nI (400))]) dL_isAhead_49 (tL_up (v := (shR x 3)) (by omega) (by omega)) rfl oL_up rfl kL_39M sL_up (by unfold fRoom; decide) (Nat.le_of_ble_eq_true rfl) rfl (bc' := 90) (bs' := 540) rfl rfl ?_
  show fR _ _ _ 52 _ (.int (nI ((upN (shR x 3) 400))) :: _) _ _ _ _
  have u3 := upN_lt (v := (shR x 3)) (n := 400) (by omega)
  refine r_iaddN dL_isAhead_52 ?_
  refine r_istore (lv' := [(9, .int (nI ((1 + (upN (shR x 3) 400))))), (8, .int (pDep g i k (nI (50 + (upN x 150))) (nI (1 + (upN (shR x 5) 59))))), (7, .int (nI ((1 + (upN (shR x 5) 59))))), (6, .int (nI ((50 + (upN x 150))))), (4, .long (L0)), (0, .ref (ad 254)), (1, .int (nI (i))), (2, .int (nI (k))), (3, .int (x))]) dL_isAhead_53 (by decide) rfl ?_
  refine r_aload_n dL_isAhead_55 rfl ?_
  refine r_iload_n dL_isAhead_56 rfl ?_
  refine r_iload_n dL_isAhead_57 rfl ?_
  refine r_iload dL_isAhead_58 rfl ?_
  refine r_iload dL_isAhead_60 rfl ?_
  refine r_callV (As := [.int (nI (i)), .int (nI (k)), .int (nI ((50 + (upN x 150)))), .int (nI ((1 + (upN (shR x 3) 400))))]) dL_isAhead_62 (fM_isI (v' := (pSec g i k (nI (50 + (upN x 150))) (nI (1 + (upN (shR x 3) 400))) 60 1)) (tZ_secondsTo hA hC (by omega) (by omega) (by omega) (by omega) (by omega) (by omega)) rfl) rfl hC.1 rfl rfl oX8_secondsToZ rfl kL_118M nX8_secondsToZ eX8_secondsToZ (by unfold fRoom; decide) (Nat.le_of_ble_eq_true rfl) rfl (bc' := 90) (bs' := 540) rfl rfl ?_
  show fR _ _ _ 65 _ (.int (pSec g i k (nI (50 + (upN x 150))) (nI (1 + (upN (shR x 3) 400))) 60 1) :: _) _ _ _ _
  refine r_istore (lv' := [(10, .int (pSec g i k (nI (50 + (upN x 150))) (nI (1 + (upN (shR x 3) 400))) 60 1)), (9, .int (nI ((1 + (upN (shR x 3) 400))))), (8, .int (pDep g i k (nI (50 + (upN x 150))) (nI (1 + (upN (shR x 5) 59))))), (7, .int (nI ((1 + (upN (shR x 5) 59))))), (6, .int (nI ((50 + (upN x 150))))), (4, .long (L0)), (0, .ref (ad 254)), (1, .int (nI (i))), (2, .int (nI (k))), (3, .int (x))]) dL_isAhead_65 (by decide) rfl ?_
  refine r_iload dL_isAhead_67 rfl ?_
  refine r_if_lt (tgt := 180) dL_isAhead_69 (by decide) (fun c4 => by exact absurd c4 (d0 _ _)) (fun c4 => ?_)
  refine r_iload dL_isAhead_72 rfl ?_
  refine r_sipush (v := nI 400) dL_isAhead_74 (by decide) ?_
  refine r_icmp_gt (tgt := 180) dL_isAhead_77 (by decide) (fun c5 => by exact absurd c5 (d4 _ _)) (fun c5 => ?_)
  refine r_aload_n dL_isAhead_80 rfl ?_
  refine r_iload_n dL_isAhead_81 rfl ?_
  refine r_iload_n dL_isAhead_82 rfl ?_
  refine r_iload dL_isAhead_83 rfl ?_
  refine r_iconst (v := nI 1) dL_isAhead_85 (by decide) ?_
  refine r_iaddN dL_isAhead_86 ?_
  refine r_iload dL_isAhead_87 rfl ?_
  refine r_callV (As := [.int (nI (i)), .int (nI (k)), .int (nI (((50 + (upN x 150)) + 1))), .int (nI ((1 + (upN (shR x 5) 59))))]) dL_isAhead_89 (fM_isI (v' := (pDep g i k (nI ((50 + (upN x 150)) + 1)) (nI (1 + (upN (shR x 5) 59))))) (tZ_ifSunk hA hC (by omega) (by omega) (by omega) (by omega) (by omega) (by omega)) rfl) rfl hC.1 rfl rfl oX8_ifSunkZ rfl kL_115M nX8_ifSunkZ eX8_ifSunkZ (by unfold fRoom; decide) (Nat.le_of_ble_eq_true rfl) rfl (bc' := 90) (bs' := 540) rfl rfl ?_
  show fR _ _ _ 92 _ (.int (pDep g i k (nI ((50 + (upN x 150)) + 1)) (nI (1 + (upN (shR x 5) 59)))) :: _) _ _ _ _
  refine r_iload dL_isAhead_92 rfl ?_
  refine r_icmp_lt (tgt := 180) dL_isAhead_94 (by decide) (fun c6 => by exact absurd c6 (dm _ _ _ _ (by omega) (by omega) (by omega) (by omega))) (fun c6 => ?_)
  refine r_aload_n dL_isAhead_97 rfl ?_
  refine r_iload_n dL_isAhead_98 rfl ?_
  refine r_iload_n dL_isAhead_99 rfl ?_
  refine r_iload dL_isAhead_100 rfl ?_
  refine r_iload dL_isAhead_102 rfl ?_
  refine r_iconst (v := nI 1) dL_isAhead_104 (by decide) ?_
  refine r_iaddN dL_isAhead_105 ?_
  refine r_callV (As := [.int (nI (i)), .int (nI (k)), .int (nI ((50 + (upN x 150)))), .int (nI (((1 + (upN (shR x 5) 59)) + 1)))]) dL_isAhead_106 (fM_isI (v' := (pDep g i k (nI (50 + (upN x 150))) (nI ((1 + (upN (shR x 5) 59)) + 1)))) (tZ_ifSunk hA hC (by omega) (by omega) (by omega) (by omega) (by omega) (by omega)) rfl) rfl hC.1 rfl rfl oX8_ifSunkZ rfl kL_115M nX8_ifSunkZ eX8_ifSunkZ (by unfold fRoom; decide) (Nat.le_of_ble_eq_true rfl) rfl (bc' := 90) (bs' := 540) rfl rfl ?_
  show fR _ _ _ 109 _ (.int (pDep g i k (nI (50 + (upN x 150))) (nI ((1 + (upN (shR x 5) 59)) + 1))) :: _) _ _ _ _
  refine r_iload dL_isAhead_109 rfl ?_
  refine r_icmp_lt (tgt := 180) dL_isAhead_111 (by decide) (fun c7 => by exact absurd c7 (dm _ _ _ _ (by omega) (by omega) (by omega) (by omega))) (fun c7 => ?_)
  by_cases tc : pSec g i k (nI (50 + (upN x 150))) (nI (1 + (upN (shR x 3) 400))) 60 1 = -1
  · skip
    have h60 := (pSec_at (g := g) (i := i) (k := k) (w := nI (50 + (upN x 150))) (dp := nI (1 + (upN (shR x 3) 400)))).resolve_right (fun ⟨t, a, b, e, _⟩ => absurd (e.symm.trans tc) (nI_m1 (by omega)))
    refine r_iload dL_isAhead_114 rfl ?_
    refine r_iconst (v := (-1)) dL_isAhead_116 (by decide) ?_
    refine r_icmp_ne (tgt := 138) dL_isAhead_117 (by decide) (fun c8 => by exact absurd tc c8) (fun c8 => ?_)
    refine r_aload_n dL_isAhead_120 rfl ?_
    refine r_iload_n dL_isAhead_121 rfl ?_
    refine r_iload_n dL_isAhead_122 rfl ?_
    refine r_iload dL_isAhead_123 rfl ?_
    refine r_bipush (v := nI 60) dL_isAhead_125 (by decide) ?_
    refine r_callV (As := [.int (nI (i)), .int (nI (k)), .int (nI ((50 + (upN x 150)))), .int (nI (60))]) dL_isAhead_127 (fM_isI (v' := (pDep g i k (nI (50 + (upN x 150))) (nI 60))) (tZ_ifSunk hA hC (by omega) (by omega) (by omega) (by omega) (by omega) (by omega)) rfl) rfl hC.1 rfl rfl oX8_ifSunkZ rfl kL_115M nX8_ifSunkZ eX8_ifSunkZ (by unfold fRoom; decide) (Nat.le_of_ble_eq_true rfl) rfl (bc' := 90) (bs' := 540) rfl rfl ?_
    show fR _ _ _ 130 _ (.int (pDep g i k (nI (50 + (upN x 150))) (nI 60)) :: _) _ _ _ _
    refine r_iload dL_isAhead_130 rfl ?_
    refine r_icmp_ge (tgt := 180) dL_isAhead_132 (by decide) (fun c9 => by exact absurd c9 (Int32.not_le.mpr h60.2)) (fun c9 => ?_)
    refine r_goto (tgt := 176) dL_isAhead_135 (by decide) ?_
    refine r_iconst (v := nI 1) dL_isAhead_176 (by decide) ?_
    refine r_goto (tgt := 181) dL_isAhead_177 (by decide) ?_
    refine r_istore (lv' := [(11, .int (nI (1))), (10, .int (pSec g i k (nI (50 + (upN x 150))) (nI (1 + (upN (shR x 3) 400))) 60 1)), (9, .int (nI ((1 + (upN (shR x 3) 400))))), (8, .int (pDep g i k (nI (50 + (upN x 150))) (nI (1 + (upN (shR x 5) 59))))), (7, .int (nI ((1 + (upN (shR x 5) 59))))), (6, .int (nI ((50 + (upN x 150))))), (4, .long (L0)), (0, .ref (ad 254)), (1, .int (nI (i))), (2, .int (nI (k))), (3, .int (x))]) dL_isAhead_181 (by decide) rfl ?_
    refine r_lv (lv' := [(11, .int (nI (1))), (8, .int (pDep g i k (nI (50 + (upN x 150))) (nI (1 + (upN (shR x 5) 59))))), (7, .int (nI ((1 + (upN (shR x 5) 59))))), (6, .int (nI ((50 + (upN x 150))))), (4, .long (L0)), (1, .int (nI (i))), (2, .int (nI (k))), (0, .ref (ad 254))]) (by simp) ?_
    exact lL_ah1b hA hC hX hL hi hk (by omega) (by omega) (by omega) (by omega)
  · skip
    obtain ⟨t, t1, t2, et, t3, t4⟩ := (pSec_at (g := g) (i := i) (k := k) (w := nI (50 + (upN x 150))) (dp := nI (1 + (upN (shR x 3) 400)))).resolve_left (fun q => tc q.1)
    refine r_iload dL_isAhead_114 rfl ?_
    refine r_iconst (v := (-1)) dL_isAhead_116 (by decide) ?_
    refine r_icmp_ne (tgt := 138) dL_isAhead_117 (by decide) (fun c10 => ?_) (fun c10 => by exact absurd c10 tc)
    rw [et]
    refine r_aload_n dL_isAhead_138 rfl ?_
    refine r_iload_n dL_isAhead_139 rfl ?_
    refine r_iload_n dL_isAhead_140 rfl ?_
    refine r_iload dL_isAhead_141 rfl ?_
    refine r_iload dL_isAhead_143 rfl ?_
    refine r_callV (As := [.int (nI (i)), .int (nI (k)), .int (nI ((50 + (upN x 150)))), .int (nI (t))]) dL_isAhead_145 (fM_isI (v' := (pDep g i k (nI (50 + (upN x 150))) (nI t))) (tZ_ifSunk hA hC (by omega) (by omega) (by omega) (by omega) (by omega) (by omega)) rfl) rfl hC.1 rfl rfl oX8_ifSunkZ rfl kL_115M nX8_ifSunkZ eX8_ifSunkZ (by unfold fRoom; decide) (Nat.le_of_ble_eq_true rfl) rfl (bc' := 90) (bs' := 540) rfl rfl ?_
    show fR _ _ _ 148 _ (.int (pDep g i k (nI (50 + (upN x 150))) (nI t)) :: _) _ _ _ _
    refine r_iload dL_isAhead_148 rfl ?_
    refine r_icmp_lt (tgt := 180) dL_isAhead_150 (by decide) (fun c11 => by exact absurd c11 (Int32.not_lt.mpr t3)) (fun c11 => ?_)
    refine r_iload dL_isAhead_153 rfl ?_
    refine r_iconst (v := nI 1) dL_isAhead_155 (by decide) ?_
    refine r_icmp_eqN (tgt := 176) dL_isAhead_156 (by decide) (by omega) (by omega) (fun c12 => ?_) (fun c12 => ?_)
    · skip
      refine r_iconst (v := nI 1) dL_isAhead_176 (by decide) ?_
      refine r_goto (tgt := 181) dL_isAhead_177 (by decide) ?_
      refine r_istore (lv' := [(11, .int (nI (1))), (10, .int (nI (t))), (9, .int (nI ((1 + (upN (shR x 3) 400))))), (8, .int (pDep g i k (nI (50 + (upN x 150))) (nI (1 + (upN (shR x 5) 59))))), (7, .int (nI ((1 + (upN (shR x 5) 59))))), (6, .int (nI ((50 + (upN x 150))))), (4, .long (L0)), (0, .ref (ad 254)), (1, .int (nI (i))), (2, .int (nI (k))), (3, .int (x))]) dL_isAhead_181 (by decide) rfl ?_
      refine r_lv (lv' := [(11, .int (nI (1))), (8, .int (pDep g i k (nI (50 + (upN x 150))) (nI (1 + (upN (shR x 5) 59))))), (7, .int (nI ((1 + (upN (shR x 5) 59))))), (6, .int (nI ((50 + (upN x 150))))), (4, .long (L0)), (1, .int (nI (i))), (2, .int (nI (k))), (0, .ref (ad 254))]) (by simp) ?_
      exact lL_ah1b hA hC hX hL hi hk (by omega) (by omega) (by omega) (by omega)
    · skip
      refine r_aload_n dL_isAhead_159 rfl ?_
      refine r_iload_n dL_isAhead_160 rfl ?_
      refine r_iload_n dL_isAhead_161 rfl ?_
      refine r_iload dL_isAhead_162 rfl ?_
      refine r_iload dL_isAhead_164 rfl ?_
      refine r_iconst (v := nI 1) dL_isAhead_166 (by decide) ?_
      refine r_isubN dL_isAhead_167 (by omega) ?_
      refine r_callV (As := [.int (nI (i)), .int (nI (k)), .int (nI ((50 + (upN x 150)))), .int (nI ((t - 1)))]) dL_isAhead_168 (fM_isI (v' := (pDep g i k (nI (50 + (upN x 150))) (nI (t - 1)))) (tZ_ifSunk hA hC (by omega) (by omega) (by omega) (by omega) (by omega) (by omega)) rfl) rfl hC.1 rfl rfl oX8_ifSunkZ rfl kL_115M nX8_ifSunkZ eX8_ifSunkZ (by unfold fRoom; decide) (Nat.le_of_ble_eq_true rfl) rfl (bc' := 90) (bs' := 540) rfl rfl ?_
      show fR _ _ _ 171 _ (.int (pDep g i k (nI (50 + (upN x 150))) (nI (t - 1))) :: _) _ _ _ _
      refine r_iload dL_isAhead_171 rfl ?_
      refine r_icmp_ge (tgt := 180) dL_isAhead_173 (by decide) (fun c13 => by exact absurd c13 (Int32.not_le.mpr (t4.resolve_left (by omega)))) (fun c13 => ?_)
      refine r_iconst (v := nI 1) dL_isAhead_176 (by decide) ?_
      refine r_goto (tgt := 181) dL_isAhead_177 (by decide) ?_
      refine r_istore (lv' := [(11, .int (nI (1))), (10, .int (nI (t))), (9, .int (nI ((1 + (upN (shR x 3) 400))))), (8, .int (pDep g i k (nI (50 + (upN x 150))) (nI (1 + (upN (shR x 5) 59))))), (7, .int (nI ((1 + (upN (shR x 5) 59))))), (6, .int (nI ((50 + (upN x 150))))), (4, .long (L0)), (0, .ref (ad 254)), (1, .int (nI (i))), (2, .int (nI (k))), (3, .int (x))]) dL_isAhead_181 (by decide) rfl ?_
      refine r_lv (lv' := [(11, .int (nI (1))), (8, .int (pDep g i k (nI (50 + (upN x 150))) (nI (1 + (upN (shR x 5) 59))))), (7, .int (nI ((1 + (upN (shR x 5) 59))))), (6, .int (nI ((50 + (upN x 150))))), (4, .long (L0)), (1, .int (nI (i))), (2, .int (nI (k))), (0, .ref (ad 254))]) (by simp) ?_
      exact lL_ah1b hA hC hX hL hi hk (by omega) (by omega) (by omega) (by omega)
