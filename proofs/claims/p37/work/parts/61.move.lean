/-! THE CLASS'S MOVERS -/
section Far
variable {f f' g : Nat → Int32} {dn n : Nat}
theorem far_age {x : Int32} (hd : dn ≤ 6) : ∀ d, d ≤ dn → ∀ j, 376 ≤ j → j < 3008 → pAgeG g x d j = g j
  | 0, _, _, _, _ => rfl
  | d + 1, h, j, h1, h2 => by
    show upd (pAgeG g x d) _ _ j = g j
    rw [pk_un (by omega)]; exact far_age hd d (by omega) j h1 h2
theorem far_take {d : Nat} (hI : BI g dn n) (hd : d < dn) (hn : n < 8) : ∀ j, 376 ≤ j → j < 3008 → pTake g n d j = g j := fun j h1 h2 => by
  rw [pTake_eq hI hd]; unfold tk6
  rw [pk_un (by omega), pk_un (by omega), pk_un (by omega), pk_un (by omega), pk_un (by omega), pk_un (by omega), pk_un (by omega)]
theorem far_toss {k : Nat} (hn : n ≤ 8) (hk : k < n) : ∀ j, 376 ≤ j → j < 3008 → pToss g n k j = g j := fun j h1 h2 => by
  unfold pToss pTossK; rw [if_neg (by omega), pk_un (by omega)]
theorem far_step : ∀ k, k ≤ 8 → ∀ j, 376 ≤ j → pStep g k j = g j
  | 0, _, _, _ => rfl
  | k + 1, h, j, h1 => by
    show upd (pStep g k) _ _ j = g j
    rw [pk_un (by omega)]; exact far_step k (by omega) j h1
theorem far_pass (hn : n ≤ 8) : ∀ i j, 376 ≤ j → pPass g n i j = g j
  | 0, _, _ => rfl
  | i + 1, j, h => by
    show pStep (pPass g n i) n j = g j
    rw [far_step n hn j h]; exact far_pass hn i j h
theorem far_passT {q : Nat} (hn : n ≤ 8) : ∀ j, 376 ≤ j → j < 3008 → pPassT g n q j = g j := fun j h1 h2 => by
  unfold pPassT; rw [pk_un (by omega)]; exact far_pass hn q j h1
theorem far_sink {nd k : Nat} {w s : Int32} (hk : k < 8) (hnd : nd < 3) (h9 : pMany g k < 9) : ∀ j, 376 ≤ j → j < 3008 → pSink g nd k w s j = g j := fun j h1 h2 => by
  rw [pSink_eq]
  rw [pk_un (by omega)]; unfold sk5; rw [pk_un (by omega)]; unfold sk4; rw [pk_un (by omega)]; unfold sk3; rw [pk_un (by omega)]; unfold sk2; rw [pk_un (by omega)]; unfold sk1; rw [pk_un (by omega), pk_un (by omega), pk_un (by omega), pk_un (by omega)]
theorem far_ring {k : Nat} (hk : k < 8) : ∀ j, 376 ≤ j → j < 3008 → pRing g k j = g j := fun j h1 h2 => by
  unfold pRing; split
  · rw [pk_un (by omega)]
  · rfl
theorem pLat_congr {k a w : Nat} (e : ∀ w, w < 42 → pOf f' k w = pOf f k w) (h9 : pMany f k ≤ 9) (hw : w < 4) : pLat f' k a w = pLat f k a w := by
  have em : pMany f' k = pMany f k := by unfold pMany; rw [e 5 (by omega)]
  unfold pLat; rw [em]; exact e _ (by omega)
theorem pWhy_congr {k : Nat} (e : ∀ w, w < 42 → pOf f' k w = pOf f k w) (e6 : f' 6 = f 6) (h9 : pMany f k ≤ 9) : pWhy f' k = pWhy f k := by
  have em : pMany f' k = pMany f k := by unfold pMany; rw [e 5 (by omega)]
  have ea : ∀ a, pAre f' k a = pAre f k a := fun a => by
    induction a with
    | zero => rfl
    | succ a ih => unfold pAre; rw [ih, pLat_congr e h9 (by omega), pLat_congr e h9 (by omega)]
  have el : ∀ a, pLeast f' k a = pLeast f k a := fun a => by
    induction a with
    | zero => rfl
    | succ a ih => unfold pLeast; rw [ih, pLat_congr e h9 (by omega)]
  have eo : ∀ a, pMost f' k a = pMost f k a := fun a => by
    induction a with
    | zero => rfl
    | succ a ih => unfold pMost; rw [ih, pLat_congr e h9 (by omega)]
  unfold pWhy; rw [em, ea, el, eo, e6]
theorem pPen_congr {k : Nat} (e : ∀ w, w < 42 → pOf f' k w = pOf f k w) (e6 : f' 6 = f 6) (h9 : pMany f k ≤ 9) : pPen f' k = pPen f k := by
  unfold pPen; rw [pWhy_congr e e6 h9, pLat_congr e h9 (by omega), pLat_congr e h9 (by omega), pLat_congr e h9 (by omega)]
theorem pTold_congr {k : Nat} {q : Bool} (e : ∀ w, w < 42 → pOf f' k w = pOf f k w) (e6 : f' 6 = f 6) (h9 : pMany f k ≤ 9) : pTold f' k q = pTold f k q := by
  unfold pTold; rw [pPen_congr e e6 h9, e 4 (by omega)]
theorem pIs_congr {k d : Nat} {q : Bool} (e : ∀ w, w < 42 → pOf f' k w = pOf f k w) (e6 : f' 6 = f 6) (h9 : pMany f k ≤ 9) : pIs f' d q k ↔ pIs f d q k := by
  unfold pIs; rw [pTold_congr e e6 h9, e 0 (by omega)]
theorem pNum_congr {d : Nat} {q : Bool} (hI : BI f dn n) (e : ∀ j, j < 376 → f' j = f j) : ∀ k, k ≤ n → pNum f' d q k = pNum f d q k
  | 0, _ => rfl
  | k + 1, h => by
    have hn := hI.nle
    have ek : ∀ w, w < 42 → pOf f' k w = pOf f k w := fun w hw => e _ (by omega)
    have i := pNum_congr (d := d) (q := q) hI e k (by omega)
    by_cases hp : pIs f d q k
    · rw [← pNum_t hp, ← pNum_t ((pIs_congr ek (e 6 (by omega)) (hI.k9 k h)).mpr hp), i]
    · rw [← pNum_f hp, ← pNum_f (fun z => hp ((pIs_congr ek (e 6 (by omega)) (hI.k9 k h)).mp z)), i]
theorem pWhyS_vals {d : Nat} : pWhyS g n d = nI 15 ∨ pWhyS g n d = nI 9 ∨ pWhyS g n d = nI 10 ∨ pWhyS g n d = nI 11 ∨ pWhyS g n d = nI 12 ∨ pWhyS g n d = nI 0 := by
  unfold pWhyS
  repeat' split
  all_goals simp
theorem pWhyS_z {d : Nat} : pWhyS g n d ≤ 0 ↔ pWhyS g n d = nI 0 := by
  rcases pWhyS_vals (g := g) (n := n) (d := d) with h | h | h | h | h | h <;> rw [h] <;> decide
theorem pWhyS_13 {d : Nat} : ¬ pWhyS g n d = nI 13 := by
  rcases pWhyS_vals (g := g) (n := n) (d := d) with h | h | h | h | h | h <;> rw [h] <;> decide
theorem pWhyNot_vals {nd k : Nat} : pWhyNot g nd k = nI 1 ∨ pWhyNot g nd k = nI 2 ∨ pWhyNot g nd k = nI 3 ∨ pWhyNot g nd k = nI 4 ∨ pWhyNot g nd k = nI 0 := by
  unfold pWhyNot
  repeat' split
  all_goals simp
theorem pWhyNot_z {nd k : Nat} : pWhyNot g nd k ≤ 0 ↔ pWhyNot g nd k = nI 0 := by
  rcases pWhyNot_vals (g := g) (nd := nd) (k := k) with h | h | h | h | h <;> rw [h] <;> decide
theorem pWhyNot_13 {nd k : Nat} : ¬ pWhyNot g nd k = nI 13 := by
  rcases pWhyNot_vals (g := g) (nd := nd) (k := k) with h | h | h | h | h <;> rw [h] <;> decide
theorem pMany_save {sn k : Nat} (hk : k < 8) : pMany (pSave g sn) k = pMany g k := by unfold pMany; rw [pOf_save (by omega)]
theorem cRing_eq {k : Nat} : cRing (pOf g k 1) (pOf g k 5) = pRingV g k := by
  unfold cRing pRingV
  generalize nI 300 + nI 12 * pOf g k 1 - nI 5 * pOf g k 5 = E
  by_cases h : E < nI 250
  · rw [if_pos h, if_neg (by rw [i32_lt] at h ⊢; omega)]
  · rw [if_neg h]
    by_cases h2 : nI 250 < E
    · rw [if_pos h2]
    · rw [if_neg h2]; rw [i32_lt] at h h2; exact i32_ext (by omega)
end Far
theorem tX8_drum {l : Launch} {κ : KP} {M : Mem} {ad : Nat → Nat} {g tx : Nat → Int32} {dn n sn ln : Nat} {kp : Bool} (hA : aInj ad) (hC : ClsAt κ ad M ⟨g, sn, kp, tx, ln⟩ dn n) {p0 : Int32} : fM l κ mX8_drum [.ref (ad 254), .int (p0)] M (cPost κ ad M ["java/lang/IllegalArgumentException", "java/lang/IllegalStateException"] (oDrum ⟨g, sn, kp, tx, ln⟩ dn n p0)) := by
  refine fM_of rfl (by decide +kernel) (Nat.le_of_ble_eq_true rfl) ?_
  obtain ⟨hX, hS, hI, hT, ch, hTX⟩ := id hC
  replace hS : LabsAt ad M g sn kp dn n := hS
  replace hI : BI g dn n := hI
  replace hT : TextAt κ ad M tx ln := hT
  replace hTX : TX tx ln ch := hTX
  obtain ⟨π, h0⟩ := hS.main
  have hs6 := hS.s6
  obtain ⟨fD, hfD, hvD⟩ := h0.drs
  obtain ⟨fS, hfS, hvS⟩ := h0.sps
  obtain ⟨fN, hfN, hvN⟩ := h0.nds
  obtain ⟨fG, hfG, hvG⟩ := h0.dgs
  obtain ⟨fT, hfT, hvT⟩ := h0.sts
  have hdn := h0.dl
  have hn := h0.nl
  show fR l κ mX8_drum 0 [(0, .ref (ad 254)), (1, .int (p0))] [] M 2 12 _
  refine r_iload_n dX8_drum_0 rfl ?_
  refine r_bipush (v := nI 20) dX8_drum_1 (by decide) ?_
  refine r_sipush (v := nI 300) dX8_drum_3 (by decide) ?_
  by_cases c1 : pIn p0 ((nI (20))) ((nI (300))) = true
  · skip
    refine r_callS (As := [.int (p0), .int (nI (20)), .int (nI (300))]) dX8_drum_6 (tX8_mindRange_t c1) rfl oX8_mindRange rfl kX8_30M sX8_mindRange (by unfold fRoom; decide) (Nat.le_of_ble_eq_true rfl) rfl (bc' := 1) (bs' := 6) rfl rfl ?_
    show fR _ _ _ 9 _ _ _ _ _ _
    refine r_aload_n dX8_drum_9 rfl ?_
    refine r_get (k := 0) dX8_drum_10 hX rfl rfl (by decide) kX8_10F ?_
    refine r_get (k := 5) dX8_drum_13 h0.lab rfl rfl (by decide) kX8_34F ?_
    refine r_bipush (v := nI 6) dX8_drum_16 (by decide) ?_
    refine r_icmp_geN (tgt := 25) dX8_drum_18 (by decide) (by omega) (by omega) (fun c2 => ?_) (fun c2 => ?_)
    · skip
      refine r_bipush (v := nI 14) dX8_drum_25 (by decide) ?_
      exact r_callSX (As := [.int (nI (14))]) dX8_drum_27 (tX8_refuse_x (by decide) (by decide)) rfl oX8_refuseFor rfl kX8_38M sX8_refuseFor (by unfold fRoom; decide) (Nat.le_of_ble_eq_true rfl) rfl (cPost_x (t := 1) hC (by unfold oDrum; (repeat (first | (first | rw [if_pos (by first | assumption | exact Int32.not_le.mp (by assumption) | exact Int32.not_lt.mp (by assumption) | omega)] | rw [if_neg (by first | assumption | exact Int32.not_lt.mpr (by assumption) | exact Int32.not_le.mpr (by assumption) | exact bne_of (by assumption) | exact not_not_intro (by assumption) | omega)]) | rw [if_pos rfl])); first | done | rfl) rfl)
    · skip
      refine r_iconst (v := nI 0) dX8_drum_21 (by decide) ?_
      refine r_goto (tgt := 27) dX8_drum_22 (by decide) ?_
      refine r_callS (As := [.int (nI (0))]) dX8_drum_27 (tX8_refuse_0 rfl) rfl oX8_refuseFor rfl kX8_38M sX8_refuseFor (by unfold fRoom; decide) (Nat.le_of_ble_eq_true rfl) rfl (bc' := 0) (bs' := 0) rfl rfl ?_
      show fR _ _ _ 30 _ _ _ _ _ _
      refine r_aload_n dX8_drum_30 rfl ?_
      refine r_get (k := 1) dX8_drum_31 hX rfl rfl (by decide) kX8_19F ?_
      refine r_aload_n dX8_drum_34 rfl ?_
      refine r_get (k := 0) dX8_drum_35 hX rfl rfl (by decide) kX8_10F ?_
      refine r_callVP (As := [.ref (ad 0)]) dX8_drum_38 (tX1_save hA hS hI) rfl hS.hist rfl rfl oX1_save rfl kX8_42M nX1_save eX1_save (by unfold fRoom; decide) (Nat.le_of_ble_eq_true rfl) rfl (bc' := 0) (bs' := 0) rfl rfl (fun E M9 h => by cases h.1) (fun v M1 hq => ?_)
      obtain ⟨hv1, hS1, hO1⟩ := hq
      cases hv1
      have hI1 := hI.save sn
      have hX1 := (hO1.at hA (by omega) (by omega) (by omega) (by omega)).trans hX
      obtain ⟨π1, h1⟩ := hS1.main
      obtain ⟨fD1, hfD1, hvD1⟩ := h1.drs
      obtain ⟨fS1, hfS1, hvS1⟩ := h1.sps
      obtain ⟨fN1, hfN1, hvN1⟩ := h1.nds
      obtain ⟨fG1, hfG1, hvG1⟩ := h1.dgs
      obtain ⟨fT1, hfT1, hvT1⟩ := h1.sts
      have hdn := h1.dl
      have hn := h1.nl
      show fR _ _ _ 41 _ _ _ _ _ _
      refine r_aload_n dX8_drum_41 rfl ?_
      refine r_get (k := 0) dX8_drum_42 hX1 rfl rfl (by decide) kX8_10F ?_
      refine r_iload_n dX8_drum_45 rfl ?_
      refine r_callVP (As := [.int (p0)]) dX8_drum_46 (tX2_addDrum hA (by omega) h1 hI1 (show dn < 6 by omega)) rfl h1.lab rfl rfl oX2_addDrum rfl kX8_46M nX2_addDrum eX2_addDrum (by unfold fRoom; decide) (Nat.le_of_ble_eq_true rfl) rfl (bc' := 0) (bs' := 0) rfl rfl (fun E M9 h => by cases h.1) (fun v M2 hq => ?_)
      obtain ⟨hv2, hL2, hO2⟩ := hq
      cases hv2
      show fR _ _ _ 49 _ (.int (nI (dn)) :: _) _ _ _ _
      exact fR_iret dX8_drum_49 rfl (cPost_0 (by unfold oDrum; (repeat (first | (first | rw [if_pos (by first | assumption | exact Int32.not_le.mp (by assumption) | exact Int32.not_lt.mp (by assumption) | omega)] | rw [if_neg (by first | assumption | exact Int32.not_lt.mpr (by assumption) | exact Int32.not_le.mpr (by assumption) | exact bne_of (by assumption) | exact not_not_intro (by assumption) | omega)]) | rw [if_pos rfl])); first | done | rfl) (cls_own hA hC hS1 hO1 hL2 hO2 (hI1.drum (by omega) (by assumption)) (fun j h1 h2 => by unfold pDrum; rw [pk_un (by omega), pk_un (by omega), pk_un (by omega), pk_un (by omega)])))
  · skip
    exact r_callSX (As := [.int (p0), .int (nI (20)), .int (nI (300))]) dX8_drum_6 (tX8_mindRange_f (bf_of c1)) rfl oX8_mindRange rfl kX8_30M sX8_mindRange (by unfold fRoom; decide) (Nat.le_of_ble_eq_true rfl) rfl (cPost_x (t := 0) hC (by unfold oDrum ; (repeat (first | rw [if_pos (by first | assumption | exact Int32.not_le.mp (by assumption) | exact Int32.not_lt.mp (by assumption) | omega)] | rw [if_neg (by first | assumption | exact Int32.not_lt.mpr (by assumption) | exact Int32.not_le.mpr (by assumption) | exact bne_of (by assumption) | exact not_not_intro (by assumption) | omega)])); first | done | rfl) rfl)
theorem tX8_age {l : Launch} {κ : KP} {M : Mem} {ad : Nat → Nat} {g tx : Nat → Int32} {dn n sn ln : Nat} {kp : Bool} (hA : aInj ad) (hC : ClsAt κ ad M ⟨g, sn, kp, tx, ln⟩ dn n) {p0 : Int32} : fM l κ mX8_age [.ref (ad 254), .int (p0)] M (cPost κ ad M ["java/lang/IllegalArgumentException"] (oAge ⟨g, sn, kp, tx, ln⟩ dn n p0)) := by
  refine fM_of rfl (by decide +kernel) (Nat.le_of_ble_eq_true rfl) ?_
  obtain ⟨hX, hS, hI, hT, ch, hTX⟩ := id hC
  replace hS : LabsAt ad M g sn kp dn n := hS
  replace hI : BI g dn n := hI
  replace hT : TextAt κ ad M tx ln := hT
  replace hTX : TX tx ln ch := hTX
  obtain ⟨π, h0⟩ := hS.main
  have hs6 := hS.s6
  obtain ⟨fD, hfD, hvD⟩ := h0.drs
  obtain ⟨fS, hfS, hvS⟩ := h0.sps
  obtain ⟨fN, hfN, hvN⟩ := h0.nds
  obtain ⟨fG, hfG, hvG⟩ := h0.dgs
  obtain ⟨fT, hfT, hvT⟩ := h0.sts
  have hdn := h0.dl
  have hn := h0.nl
  show fR l κ mX8_age 0 [(0, .ref (ad 254)), (1, .int (p0))] [] M 1 6 _
  refine r_iload_n dX8_age_0 rfl ?_
  refine r_iconst (v := nI 1) dX8_age_1 (by decide) ?_
  refine r_bipush (v := nI 99) dX8_age_2 (by decide) ?_
  by_cases c1 : pIn p0 ((nI (1))) ((nI (99))) = true
  · skip
    obtain ⟨k0, hk0l, hk0, ek0⟩ := pIn_nat4 (by omega) (by omega) c1
    subst ek0
    have ck0 : cN (nI k0) = k0 := nI_clamp (by omega)
    refine r_callS (As := [.int (nI (k0)), .int (nI (1)), .int (nI (99))]) dX8_age_4 (tX8_mindRange_t c1) rfl oX8_mindRange rfl kX8_30M sX8_mindRange (by unfold fRoom; decide) (Nat.le_of_ble_eq_true rfl) rfl (bc' := 0) (bs' := 0) rfl rfl ?_
    show fR _ _ _ 7 _ _ _ _ _ _
    refine r_aload_n dX8_age_7 rfl ?_
    refine r_get (k := 1) dX8_age_8 hX rfl rfl (by decide) kX8_19F ?_
    refine r_aload_n dX8_age_11 rfl ?_
    refine r_get (k := 0) dX8_age_12 hX rfl rfl (by decide) kX8_10F ?_
    refine r_callVP (As := [.ref (ad 0)]) dX8_age_15 (tX1_save hA hS hI) rfl hS.hist rfl rfl oX1_save rfl kX8_42M nX1_save eX1_save (by unfold fRoom; decide) (Nat.le_of_ble_eq_true rfl) rfl (bc' := 0) (bs' := 0) rfl rfl (fun E M9 h => by cases h.1) (fun v M1 hq => ?_)
    obtain ⟨hv1, hS1, hO1⟩ := hq
    cases hv1
    have hI1 := hI.save sn
    have hX1 := (hO1.at hA (by omega) (by omega) (by omega) (by omega)).trans hX
    obtain ⟨π1, h1⟩ := hS1.main
    obtain ⟨fD1, hfD1, hvD1⟩ := h1.drs
    obtain ⟨fS1, hfS1, hvS1⟩ := h1.sps
    obtain ⟨fN1, hfN1, hvN1⟩ := h1.nds
    obtain ⟨fG1, hfG1, hvG1⟩ := h1.dgs
    obtain ⟨fT1, hfT1, hvT1⟩ := h1.sts
    have hdn := h1.dl
    have hn := h1.nl
    show fR _ _ _ 18 _ _ _ _ _ _
    refine r_aload_n dX8_age_18 rfl ?_
    refine r_get (k := 0) dX8_age_19 hX1 rfl rfl (by decide) kX8_10F ?_
    refine r_iload_n dX8_age_22 rfl ?_
    refine r_callVP (As := [.int (nI (k0))]) dX8_age_23 (tX2_age hA (by omega) h1 hI1 (by omega)) rfl h1.lab rfl rfl oX2_ageDrums rfl kX8_50M nX2_ageDrums eX2_ageDrums (by unfold fRoom; decide) (Nat.le_of_ble_eq_true rfl) rfl (bc' := 0) (bs' := 0) rfl rfl (fun E M9 h => by cases h.1) (fun v M2 hq => ?_)
    obtain ⟨hv2, hL2, hO2⟩ := hq
    cases hv2
    show fR _ _ _ 26 _ (.int (pAgeM (pSave g sn) (nI k0) dn) :: _) _ _ _ _
    exact fR_iret dX8_age_26 rfl (cPost_0 (by unfold oAge; simp only [ck0]; (repeat (first | (first | rw [if_pos (by first | assumption | exact Int32.not_le.mp (by assumption) | exact Int32.not_lt.mp (by assumption) | omega)] | rw [if_neg (by first | assumption | exact Int32.not_lt.mpr (by assumption) | exact Int32.not_le.mpr (by assumption) | exact bne_of (by assumption) | exact not_not_intro (by assumption) | omega)]) | rw [if_pos rfl])); first | done | rfl) (cls_own hA hC hS1 hO1 hL2 hO2 (hI1.age hk0) (far_age hdn dn (Nat.le_refl _))))
  · skip
    exact r_callSX (As := [.int (p0), .int (nI (1)), .int (nI (99))]) dX8_age_4 (tX8_mindRange_f (bf_of c1)) rfl oX8_mindRange rfl kX8_30M sX8_mindRange (by unfold fRoom; decide) (Nat.le_of_ble_eq_true rfl) rfl (cPost_x (t := 0) hC (by unfold oAge ; (repeat (first | rw [if_pos (by first | assumption | exact Int32.not_le.mp (by assumption) | exact Int32.not_lt.mp (by assumption) | omega)] | rw [if_neg (by first | assumption | exact Int32.not_lt.mpr (by assumption) | exact Int32.not_le.mpr (by assumption) | exact bne_of (by assumption) | exact not_not_intro (by assumption) | omega)])); first | done | rfl) rfl)
theorem tX8_sample {l : Launch} {κ : KP} {M : Mem} {ad : Nat → Nat} {g tx : Nat → Int32} {dn n sn ln : Nat} {kp : Bool} (hA : aInj ad) (hC : ClsAt κ ad M ⟨g, sn, kp, tx, ln⟩ dn n) {p0 : Int32} : fM l κ mX8_sample [.ref (ad 254), .int (p0)] M (cPost κ ad M ["java/lang/IndexOutOfBoundsException", "java/lang/IllegalStateException"] (oSample ⟨g, sn, kp, tx, ln⟩ dn n p0)) := by
  refine fM_of rfl (by decide +kernel) (Nat.le_of_ble_eq_true rfl) ?_
  obtain ⟨hX, hS, hI, hT, ch, hTX⟩ := id hC
  replace hS : LabsAt ad M g sn kp dn n := hS
  replace hI : BI g dn n := hI
  replace hT : TextAt κ ad M tx ln := hT
  replace hTX : TX tx ln ch := hTX
  obtain ⟨π, h0⟩ := hS.main
  have hs6 := hS.s6
  obtain ⟨fD, hfD, hvD⟩ := h0.drs
  obtain ⟨fS, hfS, hvS⟩ := h0.sps
  obtain ⟨fN, hfN, hvN⟩ := h0.nds
  obtain ⟨fG, hfG, hvG⟩ := h0.dgs
  obtain ⟨fT, hfT, hvT⟩ := h0.sts
  have hdn := h0.dl
  have hn := h0.nl
  show fR l κ mX8_sample 0 [(0, .ref (ad 254)), (1, .int (p0))] [] M 1 6 _
  refine r_aload_n dX8_sample_0 rfl ?_
  refine r_get (k := 0) dX8_sample_1 hX rfl rfl (by decide) kX8_10F ?_
  refine r_iload_n dX8_sample_4 rfl ?_
  refine r_callV (As := [.int (p0)]) dX8_sample_5 (tX2_whyNotTaken h0 hI) rfl h0.lab rfl rfl oX2_whyNotTaken rfl kX8_53M nX2_whyNotTaken eX2_whyNotTaken (by unfold fRoom; decide) (Nat.le_of_ble_eq_true rfl) rfl (bc' := 1) (bs' := 6) rfl rfl ?_
  show fR _ _ _ 8 _ (.int ((pTaken dn n p0)) :: _) _ _ _ _
  by_cases c1 : pNo p0 dn = true
  · skip
    obtain ⟨k0, hk0, ek0⟩ := pNo_t c1 (by omega)
    subst ek0
    have ck0 : cN (nI k0) = k0 := nI_clamp (by omega)
    by_cases c2 : n = 8
    · skip
      exact r_callSX (As := [.int ((pTaken dn n (nI (k0))))]) dX8_sample_8 (tX8_refuse_x (by unfold pTaken; rw [if_pos (by assumption), if_pos (by assumption)]; decide) (by unfold pTaken; rw [if_pos (by assumption), if_pos (by assumption)]; decide)) rfl oX8_refuseFor rfl kX8_38M sX8_refuseFor (by unfold fRoom; decide) (Nat.le_of_ble_eq_true rfl) rfl (cPost_x (t := 1) hC (by unfold oSample; simp only [ck0]; (repeat (first | (first | rw [if_pos (by first | assumption | exact Int32.not_le.mp (by assumption) | exact Int32.not_lt.mp (by assumption) | omega)] | rw [if_neg (by first | assumption | exact Int32.not_lt.mpr (by assumption) | exact Int32.not_le.mpr (by assumption) | exact bne_of (by assumption) | exact not_not_intro (by assumption) | omega)]) | rw [if_pos rfl])); first | done | rfl) rfl)
    · skip
      refine r_callS (As := [.int ((pTaken dn n (nI (k0))))]) dX8_sample_8 (tX8_refuse_0 (by unfold pTaken; rw [if_pos (by assumption), if_neg (by assumption)])) rfl oX8_refuseFor rfl kX8_38M sX8_refuseFor (by unfold fRoom; decide) (Nat.le_of_ble_eq_true rfl) rfl (bc' := 0) (bs' := 0) rfl rfl ?_
      show fR _ _ _ 11 _ _ _ _ _ _
      refine r_aload_n dX8_sample_11 rfl ?_
      refine r_get (k := 1) dX8_sample_12 hX rfl rfl (by decide) kX8_19F ?_
      refine r_aload_n dX8_sample_15 rfl ?_
      refine r_get (k := 0) dX8_sample_16 hX rfl rfl (by decide) kX8_10F ?_
      refine r_callVP (As := [.ref (ad 0)]) dX8_sample_19 (tX1_save hA hS hI) rfl hS.hist rfl rfl oX1_save rfl kX8_42M nX1_save eX1_save (by unfold fRoom; decide) (Nat.le_of_ble_eq_true rfl) rfl (bc' := 0) (bs' := 0) rfl rfl (fun E M9 h => by cases h.1) (fun v M1 hq => ?_)
      obtain ⟨hv1, hS1, hO1⟩ := hq
      cases hv1
      have hI1 := hI.save sn
      have hX1 := (hO1.at hA (by omega) (by omega) (by omega) (by omega)).trans hX
      obtain ⟨π1, h1⟩ := hS1.main
      obtain ⟨fD1, hfD1, hvD1⟩ := h1.drs
      obtain ⟨fS1, hfS1, hvS1⟩ := h1.sps
      obtain ⟨fN1, hfN1, hvN1⟩ := h1.nds
      obtain ⟨fG1, hfG1, hvG1⟩ := h1.dgs
      obtain ⟨fT1, hfT1, hvT1⟩ := h1.sts
      have hdn := h1.dl
      have hn := h1.nl
      show fR _ _ _ 22 _ _ _ _ _ _
      refine r_aload_n dX8_sample_22 rfl ?_
      refine r_get (k := 0) dX8_sample_23 hX1 rfl rfl (by decide) kX8_10F ?_
      refine r_iload_n dX8_sample_26 rfl ?_
      refine r_callVP (As := [.int (nI (k0))]) dX8_sample_27 (tX2_take hA (by omega) h1 hI1 (by omega) (by omega)) rfl h1.lab rfl rfl oX2_take rfl kX8_56M nX2_take eX2_take (by unfold fRoom; decide) (Nat.le_of_ble_eq_true rfl) rfl (bc' := 0) (bs' := 0) rfl rfl (fun E M9 h => by cases h.1) (fun v M2 hq => ?_)
      obtain ⟨hv2, hL2, hO2⟩ := hq
      cases hv2
      show fR _ _ _ 30 _ (.int (nI (n)) :: _) _ _ _ _
      exact fR_iret dX8_sample_30 rfl (cPost_0 (by unfold oSample; simp only [ck0]; (repeat (first | (first | rw [if_pos (by first | assumption | exact Int32.not_le.mp (by assumption) | exact Int32.not_lt.mp (by assumption) | omega)] | rw [if_neg (by first | assumption | exact Int32.not_lt.mpr (by assumption) | exact Int32.not_le.mpr (by assumption) | exact bne_of (by assumption) | exact not_not_intro (by assumption) | omega)]) | rw [if_pos rfl])); first | done | rfl) (cls_own hA hC hS1 hO1 hL2 hO2 (hI1.take hk0 (by omega)) (far_take hI1 hk0 (by omega))))
  · skip
    exact r_callSX (As := [.int ((pTaken dn n p0))]) dX8_sample_8 (tX8_refuse_13 (by unfold pTaken; rw [if_neg (by assumption)])) rfl oX8_refuseFor rfl kX8_38M sX8_refuseFor (by unfold fRoom; decide) (Nat.le_of_ble_eq_true rfl) rfl (cPost_x (t := 0) hC (by unfold oSample; (repeat (first | (first | rw [if_pos (by first | assumption | exact Int32.not_le.mp (by assumption) | exact Int32.not_lt.mp (by assumption) | omega)] | rw [if_neg (by first | assumption | exact Int32.not_lt.mpr (by assumption) | exact Int32.not_le.mpr (by assumption) | exact bne_of (by assumption) | exact not_not_intro (by assumption) | omega)]) | rw [if_pos rfl])); first | done | rfl) rfl)
theorem tX8_toss {l : Launch} {κ : KP} {M : Mem} {ad : Nat → Nat} {g tx : Nat → Int32} {dn n sn ln : Nat} {kp : Bool} (hA : aInj ad) (hC : ClsAt κ ad M ⟨g, sn, kp, tx, ln⟩ dn n) {p0 : Int32} : fM l κ mX8_toss [.ref (ad 254), .int (p0)] M (cPost κ ad M ["java/lang/IndexOutOfBoundsException"] (oToss ⟨g, sn, kp, tx, ln⟩ dn n p0)) := by
  refine fM_of rfl (by decide +kernel) (Nat.le_of_ble_eq_true rfl) ?_
  obtain ⟨hX, hS, hI, hT, ch, hTX⟩ := id hC
  replace hS : LabsAt ad M g sn kp dn n := hS
  replace hI : BI g dn n := hI
  replace hT : TextAt κ ad M tx ln := hT
  replace hTX : TX tx ln ch := hTX
  obtain ⟨π, h0⟩ := hS.main
  have hs6 := hS.s6
  obtain ⟨fD, hfD, hvD⟩ := h0.drs
  obtain ⟨fS, hfS, hvS⟩ := h0.sps
  obtain ⟨fN, hfN, hvN⟩ := h0.nds
  obtain ⟨fG, hfG, hvG⟩ := h0.dgs
  obtain ⟨fT, hfT, hvT⟩ := h0.sts
  have hdn := h0.dl
  have hn := h0.nl
  show fR l κ mX8_toss 0 [(0, .ref (ad 254)), (1, .int (p0))] [] M 1 6 _
  refine r_iload_n dX8_toss_0 rfl ?_
  refine r_aload_n dX8_toss_1 rfl ?_
  refine r_get (k := 0) dX8_toss_2 hX rfl rfl (by decide) kX8_10F ?_
  refine r_get (k := 6) dX8_toss_5 h0.lab rfl rfl (by decide) kX8_59F ?_
  by_cases c1 : pNo p0 (n) = true
  · skip
    obtain ⟨k0, hk0, ek0⟩ := pNo_t c1 (by omega)
    subst ek0
    have ck0 : cN (nI k0) = k0 := nI_clamp (by omega)
    refine r_callS (As := [.int (nI (k0)), .int (nI (n))]) dX8_toss_8 (tX8_mindNumber_t (by omega) c1) rfl oX8_mindNumber rfl kX8_62M sX8_mindNumber (by unfold fRoom; decide) (Nat.le_of_ble_eq_true rfl) rfl (bc' := 0) (bs' := 0) rfl rfl ?_
    show fR _ _ _ 11 _ _ _ _ _ _
    refine r_aload_n dX8_toss_11 rfl ?_
    refine r_get (k := 1) dX8_toss_12 hX rfl rfl (by decide) kX8_19F ?_
    refine r_aload_n dX8_toss_15 rfl ?_
    refine r_get (k := 0) dX8_toss_16 hX rfl rfl (by decide) kX8_10F ?_
    refine r_callVP (As := [.ref (ad 0)]) dX8_toss_19 (tX1_save hA hS hI) rfl hS.hist rfl rfl oX1_save rfl kX8_42M nX1_save eX1_save (by unfold fRoom; decide) (Nat.le_of_ble_eq_true rfl) rfl (bc' := 0) (bs' := 0) rfl rfl (fun E M9 h => by cases h.1) (fun v M1 hq => ?_)
    obtain ⟨hv1, hS1, hO1⟩ := hq
    cases hv1
    have hI1 := hI.save sn
    have hX1 := (hO1.at hA (by omega) (by omega) (by omega) (by omega)).trans hX
    obtain ⟨π1, h1⟩ := hS1.main
    obtain ⟨fD1, hfD1, hvD1⟩ := h1.drs
    obtain ⟨fS1, hfS1, hvS1⟩ := h1.sps
    obtain ⟨fN1, hfN1, hvN1⟩ := h1.nds
    obtain ⟨fG1, hfG1, hvG1⟩ := h1.dgs
    obtain ⟨fT1, hfT1, hvT1⟩ := h1.sts
    have hdn := h1.dl
    have hn := h1.nl
    show fR _ _ _ 22 _ _ _ _ _ _
    refine r_aload_n dX8_toss_22 rfl ?_
    refine r_get (k := 0) dX8_toss_23 hX1 rfl rfl (by decide) kX8_10F ?_
    refine r_iload_n dX8_toss_26 rfl ?_
    refine r_callVP (As := [.int (nI (k0))]) dX8_toss_27 (tX2_toss hA (by omega) h1 hI1 (by omega)) rfl h1.lab rfl rfl oX2_throwAway rfl kX8_66M nX2_throwAway eX2_throwAway (by unfold fRoom; decide) (Nat.le_of_ble_eq_true rfl) rfl (bc' := 0) (bs' := 0) rfl rfl (fun E M9 h => by cases h.1) (fun v M2 hq => ?_)
    obtain ⟨hv2, hL2, hO2⟩ := hq
    cases hv2
    show fR _ _ _ 30 _ (.int (pOf (pSave g sn) k0 5) :: _) _ _ _ _
    exact fR_iret dX8_toss_30 rfl (cPost_0 (by unfold oToss; simp only [ck0]; (repeat (first | (first | rw [if_pos (by first | assumption | exact Int32.not_le.mp (by assumption) | exact Int32.not_lt.mp (by assumption) | omega)] | rw [if_neg (by first | assumption | exact Int32.not_lt.mpr (by assumption) | exact Int32.not_le.mpr (by assumption) | exact bne_of (by assumption) | exact not_not_intro (by assumption) | omega)]) | rw [if_pos rfl])); first | done | rfl) (cls_own hA hC hS1 hO1 hL2 hO2 (hI1.toss hk0) (far_toss hn hk0)))
  · skip
    exact r_callSX (As := [.int (p0), .int (nI (n))]) dX8_toss_8 (tX8_mindNumber_f (by omega) (bf_of c1)) rfl oX8_mindNumber rfl kX8_62M sX8_mindNumber (by unfold fRoom; decide) (Nat.le_of_ble_eq_true rfl) rfl (cPost_x (t := 0) hC (by unfold oToss ; (repeat (first | rw [if_pos (by first | assumption | exact Int32.not_le.mp (by assumption) | exact Int32.not_lt.mp (by assumption) | omega)] | rw [if_neg (by first | assumption | exact Int32.not_lt.mpr (by assumption) | exact Int32.not_le.mpr (by assumption) | exact bne_of (by assumption) | exact not_not_intro (by assumption) | omega)])); first | done | rfl) rfl)
theorem tX8_bath {l : Launch} {κ : KP} {M : Mem} {ad : Nat → Nat} {g tx : Nat → Int32} {dn n sn ln : Nat} {kp : Bool} (hA : aInj ad) (hC : ClsAt κ ad M ⟨g, sn, kp, tx, ln⟩ dn n) {p0 : Int32} {p1 : Int32} : fM l κ mX8_bath [.ref (ad 254), .int (p0), .int (p1)] M (cPost κ ad M ["java/lang/IndexOutOfBoundsException", "java/lang/IllegalStateException"] (oBath ⟨g, sn, kp, tx, ln⟩ dn n p0 p1)) := by
  refine fM_of rfl (by decide +kernel) (Nat.le_of_ble_eq_true rfl) ?_
  obtain ⟨hX, hS, hI, hT, ch, hTX⟩ := id hC
  replace hS : LabsAt ad M g sn kp dn n := hS
  replace hI : BI g dn n := hI
  replace hT : TextAt κ ad M tx ln := hT
  replace hTX : TX tx ln ch := hTX
  obtain ⟨π, h0⟩ := hS.main
  have hs6 := hS.s6
  obtain ⟨fD, hfD, hvD⟩ := h0.drs
  obtain ⟨fS, hfS, hvS⟩ := h0.sps
  obtain ⟨fN, hfN, hvN⟩ := h0.nds
  obtain ⟨fG, hfG, hvG⟩ := h0.dgs
  obtain ⟨fT, hfT, hvT⟩ := h0.sts
  have hdn := h0.dl
  have hn := h0.nl
  show fR l κ mX8_bath 0 [(0, .ref (ad 254)), (1, .int (p0)), (2, .int (p1))] [] M 2 12 _
  refine r_iload_n dX8_bath_0 rfl ?_
  refine r_iconst (v := (-1)) dX8_bath_1 (by decide) ?_
  refine r_icmp_eq (tgt := 10) dX8_bath_2 (by decide) (fun c1 => ?_) (fun c1 => ?_)
  · skip
    have hm1 : p1 = -1 := c1
    subst hm1
    refine r_aload_n dX8_bath_10 rfl ?_
    refine r_get (k := 0) dX8_bath_11 hX rfl rfl (by decide) kX8_10F ?_
    refine r_iload_n dX8_bath_14 rfl ?_
    refine r_iload_n dX8_bath_15 rfl ?_
    refine r_callV (As := [.int (p0), .int (-1)]) dX8_bath_16 (tX2_whyNotLaid h0 hI) rfl h0.lab rfl rfl oX2_whyNotLaid rfl kX8_69M nX2_whyNotLaid eX2_whyNotLaid (by unfold fRoom; decide) (Nat.le_of_ble_eq_true rfl) rfl (bc' := 2) (bs' := 12) rfl rfl ?_
    show fR _ _ _ 19 _ (.int ((pLaid g n p0 (-1))) :: _) _ _ _ _
    by_cases c2 : pNo p0 n = true
    · skip
      obtain ⟨k0, hk0, ek0⟩ := pNo_t c2 (by omega)
      subst ek0
      have ck0 : cN (nI k0) = k0 := nI_clamp (by omega)
      refine r_callS (As := [.int ((pLaid g n (nI (k0)) (-1)))]) dX8_bath_19 (tX8_refuse_0 (by unfold pLaid; simp only [ck0]; (repeat (first | (first | rw [if_pos (by first | assumption | exact Int32.not_le.mp (by assumption) | exact Int32.not_lt.mp (by assumption) | omega)] | rw [if_neg (by first | assumption | exact Int32.not_lt.mpr (by assumption) | exact Int32.not_le.mpr (by assumption) | exact bne_of (by assumption) | exact not_not_intro (by assumption) | omega)]) | rw [if_pos rfl])); first | done | rfl)) rfl oX8_refuseFor rfl kX8_38M sX8_refuseFor (by unfold fRoom; decide) (Nat.le_of_ble_eq_true rfl) rfl (bc' := 1) (bs' := 6) rfl rfl ?_
      show fR _ _ _ 22 _ _ _ _ _ _
      refine r_aload_n dX8_bath_22 rfl ?_
      refine r_get (k := 1) dX8_bath_23 hX rfl rfl (by decide) kX8_19F ?_
      refine r_aload_n dX8_bath_26 rfl ?_
      refine r_get (k := 0) dX8_bath_27 hX rfl rfl (by decide) kX8_10F ?_
      refine r_callVP (As := [.ref (ad 0)]) dX8_bath_30 (tX1_save hA hS hI) rfl hS.hist rfl rfl oX1_save rfl kX8_42M nX1_save eX1_save (by unfold fRoom; decide) (Nat.le_of_ble_eq_true rfl) rfl (bc' := 1) (bs' := 6) rfl rfl (fun E M9 h => by cases h.1) (fun v M1 hq => ?_)
      obtain ⟨hv1, hS1, hO1⟩ := hq
      cases hv1
      have hI1 := hI.save sn
      have hX1 := (hO1.at hA (by omega) (by omega) (by omega) (by omega)).trans hX
      obtain ⟨π1, h1⟩ := hS1.main
      obtain ⟨fD1, hfD1, hvD1⟩ := h1.drs
      obtain ⟨fS1, hfS1, hvS1⟩ := h1.sps
      obtain ⟨fN1, hfN1, hvN1⟩ := h1.nds
      obtain ⟨fG1, hfG1, hvG1⟩ := h1.dgs
      obtain ⟨fT1, hfT1, hvT1⟩ := h1.sts
      have hdn := h1.dl
      have hn := h1.nl
      show fR _ _ _ 33 _ _ _ _ _ _
      refine r_aload_n dX8_bath_33 rfl ?_
      refine r_get (k := 0) dX8_bath_34 hX1 rfl rfl (by decide) kX8_10F ?_
      refine r_iload_n dX8_bath_37 rfl ?_
      refine r_iload_n dX8_bath_38 rfl ?_
      refine r_callVP (As := [.int (nI (k0)), .int (-1)]) dX8_bath_39 (tX2_lay hA (by omega) h1 hI1 (by omega)) rfl h1.lab rfl rfl oX2_lay rfl kX8_73M nX2_lay eX2_lay (by unfold fRoom; decide) (Nat.le_of_ble_eq_true rfl) rfl (bc' := 1) (bs' := 6) rfl rfl (fun E M9 h => by cases h.1) (fun v M2 hq => ?_)
      obtain ⟨hv2, hL2, hO2⟩ := hq
      cases hv2
      show fR _ _ _ 42 _ (.int (pOf (pSave g sn) k0 3) :: _) _ _ _ _
      have ev : pOf (pSave g sn) k0 3 = pOf g k0 3 := pOf_save (by omega)
      rw [ev]
      exact fR_iret dX8_bath_42 rfl (cPost_0 (by unfold oBath; simp only [ck0]; (repeat (first | (first | rw [if_pos (by first | assumption | exact Int32.not_le.mp (by assumption) | exact Int32.not_lt.mp (by assumption) | omega)] | rw [if_neg (by first | assumption | exact Int32.not_lt.mpr (by assumption) | exact Int32.not_le.mpr (by assumption) | exact bne_of (by assumption) | exact not_not_intro (by assumption) | omega)]) | rw [if_pos rfl])); first | done | rfl) (cls_own hA hC hS1 hO1 hL2 hO2 (hI1.uBath hk0 (Or.inl rfl)) (fun j h1 h2 => pk_un (by omega))))
    · skip
      exact r_callSX (As := [.int ((pLaid g n p0 (-1)))]) dX8_bath_19 (tX8_refuse_13 (by unfold pLaid; rw [if_neg (by assumption)])) rfl oX8_refuseFor rfl kX8_38M sX8_refuseFor (by unfold fRoom; decide) (Nat.le_of_ble_eq_true rfl) rfl (cPost_x (t := 0) hC (by unfold oBath; (repeat (first | (first | rw [if_pos (by first | assumption | exact Int32.not_le.mp (by assumption) | exact Int32.not_lt.mp (by assumption) | omega)] | rw [if_neg (by first | assumption | exact Int32.not_lt.mpr (by assumption) | exact Int32.not_le.mpr (by assumption) | exact bne_of (by assumption) | exact not_not_intro (by assumption) | omega)]) | rw [if_pos rfl])); first | done | rfl) rfl)
  · skip
    refine r_iload_n dX8_bath_5 rfl ?_
    refine r_iconst (v := nI 3) dX8_bath_6 (by decide) ?_
    by_cases c3 : pNo p1 (3) = true
    · skip
      obtain ⟨k1, hk1, ek1⟩ := pNo_t c3 (by omega)
      subst ek1
      have ck1 : cN (nI k1) = k1 := nI_clamp (by omega)
      refine r_callS (As := [.int (nI (k1)), .int (nI (3))]) dX8_bath_7 (tX8_mindNumber_t (by omega) c3) rfl oX8_mindNumber rfl kX8_62M sX8_mindNumber (by unfold fRoom; decide) (Nat.le_of_ble_eq_true rfl) rfl (bc' := 1) (bs' := 6) rfl rfl ?_
      show fR _ _ _ 10 _ _ _ _ _ _
      refine r_aload_n dX8_bath_10 rfl ?_
      refine r_get (k := 0) dX8_bath_11 hX rfl rfl (by decide) kX8_10F ?_
      refine r_iload_n dX8_bath_14 rfl ?_
      refine r_iload_n dX8_bath_15 rfl ?_
      refine r_callV (As := [.int (p0), .int (nI (k1))]) dX8_bath_16 (tX2_whyNotLaid h0 hI) rfl h0.lab rfl rfl oX2_whyNotLaid rfl kX8_69M nX2_whyNotLaid eX2_whyNotLaid (by unfold fRoom; decide) (Nat.le_of_ble_eq_true rfl) rfl (bc' := 1) (bs' := 6) rfl rfl ?_
      show fR _ _ _ 19 _ (.int ((pLaid g n p0 (nI (k1)))) :: _) _ _ _ _
      by_cases c4 : pNo p0 n = true
      · skip
        obtain ⟨k0, hk0, ek0⟩ := pNo_t c4 (by omega)
        subst ek0
        have ck0 : cN (nI k0) = k0 := nI_clamp (by omega)
        by_cases c5 : pOf g k0 3 = (nI (k1)) ∨ pInBath g n (nI (k1)) < 3
        · skip
          refine r_callS (As := [.int ((pLaid g n (nI (k0)) (nI (k1))))]) dX8_bath_19 (tX8_refuse_0 (by unfold pLaid; simp only [ck0]; (repeat (first | (first | rw [if_pos (by first | assumption | exact Int32.not_le.mp (by assumption) | exact Int32.not_lt.mp (by assumption) | omega)] | rw [if_neg (by first | assumption | exact Int32.not_lt.mpr (by assumption) | exact Int32.not_le.mpr (by assumption) | exact bne_of (by assumption) | exact not_not_intro (by assumption) | omega)]) | rw [if_pos rfl])); first | done | rfl)) rfl oX8_refuseFor rfl kX8_38M sX8_refuseFor (by unfold fRoom; decide) (Nat.le_of_ble_eq_true rfl) rfl (bc' := 0) (bs' := 0) rfl rfl ?_
          show fR _ _ _ 22 _ _ _ _ _ _
          refine r_aload_n dX8_bath_22 rfl ?_
          refine r_get (k := 1) dX8_bath_23 hX rfl rfl (by decide) kX8_19F ?_
          refine r_aload_n dX8_bath_26 rfl ?_
          refine r_get (k := 0) dX8_bath_27 hX rfl rfl (by decide) kX8_10F ?_
          refine r_callVP (As := [.ref (ad 0)]) dX8_bath_30 (tX1_save hA hS hI) rfl hS.hist rfl rfl oX1_save rfl kX8_42M nX1_save eX1_save (by unfold fRoom; decide) (Nat.le_of_ble_eq_true rfl) rfl (bc' := 0) (bs' := 0) rfl rfl (fun E M9 h => by cases h.1) (fun v M1 hq => ?_)
          obtain ⟨hv1, hS1, hO1⟩ := hq
          cases hv1
          have hI1 := hI.save sn
          have hX1 := (hO1.at hA (by omega) (by omega) (by omega) (by omega)).trans hX
          obtain ⟨π1, h1⟩ := hS1.main
          obtain ⟨fD1, hfD1, hvD1⟩ := h1.drs
          obtain ⟨fS1, hfS1, hvS1⟩ := h1.sps
          obtain ⟨fN1, hfN1, hvN1⟩ := h1.nds
          obtain ⟨fG1, hfG1, hvG1⟩ := h1.dgs
          obtain ⟨fT1, hfT1, hvT1⟩ := h1.sts
          have hdn := h1.dl
          have hn := h1.nl
          show fR _ _ _ 33 _ _ _ _ _ _
          refine r_aload_n dX8_bath_33 rfl ?_
          refine r_get (k := 0) dX8_bath_34 hX1 rfl rfl (by decide) kX8_10F ?_
          refine r_iload_n dX8_bath_37 rfl ?_
          refine r_iload_n dX8_bath_38 rfl ?_
          refine r_callVP (As := [.int (nI (k0)), .int (nI (k1))]) dX8_bath_39 (tX2_lay hA (by omega) h1 hI1 (by omega)) rfl h1.lab rfl rfl oX2_lay rfl kX8_73M nX2_lay eX2_lay (by unfold fRoom; decide) (Nat.le_of_ble_eq_true rfl) rfl (bc' := 0) (bs' := 0) rfl rfl (fun E M9 h => by cases h.1) (fun v M2 hq => ?_)
          obtain ⟨hv2, hL2, hO2⟩ := hq
          cases hv2
          show fR _ _ _ 42 _ (.int (pOf (pSave g sn) k0 3) :: _) _ _ _ _
          have ev : pOf (pSave g sn) k0 3 = pOf g k0 3 := pOf_save (by omega)
          rw [ev]
          exact fR_iret dX8_bath_42 rfl (cPost_0 (by unfold oBath; simp only [ck0, ck1]; (repeat (first | (first | rw [if_pos (by first | assumption | exact Int32.not_le.mp (by assumption) | exact Int32.not_lt.mp (by assumption) | omega)] | rw [if_neg (by first | assumption | exact Int32.not_lt.mpr (by assumption) | exact Int32.not_le.mpr (by assumption) | exact bne_of (by assumption) | exact not_not_intro (by assumption) | omega)]) | rw [if_pos rfl])); first | done | rfl) (cls_own hA hC hS1 hO1 hL2 hO2 (hI1.uBath hk0 (Or.inr ⟨k1, hk1, rfl⟩)) (fun j h1 h2 => pk_un (by omega))))
        · skip
          exact r_callSX (As := [.int ((pLaid g n (nI (k0)) (nI (k1))))]) dX8_bath_19 (tX8_refuse_x (by unfold pLaid; simp only [ck0]; (repeat (first | (first | rw [if_pos (by first | assumption | exact Int32.not_le.mp (by assumption) | exact Int32.not_lt.mp (by assumption) | omega)] | rw [if_neg (by first | assumption | exact Int32.not_lt.mpr (by assumption) | exact Int32.not_le.mpr (by assumption) | exact bne_of (by assumption) | exact not_not_intro (by assumption) | omega)]) | rw [if_pos rfl])); decide) (by unfold pLaid; simp only [ck0]; (repeat (first | (first | rw [if_pos (by first | assumption | exact Int32.not_le.mp (by assumption) | exact Int32.not_lt.mp (by assumption) | omega)] | rw [if_neg (by first | assumption | exact Int32.not_lt.mpr (by assumption) | exact Int32.not_le.mpr (by assumption) | exact bne_of (by assumption) | exact not_not_intro (by assumption) | omega)]) | rw [if_pos rfl])); decide)) rfl oX8_refuseFor rfl kX8_38M sX8_refuseFor (by unfold fRoom; decide) (Nat.le_of_ble_eq_true rfl) rfl (cPost_x (t := 1) hC (by unfold oBath; simp only [ck0, ck1]; (repeat (first | (first | rw [if_pos (by first | assumption | exact Int32.not_le.mp (by assumption) | exact Int32.not_lt.mp (by assumption) | omega)] | rw [if_neg (by first | assumption | exact Int32.not_lt.mpr (by assumption) | exact Int32.not_le.mpr (by assumption) | exact bne_of (by assumption) | exact not_not_intro (by assumption) | omega)]) | rw [if_pos rfl])); first | done | rfl) rfl)
      · skip
        exact r_callSX (As := [.int ((pLaid g n p0 (nI (k1))))]) dX8_bath_19 (tX8_refuse_13 (by unfold pLaid; rw [if_neg (by assumption)])) rfl oX8_refuseFor rfl kX8_38M sX8_refuseFor (by unfold fRoom; decide) (Nat.le_of_ble_eq_true rfl) rfl (cPost_x (t := 0) hC (by unfold oBath; simp only [ck1]; (repeat (first | (first | rw [if_pos (by first | assumption | exact Int32.not_le.mp (by assumption) | exact Int32.not_lt.mp (by assumption) | omega)] | rw [if_neg (by first | assumption | exact Int32.not_lt.mpr (by assumption) | exact Int32.not_le.mpr (by assumption) | exact bne_of (by assumption) | exact not_not_intro (by assumption) | omega)]) | rw [if_pos rfl])); first | done | rfl) rfl)
    · skip
      exact r_callSX (As := [.int (p1), .int (nI (3))]) dX8_bath_7 (tX8_mindNumber_f (by omega) (bf_of c3)) rfl oX8_mindNumber rfl kX8_62M sX8_mindNumber (by unfold fRoom; decide) (Nat.le_of_ble_eq_true rfl) rfl (cPost_x (t := 0) hC (by unfold oBath; by_cases hp : pNo p0 n = true; rw [if_pos hp, if_neg (by assumption), if_neg (by assumption)]; rw [if_neg hp]) rfl)
theorem tX8_warm {l : Launch} {κ : KP} {M : Mem} {ad : Nat → Nat} {g tx : Nat → Int32} {dn n sn ln : Nat} {kp : Bool} (hA : aInj ad) (hC : ClsAt κ ad M ⟨g, sn, kp, tx, ln⟩ dn n) {p0 : Int32} {p1 : Int32} : fM l κ mX8_warm [.ref (ad 254), .int (p0), .int (p1)] M (cPost κ ad M ["java/lang/IndexOutOfBoundsException", "java/lang/IllegalArgumentException"] (oWarm ⟨g, sn, kp, tx, ln⟩ dn n p0 p1)) := by
  refine fM_of rfl (by decide +kernel) (Nat.le_of_ble_eq_true rfl) ?_
  obtain ⟨hX, hS, hI, hT, ch, hTX⟩ := id hC
  replace hS : LabsAt ad M g sn kp dn n := hS
  replace hI : BI g dn n := hI
  replace hT : TextAt κ ad M tx ln := hT
  replace hTX : TX tx ln ch := hTX
  obtain ⟨π, h0⟩ := hS.main
  have hs6 := hS.s6
  obtain ⟨fD, hfD, hvD⟩ := h0.drs
  obtain ⟨fS, hfS, hvS⟩ := h0.sps
  obtain ⟨fN, hfN, hvN⟩ := h0.nds
  obtain ⟨fG, hfG, hvG⟩ := h0.dgs
  obtain ⟨fT, hfT, hvT⟩ := h0.sts
  have hdn := h0.dl
  have hn := h0.nl
  show fR l κ mX8_warm 0 [(0, .ref (ad 254)), (1, .int (p0)), (2, .int (p1))] [] M 2 12 _
  refine r_iload_n dX8_warm_0 rfl ?_
  refine r_iconst (v := nI 3) dX8_warm_1 (by decide) ?_
  by_cases c1 : pNo p0 (3) = true
  · skip
    obtain ⟨k0, hk0, ek0⟩ := pNo_t c1 (by omega)
    subst ek0
    have ck0 : cN (nI k0) = k0 := nI_clamp (by omega)
    refine r_callS (As := [.int (nI (k0)), .int (nI (3))]) dX8_warm_2 (tX8_mindNumber_t (by omega) c1) rfl oX8_mindNumber rfl kX8_62M sX8_mindNumber (by unfold fRoom; decide) (Nat.le_of_ble_eq_true rfl) rfl (bc' := 1) (bs' := 6) rfl rfl ?_
    show fR _ _ _ 5 _ _ _ _ _ _
    refine r_iload_n dX8_warm_5 rfl ?_
    refine r_iconst (v := nI 0) dX8_warm_6 (by decide) ?_
    refine r_sipush (v := nI 900) dX8_warm_7 (by decide) ?_
    by_cases c2 : pIn p1 ((nI (0))) ((nI (900))) = true
    · skip
      obtain ⟨k1, hk1l, hk1, ek1⟩ := pIn_nat4 (by omega) (by omega) c2
      subst ek1
      have ck1 : cN (nI k1) = k1 := nI_clamp (by omega)
      refine r_callS (As := [.int (nI (k1)), .int (nI (0)), .int (nI (900))]) dX8_warm_10 (tX8_mindRange_t c2) rfl oX8_mindRange rfl kX8_30M sX8_mindRange (by unfold fRoom; decide) (Nat.le_of_ble_eq_true rfl) rfl (bc' := 0) (bs' := 0) rfl rfl ?_
      show fR _ _ _ 13 _ _ _ _ _ _
      refine r_aload_n dX8_warm_13 rfl ?_
      refine r_get (k := 1) dX8_warm_14 hX rfl rfl (by decide) kX8_19F ?_
      refine r_aload_n dX8_warm_17 rfl ?_
      refine r_get (k := 0) dX8_warm_18 hX rfl rfl (by decide) kX8_10F ?_
      refine r_callVP (As := [.ref (ad 0)]) dX8_warm_21 (tX1_save hA hS hI) rfl hS.hist rfl rfl oX1_save rfl kX8_42M nX1_save eX1_save (by unfold fRoom; decide) (Nat.le_of_ble_eq_true rfl) rfl (bc' := 0) (bs' := 0) rfl rfl (fun E M9 h => by cases h.1) (fun v M1 hq => ?_)
      obtain ⟨hv1, hS1, hO1⟩ := hq
      cases hv1
      have hI1 := hI.save sn
      have hX1 := (hO1.at hA (by omega) (by omega) (by omega) (by omega)).trans hX
      obtain ⟨π1, h1⟩ := hS1.main
      obtain ⟨fD1, hfD1, hvD1⟩ := h1.drs
      obtain ⟨fS1, hfS1, hvS1⟩ := h1.sps
      obtain ⟨fN1, hfN1, hvN1⟩ := h1.nds
      obtain ⟨fG1, hfG1, hvG1⟩ := h1.dgs
      obtain ⟨fT1, hfT1, hvT1⟩ := h1.sts
      have hdn := h1.dl
      have hn := h1.nl
      show fR _ _ _ 24 _ _ _ _ _ _
      refine r_aload_n dX8_warm_24 rfl ?_
      refine r_get (k := 0) dX8_warm_25 hX1 rfl rfl (by decide) kX8_10F ?_
      refine r_get (k := 3) dX8_warm_28 h1.lab rfl rfl (by decide) kX8_76F ?_
      refine r_iload_n dX8_warm_31 rfl ?_
      refine r_ialdN dX8_warm_32 hfG1 (by omega) (by decide) (hvG1 _ (by omega)) ?_
      refine r_istore_n (lv' := [(3, .int ((pSave g sn) (28 + (k0)))), (0, .ref (ad 254)), (1, .int (nI (k0))), (2, .int (nI (k1)))]) dX8_warm_33 (by decide) rfl ?_
      refine r_aload_n dX8_warm_34 rfl ?_
      refine r_get (k := 0) dX8_warm_35 hX1 rfl rfl (by decide) kX8_10F ?_
      refine r_get (k := 3) dX8_warm_38 h1.lab rfl rfl (by decide) kX8_76F ?_
      refine r_iload_n dX8_warm_41 rfl ?_
      refine r_iload_n dX8_warm_42 rfl ?_
      refine r_iastN dX8_warm_43 hfG1 (by omega) (by decide) ?_
      have hL2 := W_deg hA (by omega) h1 hI1 hvG1 (show k0 < 3 by omega) (x := (nI (k1)))
      refine r_iload_n dX8_warm_44 rfl ?_
      have ev : pSave g sn (28 + k0) = g (28 + k0) := pSave_lo (by omega)
      rw [ev]
      exact fR_iret dX8_warm_45 rfl (cPost_0 (by unfold oWarm; simp only [ck0, ck1]; (repeat (first | (first | rw [if_pos (by first | assumption | exact Int32.not_le.mp (by assumption) | exact Int32.not_lt.mp (by assumption) | omega)] | rw [if_neg (by first | assumption | exact Int32.not_lt.mpr (by assumption) | exact Int32.not_le.mpr (by assumption) | exact bne_of (by assumption) | exact not_not_intro (by assumption) | omega)]) | rw [if_pos rfl])); first | done | rfl) (cls_own hA hC hS1 hO1 hL2 (Off.up (by omega)) (hI1.uDeg hk0 hk1) (fun j h1 h2 => pk_un (by omega))))
    · skip
      exact r_callSX (As := [.int (p1), .int (nI (0)), .int (nI (900))]) dX8_warm_10 (tX8_mindRange_f (bf_of c2)) rfl oX8_mindRange rfl kX8_30M sX8_mindRange (by unfold fRoom; decide) (Nat.le_of_ble_eq_true rfl) rfl (cPost_x (t := 1) hC (by unfold oWarm ; simp only [ck0]; (repeat (first | rw [if_pos (by first | assumption | exact Int32.not_le.mp (by assumption) | exact Int32.not_lt.mp (by assumption) | omega)] | rw [if_neg (by first | assumption | exact Int32.not_lt.mpr (by assumption) | exact Int32.not_le.mpr (by assumption) | exact bne_of (by assumption) | exact not_not_intro (by assumption) | omega)])); first | done | rfl) rfl)
  · skip
    exact r_callSX (As := [.int (p0), .int (nI (3))]) dX8_warm_2 (tX8_mindNumber_f (by omega) (bf_of c1)) rfl oX8_mindNumber rfl kX8_62M sX8_mindNumber (by unfold fRoom; decide) (Nat.le_of_ble_eq_true rfl) rfl (cPost_x (t := 0) hC (by unfold oWarm ; (repeat (first | rw [if_pos (by first | assumption | exact Int32.not_le.mp (by assumption) | exact Int32.not_lt.mp (by assumption) | omega)] | rw [if_neg (by first | assumption | exact Int32.not_lt.mpr (by assumption) | exact Int32.not_le.mpr (by assumption) | exact bne_of (by assumption) | exact not_not_intro (by assumption) | omega)])); first | done | rfl) rfl)
theorem tX8_pass {l : Launch} {κ : KP} {M : Mem} {ad : Nat → Nat} {g tx : Nat → Int32} {dn n sn ln : Nat} {kp : Bool} (hA : aInj ad) (hC : ClsAt κ ad M ⟨g, sn, kp, tx, ln⟩ dn n) {p0 : Int32} : fM l κ mX8_pass [.ref (ad 254), .int (p0)] M (cPost κ ad M ["java/lang/IllegalArgumentException"] (oPass ⟨g, sn, kp, tx, ln⟩ dn n p0)) := by
  refine fM_of rfl (by decide +kernel) (Nat.le_of_ble_eq_true rfl) ?_
  obtain ⟨hX, hS, hI, hT, ch, hTX⟩ := id hC
  replace hS : LabsAt ad M g sn kp dn n := hS
  replace hI : BI g dn n := hI
  replace hT : TextAt κ ad M tx ln := hT
  replace hTX : TX tx ln ch := hTX
  obtain ⟨π, h0⟩ := hS.main
  have hs6 := hS.s6
  obtain ⟨fD, hfD, hvD⟩ := h0.drs
  obtain ⟨fS, hfS, hvS⟩ := h0.sps
  obtain ⟨fN, hfN, hvN⟩ := h0.nds
  obtain ⟨fG, hfG, hvG⟩ := h0.dgs
  obtain ⟨fT, hfT, hvT⟩ := h0.sts
  have hdn := h0.dl
  have hn := h0.nl
  show fR l κ mX8_pass 0 [(0, .ref (ad 254)), (1, .int (p0))] [] M 1 6 _
  refine r_iload_n dX8_pass_0 rfl ?_
  refine r_iconst (v := nI 1) dX8_pass_1 (by decide) ?_
  refine r_bipush (v := nI 99) dX8_pass_2 (by decide) ?_
  by_cases c1 : pIn p0 ((nI (1))) ((nI (99))) = true
  · skip
    obtain ⟨k0, hk0l, hk0, ek0⟩ := pIn_nat4 (by omega) (by omega) c1
    subst ek0
    have ck0 : cN (nI k0) = k0 := nI_clamp (by omega)
    refine r_callS (As := [.int (nI (k0)), .int (nI (1)), .int (nI (99))]) dX8_pass_4 (tX8_mindRange_t c1) rfl oX8_mindRange rfl kX8_30M sX8_mindRange (by unfold fRoom; decide) (Nat.le_of_ble_eq_true rfl) rfl (bc' := 0) (bs' := 0) rfl rfl ?_
    show fR _ _ _ 7 _ _ _ _ _ _
    refine r_aload_n dX8_pass_7 rfl ?_
    refine r_get (k := 1) dX8_pass_8 hX rfl rfl (by decide) kX8_19F ?_
    refine r_aload_n dX8_pass_11 rfl ?_
    refine r_get (k := 0) dX8_pass_12 hX rfl rfl (by decide) kX8_10F ?_
    refine r_callVP (As := [.ref (ad 0)]) dX8_pass_15 (tX1_save hA hS hI) rfl hS.hist rfl rfl oX1_save rfl kX8_42M nX1_save eX1_save (by unfold fRoom; decide) (Nat.le_of_ble_eq_true rfl) rfl (bc' := 0) (bs' := 0) rfl rfl (fun E M9 h => by cases h.1) (fun v M1 hq => ?_)
    obtain ⟨hv1, hS1, hO1⟩ := hq
    cases hv1
    have hI1 := hI.save sn
    have hX1 := (hO1.at hA (by omega) (by omega) (by omega) (by omega)).trans hX
    obtain ⟨π1, h1⟩ := hS1.main
    obtain ⟨fD1, hfD1, hvD1⟩ := h1.drs
    obtain ⟨fS1, hfS1, hvS1⟩ := h1.sps
    obtain ⟨fN1, hfN1, hvN1⟩ := h1.nds
    obtain ⟨fG1, hfG1, hvG1⟩ := h1.dgs
    obtain ⟨fT1, hfT1, hvT1⟩ := h1.sts
    have hdn := h1.dl
    have hn := h1.nl
    show fR _ _ _ 18 _ _ _ _ _ _
    refine r_aload_n dX8_pass_18 rfl ?_
    refine r_get (k := 0) dX8_pass_19 hX1 rfl rfl (by decide) kX8_10F ?_
    refine r_iload_n dX8_pass_22 rfl ?_
    refine r_callVP (As := [.int (nI (k0))]) dX8_pass_23 (tX2_pass hA (by omega) h1 hI1 (by omega)) rfl h1.lab rfl rfl oX2_passMinutes rfl kX8_80M nX2_passMinutes eX2_passMinutes (by unfold fRoom; decide) (Nat.le_of_ble_eq_true rfl) rfl (bc' := 0) (bs' := 0) rfl rfl (fun E M9 h => by cases h.1) (fun v M2 hq => ?_)
    obtain ⟨hv2, hL2, hO2⟩ := hq
    cases hv2
    have hX2 := (hO2.at hA (i := 254) (by omega) (by omega) (by omega)).trans hX1
    have hI2 := hI1.pass (mn := k0)
    show fR _ _ _ 26 _ _ _ _ _ _
    refine r_aload_n dX8_pass_26 rfl ?_
    refine r_get (k := 0) dX8_pass_27 hX2 rfl rfl (by decide) kX8_10F ?_
    refine r_callV (As := []) dX8_pass_30 (tX2_same hL2 hI2) rfl hL2.lab rfl rfl oX2_samplesAsTheirBath rfl kX8_83M nX2_samplesAsTheirBath eX2_samplesAsTheirBath (by unfold fRoom; decide) (Nat.le_of_ble_eq_true rfl) rfl (bc' := 0) (bs' := 0) rfl rfl ?_
    show fR _ _ _ 33 _ (.int (nI (pSame (pPassT (pSave g sn) n k0) n)) :: _) _ _ _ _
    exact fR_iret dX8_pass_33 rfl (cPost_0 (by unfold oPass; simp only [ck0]; (repeat (first | (first | rw [if_pos (by first | assumption | exact Int32.not_le.mp (by assumption) | exact Int32.not_lt.mp (by assumption) | omega)] | rw [if_neg (by first | assumption | exact Int32.not_lt.mpr (by assumption) | exact Int32.not_le.mpr (by assumption) | exact bne_of (by assumption) | exact not_not_intro (by assumption) | omega)]) | rw [if_pos rfl])); first | done | rfl) (cls_own hA hC hS1 hO1 hL2 hO2 hI2 (far_passT hn)))
  · skip
    exact r_callSX (As := [.int (p0), .int (nI (1)), .int (nI (99))]) dX8_pass_4 (tX8_mindRange_f (bf_of c1)) rfl oX8_mindRange rfl kX8_30M sX8_mindRange (by unfold fRoom; decide) (Nat.le_of_ble_eq_true rfl) rfl (cPost_x (t := 0) hC (by unfold oPass ; (repeat (first | rw [if_pos (by first | assumption | exact Int32.not_le.mp (by assumption) | exact Int32.not_lt.mp (by assumption) | omega)] | rw [if_neg (by first | assumption | exact Int32.not_lt.mpr (by assumption) | exact Int32.not_le.mpr (by assumption) | exact bne_of (by assumption) | exact not_not_intro (by assumption) | omega)])); first | done | rfl) rfl)
theorem tX8_sink {l : Launch} {κ : KP} {M : Mem} {ad : Nat → Nat} {g tx : Nat → Int32} {dn n sn ln : Nat} {kp : Bool} (hA : aInj ad) (hC : ClsAt κ ad M ⟨g, sn, kp, tx, ln⟩ dn n) {p0 : Int32} {p1 : Int32} {p2 : Int32} {p3 : Int32} : fM l κ mX8_sink [.ref (ad 254), .int (p0), .int (p1), .int (p2), .int (p3)] M (cPost κ ad M ["java/lang/IndexOutOfBoundsException", "java/lang/IllegalArgumentException", "java/lang/IllegalStateException"] (oSink ⟨g, sn, kp, tx, ln⟩ dn n p0 p1 p2 p3)) := by
  refine fM_of rfl (by decide +kernel) (Nat.le_of_ble_eq_true rfl) ?_
  obtain ⟨hX, hS, hI, hT, ch, hTX⟩ := id hC
  replace hS : LabsAt ad M g sn kp dn n := hS
  replace hI : BI g dn n := hI
  replace hT : TextAt κ ad M tx ln := hT
  replace hTX : TX tx ln ch := hTX
  obtain ⟨π, h0⟩ := hS.main
  have hs6 := hS.s6
  obtain ⟨fD, hfD, hvD⟩ := h0.drs
  obtain ⟨fS, hfS, hvS⟩ := h0.sps
  obtain ⟨fN, hfN, hvN⟩ := h0.nds
  obtain ⟨fG, hfG, hvG⟩ := h0.dgs
  obtain ⟨fT, hfT, hvT⟩ := h0.sts
  have hdn := h0.dl
  have hn := h0.nl
  show fR l κ mX8_sink 0 [(0, .ref (ad 254)), (1, .int (p0)), (2, .int (p1)), (3, .int (p2)), (4, .int (p3))] [] M 5 30 _
  refine r_iload_n dX8_sink_0 rfl ?_
  refine r_iconst (v := nI 3) dX8_sink_1 (by decide) ?_
  by_cases c1 : pNo p0 (3) = true
  · skip
    obtain ⟨k0, hk0, ek0⟩ := pNo_t c1 (by omega)
    subst ek0
    have ck0 : cN (nI k0) = k0 := nI_clamp (by omega)
    refine r_callS (As := [.int (nI (k0)), .int (nI (3))]) dX8_sink_2 (tX8_mindNumber_t (by omega) c1) rfl oX8_mindNumber rfl kX8_62M sX8_mindNumber (by unfold fRoom; decide) (Nat.le_of_ble_eq_true rfl) rfl (bc' := 4) (bs' := 24) rfl rfl ?_
    show fR _ _ _ 5 _ _ _ _ _ _
    refine r_iload_n dX8_sink_5 rfl ?_
    refine r_aload_n dX8_sink_6 rfl ?_
    refine r_get (k := 0) dX8_sink_7 hX rfl rfl (by decide) kX8_10F ?_
    refine r_get (k := 6) dX8_sink_10 h0.lab rfl rfl (by decide) kX8_59F ?_
    by_cases c2 : pNo p1 (n) = true
    · skip
      obtain ⟨k1, hk1, ek1⟩ := pNo_t c2 (by omega)
      subst ek1
      have ck1 : cN (nI k1) = k1 := nI_clamp (by omega)
      refine r_callS (As := [.int (nI (k1)), .int (nI (n))]) dX8_sink_13 (tX8_mindNumber_t (by omega) c2) rfl oX8_mindNumber rfl kX8_62M sX8_mindNumber (by unfold fRoom; decide) (Nat.le_of_ble_eq_true rfl) rfl (bc' := 3) (bs' := 18) rfl rfl ?_
      show fR _ _ _ 16 _ _ _ _ _ _
      refine r_iload_n dX8_sink_16 rfl ?_
      refine r_bipush (v := nI 50) dX8_sink_17 (by decide) ?_
      refine r_sipush (v := nI 200) dX8_sink_19 (by decide) ?_
      by_cases c3 : pIn p2 ((nI (50))) ((nI (200))) = true
      · skip
        obtain ⟨k2, hk2l, hk2, ek2⟩ := pIn_nat4 (by omega) (by omega) c3
        subst ek2
        have ck2 : cN (nI k2) = k2 := nI_clamp (by omega)
        refine r_callS (As := [.int (nI (k2)), .int (nI (50)), .int (nI (200))]) dX8_sink_22 (tX8_mindRange_t c3) rfl oX8_mindRange rfl kX8_30M sX8_mindRange (by unfold fRoom; decide) (Nat.le_of_ble_eq_true rfl) rfl (bc' := 2) (bs' := 12) rfl rfl ?_
        show fR _ _ _ 25 _ _ _ _ _ _
        refine r_iload dX8_sink_25 rfl ?_
        refine r_iconst (v := nI 1) dX8_sink_27 (by decide) ?_
        refine r_bipush (v := nI 60) dX8_sink_28 (by decide) ?_
        by_cases c4 : pIn p3 ((nI (1))) ((nI (60))) = true
        · skip
          obtain ⟨k3, hk3l, hk3, ek3⟩ := pIn_nat4 (by omega) (by omega) c4
          subst ek3
          have ck3 : cN (nI k3) = k3 := nI_clamp (by omega)
          refine r_callS (As := [.int (nI (k3)), .int (nI (1)), .int (nI (60))]) dX8_sink_30 (tX8_mindRange_t c4) rfl oX8_mindRange rfl kX8_30M sX8_mindRange (by unfold fRoom; decide) (Nat.le_of_ble_eq_true rfl) rfl (bc' := 1) (bs' := 6) rfl rfl ?_
          show fR _ _ _ 33 _ _ _ _ _ _
          refine r_aload_n dX8_sink_33 rfl ?_
          refine r_get (k := 0) dX8_sink_34 hX rfl rfl (by decide) kX8_10F ?_
          refine r_iload_n dX8_sink_37 rfl ?_
          refine r_iload_n dX8_sink_38 rfl ?_
          refine r_callV (As := [.int (nI (k0)), .int (nI (k1))]) dX8_sink_39 (tX2_whyNotSunk h0 hI (by omega) (by omega)) rfl h0.lab rfl rfl oX2_whyNotSunk rfl kX8_87M nX2_whyNotSunk eX2_whyNotSunk (by unfold fRoom; decide) (Nat.le_of_ble_eq_true rfl) rfl (bc' := 1) (bs' := 6) rfl rfl ?_
          show fR _ _ _ 42 _ (.int ((pWhyNot g k0 k1)) :: _) _ _ _ _
          by_cases c5 : pWhyNot g k0 k1 ≤ 0
          · skip
            refine r_callS (As := [.int ((pWhyNot g k0 k1))]) dX8_sink_42 (tX8_refuse_0 (by exact pWhyNot_z.mp (by assumption))) rfl oX8_refuseFor rfl kX8_38M sX8_refuseFor (by unfold fRoom; decide) (Nat.le_of_ble_eq_true rfl) rfl (bc' := 0) (bs' := 0) rfl rfl ?_
            show fR _ _ _ 45 _ _ _ _ _ _
            refine r_aload_n dX8_sink_45 rfl ?_
            refine r_get (k := 1) dX8_sink_46 hX rfl rfl (by decide) kX8_19F ?_
            refine r_aload_n dX8_sink_49 rfl ?_
            refine r_get (k := 0) dX8_sink_50 hX rfl rfl (by decide) kX8_10F ?_
            refine r_callVP (As := [.ref (ad 0)]) dX8_sink_53 (tX1_save hA hS hI) rfl hS.hist rfl rfl oX1_save rfl kX8_42M nX1_save eX1_save (by unfold fRoom; decide) (Nat.le_of_ble_eq_true rfl) rfl (bc' := 0) (bs' := 0) rfl rfl (fun E M9 h => by cases h.1) (fun v M1 hq => ?_)
            obtain ⟨hv1, hS1, hO1⟩ := hq
            cases hv1
            have hI1 := hI.save sn
            have hX1 := (hO1.at hA (by omega) (by omega) (by omega) (by omega)).trans hX
            obtain ⟨π1, h1⟩ := hS1.main
            obtain ⟨fD1, hfD1, hvD1⟩ := h1.drs
            obtain ⟨fS1, hfS1, hvS1⟩ := h1.sps
            obtain ⟨fN1, hfN1, hvN1⟩ := h1.nds
            obtain ⟨fG1, hfG1, hvG1⟩ := h1.dgs
            obtain ⟨fT1, hfT1, hvT1⟩ := h1.sts
            have hdn := h1.dl
            have hn := h1.nl
            show fR _ _ _ 56 _ _ _ _ _ _
            refine r_aload_n dX8_sink_56 rfl ?_
            refine r_get (k := 0) dX8_sink_57 hX1 rfl rfl (by decide) kX8_10F ?_
            refine r_iload_n dX8_sink_60 rfl ?_
            refine r_iload_n dX8_sink_61 rfl ?_
            refine r_iload_n dX8_sink_62 rfl ?_
            refine r_iload dX8_sink_63 rfl ?_
            have h9 : pMany (pSave g sn) k1 < 9 := by rw [pMany_save (by omega)]; exact pWhyNot_0 (hI.mM k1 (by omega)).2 (by assumption)
            refine r_callVP (As := [.int (nI (k0)), .int (nI (k1)), .int (nI (k2)), .int (nI (k3))]) dX8_sink_65 (tX2_read hA (by omega) h1 hI1 (by omega) (by omega) h9 (by omega) (by omega)) rfl h1.lab rfl rfl oX2_read rfl kX8_90M nX2_read eX2_read (by unfold fRoom; decide) (Nat.le_of_ble_eq_true rfl) rfl (bc' := 0) (bs' := 0) rfl rfl (fun E M9 h => by cases h.1) (fun v M2 hq => ?_)
            obtain ⟨hv2, hL2, hO2⟩ := hq
            cases hv2
            show fR _ _ _ 68 _ (.int (pDep (pSave g sn) k0 k1 (nI k2) (nI k3)) :: _) _ _ _ _
            exact fR_iret dX8_sink_68 rfl (cPost_0 (by unfold oSink; simp only [ck0, ck1, ck2, ck3]; (repeat (first | (first | rw [if_pos (by first | assumption | exact Int32.not_le.mp (by assumption) | exact Int32.not_lt.mp (by assumption) | omega)] | rw [if_neg (by first | assumption | exact Int32.not_lt.mpr (by assumption) | exact Int32.not_le.mpr (by assumption) | exact bne_of (by assumption) | exact not_not_intro (by assumption) | omega)]) | rw [if_pos rfl])); first | done | rfl) (cls_own hA hC hS1 hO1 hL2 hO2 (hI1.sink hk0 hk1 h9) (far_sink (by omega) hk0 h9)))
          · skip
            exact r_callSX (As := [.int ((pWhyNot g k0 k1))]) dX8_sink_42 (tX8_refuse_x (by exact fun h => absurd (pWhyNot_z.mpr h) (by assumption)) (by exact pWhyNot_13)) rfl oX8_refuseFor rfl kX8_38M sX8_refuseFor (by unfold fRoom; decide) (Nat.le_of_ble_eq_true rfl) rfl (cPost_x (t := 2) hC (by unfold oSink; simp only [ck0, ck1, ck2, ck3]; (repeat (first | (first | rw [if_pos (by first | assumption | exact Int32.not_le.mp (by assumption) | exact Int32.not_lt.mp (by assumption) | omega)] | rw [if_neg (by first | assumption | exact Int32.not_lt.mpr (by assumption) | exact Int32.not_le.mpr (by assumption) | exact bne_of (by assumption) | exact not_not_intro (by assumption) | omega)]) | rw [if_pos rfl])); first | done | rfl) rfl)
        · skip
          exact r_callSX (As := [.int (p3), .int (nI (1)), .int (nI (60))]) dX8_sink_30 (tX8_mindRange_f (bf_of c4)) rfl oX8_mindRange rfl kX8_30M sX8_mindRange (by unfold fRoom; decide) (Nat.le_of_ble_eq_true rfl) rfl (cPost_x (t := 1) hC (by unfold oSink ; simp only [ck0, ck1, ck2]; (repeat (first | rw [if_pos (by first | assumption | exact Int32.not_le.mp (by assumption) | exact Int32.not_lt.mp (by assumption) | omega)] | rw [if_neg (by first | assumption | exact Int32.not_lt.mpr (by assumption) | exact Int32.not_le.mpr (by assumption) | exact bne_of (by assumption) | exact not_not_intro (by assumption) | omega)])); first | done | rfl) rfl)
      · skip
        exact r_callSX (As := [.int (p2), .int (nI (50)), .int (nI (200))]) dX8_sink_22 (tX8_mindRange_f (bf_of c3)) rfl oX8_mindRange rfl kX8_30M sX8_mindRange (by unfold fRoom; decide) (Nat.le_of_ble_eq_true rfl) rfl (cPost_x (t := 1) hC (by unfold oSink ; simp only [ck0, ck1]; (repeat (first | rw [if_pos (by first | assumption | exact Int32.not_le.mp (by assumption) | exact Int32.not_lt.mp (by assumption) | omega)] | rw [if_neg (by first | assumption | exact Int32.not_lt.mpr (by assumption) | exact Int32.not_le.mpr (by assumption) | exact bne_of (by assumption) | exact not_not_intro (by assumption) | omega)])); first | done | rfl) rfl)
    · skip
      exact r_callSX (As := [.int (p1), .int (nI (n))]) dX8_sink_13 (tX8_mindNumber_f (by omega) (bf_of c2)) rfl oX8_mindNumber rfl kX8_62M sX8_mindNumber (by unfold fRoom; decide) (Nat.le_of_ble_eq_true rfl) rfl (cPost_x (t := 0) hC (by unfold oSink ; simp only [ck0]; (repeat (first | rw [if_pos (by first | assumption | exact Int32.not_le.mp (by assumption) | exact Int32.not_lt.mp (by assumption) | omega)] | rw [if_neg (by first | assumption | exact Int32.not_lt.mpr (by assumption) | exact Int32.not_le.mpr (by assumption) | exact bne_of (by assumption) | exact not_not_intro (by assumption) | omega)])); first | done | rfl) rfl)
  · skip
    exact r_callSX (As := [.int (p0), .int (nI (3))]) dX8_sink_2 (tX8_mindNumber_f (by omega) (bf_of c1)) rfl oX8_mindNumber rfl kX8_62M sX8_mindNumber (by unfold fRoom; decide) (Nat.le_of_ble_eq_true rfl) rfl (cPost_x (t := 0) hC (by unfold oSink ; (repeat (first | rw [if_pos (by first | assumption | exact Int32.not_le.mp (by assumption) | exact Int32.not_lt.mp (by assumption) | omega)] | rw [if_neg (by first | assumption | exact Int32.not_lt.mpr (by assumption) | exact Int32.not_le.mpr (by assumption) | exact bne_of (by assumption) | exact not_not_intro (by assumption) | omega)])); first | done | rfl) rfl)
theorem tX8_renew {l : Launch} {κ : KP} {M : Mem} {ad : Nat → Nat} {g tx : Nat → Int32} {dn n sn ln : Nat} {kp : Bool} (hA : aInj ad) (hC : ClsAt κ ad M ⟨g, sn, kp, tx, ln⟩ dn n) {p0 : Int32} : fM l κ mX8_renew [.ref (ad 254), .int (p0)] M (cPost κ ad M ["java/lang/IndexOutOfBoundsException"] (oRenew ⟨g, sn, kp, tx, ln⟩ dn n p0)) := by
  refine fM_of rfl (by decide +kernel) (Nat.le_of_ble_eq_true rfl) ?_
  obtain ⟨hX, hS, hI, hT, ch, hTX⟩ := id hC
  replace hS : LabsAt ad M g sn kp dn n := hS
  replace hI : BI g dn n := hI
  replace hT : TextAt κ ad M tx ln := hT
  replace hTX : TX tx ln ch := hTX
  obtain ⟨π, h0⟩ := hS.main
  have hs6 := hS.s6
  obtain ⟨fD, hfD, hvD⟩ := h0.drs
  obtain ⟨fS, hfS, hvS⟩ := h0.sps
  obtain ⟨fN, hfN, hvN⟩ := h0.nds
  obtain ⟨fG, hfG, hvG⟩ := h0.dgs
  obtain ⟨fT, hfT, hvT⟩ := h0.sts
  have hdn := h0.dl
  have hn := h0.nl
  show fR l κ mX8_renew 0 [(0, .ref (ad 254)), (1, .int (p0))] [] M 1 6 _
  refine r_iload_n dX8_renew_0 rfl ?_
  refine r_iconst (v := nI 3) dX8_renew_1 (by decide) ?_
  by_cases c1 : pNo p0 (3) = true
  · skip
    obtain ⟨k0, hk0, ek0⟩ := pNo_t c1 (by omega)
    subst ek0
    have ck0 : cN (nI k0) = k0 := nI_clamp (by omega)
    refine r_callS (As := [.int (nI (k0)), .int (nI (3))]) dX8_renew_2 (tX8_mindNumber_t (by omega) c1) rfl oX8_mindNumber rfl kX8_62M sX8_mindNumber (by unfold fRoom; decide) (Nat.le_of_ble_eq_true rfl) rfl (bc' := 0) (bs' := 0) rfl rfl ?_
    show fR _ _ _ 5 _ _ _ _ _ _
    refine r_aload_n dX8_renew_5 rfl ?_
    refine r_get (k := 1) dX8_renew_6 hX rfl rfl (by decide) kX8_19F ?_
    refine r_aload_n dX8_renew_9 rfl ?_
    refine r_get (k := 0) dX8_renew_10 hX rfl rfl (by decide) kX8_10F ?_
    refine r_callVP (As := [.ref (ad 0)]) dX8_renew_13 (tX1_save hA hS hI) rfl hS.hist rfl rfl oX1_save rfl kX8_42M nX1_save eX1_save (by unfold fRoom; decide) (Nat.le_of_ble_eq_true rfl) rfl (bc' := 0) (bs' := 0) rfl rfl (fun E M9 h => by cases h.1) (fun v M1 hq => ?_)
    obtain ⟨hv1, hS1, hO1⟩ := hq
    cases hv1
    have hI1 := hI.save sn
    have hX1 := (hO1.at hA (by omega) (by omega) (by omega) (by omega)).trans hX
    obtain ⟨π1, h1⟩ := hS1.main
    obtain ⟨fD1, hfD1, hvD1⟩ := h1.drs
    obtain ⟨fS1, hfS1, hvS1⟩ := h1.sps
    obtain ⟨fN1, hfN1, hvN1⟩ := h1.nds
    obtain ⟨fG1, hfG1, hvG1⟩ := h1.dgs
    obtain ⟨fT1, hfT1, hvT1⟩ := h1.sts
    have hdn := h1.dl
    have hn := h1.nl
    show fR _ _ _ 16 _ _ _ _ _ _
    refine r_aload_n dX8_renew_16 rfl ?_
    refine r_get (k := 0) dX8_renew_17 hX1 rfl rfl (by decide) kX8_10F ?_
    refine r_dup dX8_renew_20 rfl ?_
    refine r_get (k := 8) dX8_renew_21 h1.lab rfl rfl (by decide) kX8_94F ?_
    refine r_iconst (v := nI 1) dX8_renew_24 (by decide) ?_
    refine r_iadd dX8_renew_25 ?_
    refine r_put (k := 8) (fs' := [.ref (ad (0 + 1)), .ref (ad (0 + 2)), .ref (ad (0 + 3)), .ref (ad (0 + 4)), .ref (ad (0 + 5)), .int (nI (dn)), .int (nI (n)), .int ((pSave g sn) 3), .int ((((pSave g sn) 4) + (nI (1)))), .int ((pSave g sn) 8), .int ((pSave g sn) 9)]) dX8_renew_26 h1.lab rfl (by decide) kX8_94F rfl rfl rfl (Nat.le_of_ble_eq_true rfl) rfl ?_
    have h2 := W_num hA (by omega) h1 hI1 (g' := upd (pSave g sn) 4 (pSave g sn 4 + nI 1)) (x3 := pSave g sn 3) (x4 := pSave g sn 4 + nI 1) (x8 := pSave g sn 8) (x9 := pSave g sn 9) rfl rfl rfl rfl (fun j _ hj => pk_un (by omega))
    obtain ⟨fN2, hfN2, hvN2⟩ := h2.nds
    refine r_aload_n dX8_renew_29 rfl ?_
    refine r_get (k := 0) dX8_renew_30 ((fup_ne (hA.ne (by omega) (by omega) (by omega))).trans hX1) rfl rfl (by decide) kX8_10F ?_
    refine r_get (k := 2) dX8_renew_33 h2.lab rfl rfl (by decide) kX8_97F ?_
    refine r_iload_n dX8_renew_36 rfl ?_
    refine r_aldqN dX8_renew_37 hfN2 rfl (by omega) (by decide) (hvN2 _ (by omega)) ?_
    refine r_callV (As := []) dX8_renew_38 (tX3_makeNew (h2.nd k0 hk0)) rfl (h2.nd _ (by omega)) rfl rfl oX3_makeNew rfl kX8_101M nX3_makeNew eX3_makeNew (by unfold fRoom; decide) (Nat.le_of_ble_eq_true rfl) rfl (bc' := 0) (bs' := 0) rfl rfl ?_
    show fR _ _ _ 41 _ (.int (upd (pSave g sn) 4 (pSave g sn 4 + nI 1) (31 + 3 * k0 + 0)) :: _) _ _ _ _
    have ev : upd (pSave g sn) 4 (pSave g sn 4 + nI 1) (31 + 3 * k0 + 0) = g (31 + 3 * k0 + 0) := by rw [pk_un (by omega), pSave_lo (by omega)]
    rw [ev]
    have hL2 := (W_new hA (by omega) h2 hI1.u4 hk0).congr (g' := pRenew (pSave g sn) k0) (fun j hj => by rw [pMany_un (by omega), pMany_un (by omega), pMany_un (by omega)]; exact hI1.k9 j hj) (fun j hj => by unfold pRenew upd; (repeat' split); all_goals first | rfl | omega)
    exact fR_iret dX8_renew_41 rfl (cPost_0 (by unfold oRenew; simp only [ck0]; (repeat (first | (first | rw [if_pos (by first | assumption | exact Int32.not_le.mp (by assumption) | exact Int32.not_lt.mp (by assumption) | omega)] | rw [if_neg (by first | assumption | exact Int32.not_lt.mpr (by assumption) | exact Int32.not_le.mpr (by assumption) | exact bne_of (by assumption) | exact not_not_intro (by assumption) | omega)]) | rw [if_pos rfl])); first | done | rfl) (cls_own hA hC hS1 hO1 hL2 ((Off.up0 (by omega)).trans (Off.upE (t := 28 + k0) (by omega) (by omega))) (hI1.renew hk0) (fun j h1 h2 => by unfold pRenew; rw [pk_un (by omega), pk_un (by omega), pk_un (by omega)])))
  · skip
    exact r_callSX (As := [.int (p0), .int (nI (3))]) dX8_renew_2 (tX8_mindNumber_f (by omega) (bf_of c1)) rfl oX8_mindNumber rfl kX8_62M sX8_mindNumber (by unfold fRoom; decide) (Nat.le_of_ble_eq_true rfl) rfl (cPost_x (t := 0) hC (by unfold oRenew ; (repeat (first | rw [if_pos (by first | assumption | exact Int32.not_le.mp (by assumption) | exact Int32.not_lt.mp (by assumption) | omega)] | rw [if_neg (by first | assumption | exact Int32.not_lt.mpr (by assumption) | exact Int32.not_le.mpr (by assumption) | exact bne_of (by assumption) | exact not_not_intro (by assumption) | omega)])); first | done | rfl) rfl)
theorem tX8_ring {l : Launch} {κ : KP} {M : Mem} {ad : Nat → Nat} {g tx : Nat → Int32} {dn n sn ln : Nat} {kp : Bool} (hA : aInj ad) (hC : ClsAt κ ad M ⟨g, sn, kp, tx, ln⟩ dn n) {p0 : Int32} : fM l κ mX8_ring [.ref (ad 254), .int (p0)] M (cPost κ ad M ["java/lang/IndexOutOfBoundsException", "java/lang/IllegalStateException"] (oRing ⟨g, sn, kp, tx, ln⟩ dn n p0)) := by
  refine fM_of rfl (by decide +kernel) (Nat.le_of_ble_eq_true rfl) ?_
  obtain ⟨hX, hS, hI, hT, ch, hTX⟩ := id hC
  replace hS : LabsAt ad M g sn kp dn n := hS
  replace hI : BI g dn n := hI
  replace hT : TextAt κ ad M tx ln := hT
  replace hTX : TX tx ln ch := hTX
  obtain ⟨π, h0⟩ := hS.main
  have hs6 := hS.s6
  obtain ⟨fD, hfD, hvD⟩ := h0.drs
  obtain ⟨fS, hfS, hvS⟩ := h0.sps
  obtain ⟨fN, hfN, hvN⟩ := h0.nds
  obtain ⟨fG, hfG, hvG⟩ := h0.dgs
  obtain ⟨fT, hfT, hvT⟩ := h0.sts
  have hdn := h0.dl
  have hn := h0.nl
  show fR l κ mX8_ring 0 [(0, .ref (ad 254)), (1, .int (p0))] [] M 1 6 _
  refine r_aload_n dX8_ring_0 rfl ?_
  refine r_get (k := 0) dX8_ring_1 hX rfl rfl (by decide) kX8_10F ?_
  refine r_iload_n dX8_ring_4 rfl ?_
  refine r_callV (As := [.int (p0)]) dX8_ring_5 (tX2_whyNotSoftened h0 hI) rfl h0.lab rfl rfl oX2_whyNotSoftened rfl kX8_106M nX2_whyNotSoftened eX2_whyNotSoftened (by unfold fRoom; decide) (Nat.le_of_ble_eq_true rfl) rfl (bc' := 1) (bs' := 6) rfl rfl ?_
  show fR _ _ _ 8 _ (.int ((pSoftd g n p0)) :: _) _ _ _ _
  by_cases c1 : pNo p0 n = true
  · skip
    obtain ⟨k0, hk0, ek0⟩ := pNo_t c1 (by omega)
    subst ek0
    have ck0 : cN (nI k0) = k0 := nI_clamp (by omega)
    by_cases c2 : pOf g k0 3 = -1
    · skip
      refine r_callS (As := [.int ((pSoftd g n (nI (k0))))]) dX8_ring_8 (tX8_refuse_0 (by unfold pSoftd; simp only [ck0]; (repeat (first | (first | rw [if_pos (by first | assumption | exact Int32.not_le.mp (by assumption) | exact Int32.not_lt.mp (by assumption) | omega)] | rw [if_neg (by first | assumption | exact Int32.not_lt.mpr (by assumption) | exact Int32.not_le.mpr (by assumption) | exact bne_of (by assumption) | exact not_not_intro (by assumption) | omega)]) | rw [if_pos rfl])); first | done | rfl)) rfl oX8_refuseFor rfl kX8_38M sX8_refuseFor (by unfold fRoom; decide) (Nat.le_of_ble_eq_true rfl) rfl (bc' := 0) (bs' := 0) rfl rfl ?_
      show fR _ _ _ 11 _ _ _ _ _ _
      refine r_aload_n dX8_ring_11 rfl ?_
      refine r_get (k := 1) dX8_ring_12 hX rfl rfl (by decide) kX8_19F ?_
      refine r_aload_n dX8_ring_15 rfl ?_
      refine r_get (k := 0) dX8_ring_16 hX rfl rfl (by decide) kX8_10F ?_
      refine r_callVP (As := [.ref (ad 0)]) dX8_ring_19 (tX1_save hA hS hI) rfl hS.hist rfl rfl oX1_save rfl kX8_42M nX1_save eX1_save (by unfold fRoom; decide) (Nat.le_of_ble_eq_true rfl) rfl (bc' := 0) (bs' := 0) rfl rfl (fun E M9 h => by cases h.1) (fun v M1 hq => ?_)
      obtain ⟨hv1, hS1, hO1⟩ := hq
      cases hv1
      have hI1 := hI.save sn
      have hX1 := (hO1.at hA (by omega) (by omega) (by omega) (by omega)).trans hX
      obtain ⟨π1, h1⟩ := hS1.main
      obtain ⟨fD1, hfD1, hvD1⟩ := h1.drs
      obtain ⟨fS1, hfS1, hvS1⟩ := h1.sps
      obtain ⟨fN1, hfN1, hvN1⟩ := h1.nds
      obtain ⟨fG1, hfG1, hvG1⟩ := h1.dgs
      obtain ⟨fT1, hfT1, hvT1⟩ := h1.sts
      have hdn := h1.dl
      have hn := h1.nl
      show fR _ _ _ 22 _ _ _ _ _ _
      refine r_aload_n dX8_ring_22 rfl ?_
      refine r_get (k := 0) dX8_ring_23 hX1 rfl rfl (by decide) kX8_10F ?_
      refine r_get (k := 1) dX8_ring_26 h1.lab rfl rfl (by decide) kX8_109F ?_
      refine r_iload_n dX8_ring_29 rfl ?_
      refine r_aldqN dX8_ring_30 hfS1 rfl (by omega) (by decide) (hvS1 _ (by omega)) ?_
      by_cases c3 : pOf (pSave g sn) k0 4 = -1
      · skip
        obtain ⟨e1, f, e2, e3⟩ := h1.sp k0 hk0
        obtain ⟨hd, hhd, ehd⟩ := (hI1.spok hk0).1
        have e5 := (hI1.spok hk0).m5
        rw [ehd, e5] at e1
        have hL2 := W_soft hA (by omega) h1 hI1 hk0 (b := cRing (nI hd) (nI (pMany (pSave g sn) k0)))
        rw [ehd, e5] at hL2
        have er : cRing (nI hd) (nI (pMany (pSave g sn) k0)) = pRingV (pSave g sn) k0 := by rw [← ehd, ← e5]; exact cRing_eq
        have h4 : pOf (pSave g sn) k0 4 = -1 := c3
        refine r_callV (As := []) dX8_ring_31 (tX6_soften_0 e1 h4) rfl e1 rfl rfl oX6_soften rfl kX8_113M nX6_soften eX6_soften (by unfold fRoom; decide) (Nat.le_of_ble_eq_true rfl) rfl (bc' := 0) (bs' := 0) rfl rfl ?_
        show fR _ _ _ 34 _ (.int (cRing (nI hd) (nI (pMany (pSave g sn) k0))) :: _) _ _ _ _
        have eR : pRing (pSave g sn) k0 = upd (pSave g sn) (40 + 42 * k0 + 4) (cRing (nI hd) (nI (pMany (pSave g sn) k0))) := by rw [er]; exact if_pos h4
        have eV : pRingR (pSave g sn) k0 = cRing (nI hd) (nI (pMany (pSave g sn) k0)) := by rw [er]; exact if_pos h4
        rw [← eR] at hL2
        have hp := h1.pl k0 (by omega)
        exact fR_iret dX8_ring_34 rfl (cPost_0 (by rw [← eV]; unfold oRing; simp only [ck0]; (repeat (first | (first | rw [if_pos (by first | assumption | exact Int32.not_le.mp (by assumption) | exact Int32.not_lt.mp (by assumption) | omega)] | rw [if_neg (by first | assumption | exact Int32.not_lt.mpr (by assumption) | exact Int32.not_le.mpr (by assumption) | exact bne_of (by assumption) | exact not_not_intro (by assumption) | omega)]) | rw [if_pos rfl])); first | done | rfl) (cls_own hA hC hS1 hO1 hL2 (Off.upE (t := 12 + π1 k0) (by omega) (by omega)) (hI1.ring hk0) (far_ring (by omega))))
      · skip
        obtain ⟨e1, f, e2, e3⟩ := h1.sp k0 hk0
        obtain ⟨hd, hhd, ehd⟩ := (hI1.spok hk0).1
        have e5 := (hI1.spok hk0).m5
        rw [ehd, e5] at e1
        have h4 : ¬ pOf (pSave g sn) k0 4 = -1 := c3
        refine r_callV (As := []) dX8_ring_31 (tX6_soften_1 e1 h4) rfl e1 rfl rfl oX6_soften rfl kX8_113M nX6_soften eX6_soften (by unfold fRoom; decide) (Nat.le_of_ble_eq_true rfl) rfl (bc' := 0) (bs' := 0) rfl rfl ?_
        show fR _ _ _ 34 _ (.int (pOf (pSave g sn) k0 4) :: _) _ _ _ _
        have eR : pRing (pSave g sn) k0 = pSave g sn := if_neg h4
        have eV : pRingR (pSave g sn) k0 = pOf (pSave g sn) k0 4 := if_neg h4
        have hL2 := h1
        rw [← eR] at hL2
        exact fR_iret dX8_ring_34 rfl (cPost_0 (by rw [← eV]; unfold oRing; simp only [ck0]; (repeat (first | (first | rw [if_pos (by first | assumption | exact Int32.not_le.mp (by assumption) | exact Int32.not_lt.mp (by assumption) | omega)] | rw [if_neg (by first | assumption | exact Int32.not_lt.mpr (by assumption) | exact Int32.not_le.mpr (by assumption) | exact bne_of (by assumption) | exact not_not_intro (by assumption) | omega)]) | rw [if_pos rfl])); first | done | rfl) (cls_own hA hC hS1 hO1 hL2 Off.refl (hI1.ring hk0) (far_ring (by omega))))
    · skip
      exact r_callSX (As := [.int ((pSoftd g n (nI (k0))))]) dX8_ring_8 (tX8_refuse_x (by unfold pSoftd; simp only [ck0]; (repeat (first | (first | rw [if_pos (by first | assumption | exact Int32.not_le.mp (by assumption) | exact Int32.not_lt.mp (by assumption) | omega)] | rw [if_neg (by first | assumption | exact Int32.not_lt.mpr (by assumption) | exact Int32.not_le.mpr (by assumption) | exact bne_of (by assumption) | exact not_not_intro (by assumption) | omega)]) | rw [if_pos rfl])); decide) (by unfold pSoftd; simp only [ck0]; (repeat (first | (first | rw [if_pos (by first | assumption | exact Int32.not_le.mp (by assumption) | exact Int32.not_lt.mp (by assumption) | omega)] | rw [if_neg (by first | assumption | exact Int32.not_lt.mpr (by assumption) | exact Int32.not_le.mpr (by assumption) | exact bne_of (by assumption) | exact not_not_intro (by assumption) | omega)]) | rw [if_pos rfl])); decide)) rfl oX8_refuseFor rfl kX8_38M sX8_refuseFor (by unfold fRoom; decide) (Nat.le_of_ble_eq_true rfl) rfl (cPost_x (t := 1) hC (by unfold oRing; simp only [ck0]; (repeat (first | (first | rw [if_pos (by first | assumption | exact Int32.not_le.mp (by assumption) | exact Int32.not_lt.mp (by assumption) | omega)] | rw [if_neg (by first | assumption | exact Int32.not_lt.mpr (by assumption) | exact Int32.not_le.mpr (by assumption) | exact bne_of (by assumption) | exact not_not_intro (by assumption) | omega)]) | rw [if_pos rfl])); first | done | rfl) rfl)
  · skip
    exact r_callSX (As := [.int ((pSoftd g n p0))]) dX8_ring_8 (tX8_refuse_13 (by unfold pSoftd; rw [if_neg (by assumption)])) rfl oX8_refuseFor rfl kX8_38M sX8_refuseFor (by unfold fRoom; decide) (Nat.le_of_ble_eq_true rfl) rfl (cPost_x (t := 0) hC (by unfold oRing; (repeat (first | (first | rw [if_pos (by first | assumption | exact Int32.not_le.mp (by assumption) | exact Int32.not_lt.mp (by assumption) | omega)] | rw [if_neg (by first | assumption | exact Int32.not_lt.mpr (by assumption) | exact Int32.not_le.mpr (by assumption) | exact bne_of (by assumption) | exact not_not_intro (by assumption) | omega)]) | rw [if_pos rfl])); first | done | rfl) rfl)
theorem tX8_sell {l : Launch} {κ : KP} {M : Mem} {ad : Nat → Nat} {g tx : Nat → Int32} {dn n sn ln : Nat} {kp : Bool} (hA : aInj ad) (hC : ClsAt κ ad M ⟨g, sn, kp, tx, ln⟩ dn n) {p0 : Int32} : fM l κ mX8_sell [.ref (ad 254), .int (p0)] M (cPost κ ad M ["java/lang/IndexOutOfBoundsException", "java/lang/IllegalStateException"] (oSell ⟨g, sn, kp, tx, ln⟩ dn n p0)) := by
  refine fM_of rfl (by decide +kernel) (Nat.le_of_ble_eq_true rfl) ?_
  obtain ⟨hX, hS, hI, hT, ch, hTX⟩ := id hC
  replace hS : LabsAt ad M g sn kp dn n := hS
  replace hI : BI g dn n := hI
  replace hT : TextAt κ ad M tx ln := hT
  replace hTX : TX tx ln ch := hTX
  obtain ⟨π, h0⟩ := hS.main
  have hs6 := hS.s6
  obtain ⟨fD, hfD, hvD⟩ := h0.drs
  obtain ⟨fS, hfS, hvS⟩ := h0.sps
  obtain ⟨fN, hfN, hvN⟩ := h0.nds
  obtain ⟨fG, hfG, hvG⟩ := h0.dgs
  obtain ⟨fT, hfT, hvT⟩ := h0.sts
  have hdn := h0.dl
  have hn := h0.nl
  show fR l κ mX8_sell 0 [(0, .ref (ad 254)), (1, .int (p0))] [] M 1 6 _
  refine r_aload_n dX8_sell_0 rfl ?_
  refine r_get (k := 0) dX8_sell_1 hX rfl rfl (by decide) kX8_10F ?_
  refine r_iload_n dX8_sell_4 rfl ?_
  refine r_callS (As := [.ref (ad 0), .int (p0)]) dX8_sell_5 (tX7_whyNotSold h0 hI) rfl oX7_whyNotSold rfl kX8_118M sX7_whyNotSold (by unfold fRoom; decide) (Nat.le_of_ble_eq_true rfl) rfl (bc' := 1) (bs' := 6) rfl rfl ?_
  show fR _ _ _ 8 _ (.int ((pSoldv g dn n p0)) :: _) _ _ _ _
  by_cases c1 : pNo p0 dn = true
  · skip
    obtain ⟨k0, hk0, ek0⟩ := pNo_t c1 (by omega)
    subst ek0
    have ck0 : cN (nI k0) = k0 := nI_clamp (by omega)
    by_cases c2 : pWhyS g n k0 ≤ 0
    · skip
      refine r_callS (As := [.int ((pSoldv g dn n (nI (k0))))]) dX8_sell_8 (tX8_refuse_0 (by unfold pSoldv; rw [if_pos (by assumption), ck0]; exact pWhyS_z.mp (by assumption))) rfl oX8_refuseFor rfl kX8_38M sX8_refuseFor (by unfold fRoom; decide) (Nat.le_of_ble_eq_true rfl) rfl (bc' := 0) (bs' := 0) rfl rfl ?_
      show fR _ _ _ 11 _ _ _ _ _ _
      refine r_aload_n dX8_sell_11 rfl ?_
      refine r_get (k := 1) dX8_sell_12 hX rfl rfl (by decide) kX8_19F ?_
      refine r_aload_n dX8_sell_15 rfl ?_
      refine r_get (k := 0) dX8_sell_16 hX rfl rfl (by decide) kX8_10F ?_
      refine r_callVP (As := [.ref (ad 0)]) dX8_sell_19 (tX1_save hA hS hI) rfl hS.hist rfl rfl oX1_save rfl kX8_42M nX1_save eX1_save (by unfold fRoom; decide) (Nat.le_of_ble_eq_true rfl) rfl (bc' := 0) (bs' := 0) rfl rfl (fun E M9 h => by cases h.1) (fun v M1 hq => ?_)
      obtain ⟨hv1, hS1, hO1⟩ := hq
      cases hv1
      have hI1 := hI.save sn
      have hX1 := (hO1.at hA (by omega) (by omega) (by omega) (by omega)).trans hX
      obtain ⟨π1, h1⟩ := hS1.main
      obtain ⟨fD1, hfD1, hvD1⟩ := h1.drs
      obtain ⟨fS1, hfS1, hvS1⟩ := h1.sps
      obtain ⟨fN1, hfN1, hvN1⟩ := h1.nds
      obtain ⟨fG1, hfG1, hvG1⟩ := h1.dgs
      obtain ⟨fT1, hfT1, hvT1⟩ := h1.sts
      have hdn := h1.dl
      have hn := h1.nl
      show fR _ _ _ 22 _ _ _ _ _ _
      refine r_aload_n dX8_sell_22 rfl ?_
      refine r_get (k := 0) dX8_sell_23 hX1 rfl rfl (by decide) kX8_10F ?_
      refine r_iload_n dX8_sell_26 rfl ?_
      have hnum : 2 ≤ pNum (pSave g sn) k0 true n := by rw [pNum_congr hI (fun j hj => pSave_lo hj) n (Nat.le_refl _)]; exact pWhyS_0 (by assumption)
      have hm : ¬ pMean (pSave g sn) n k0 true = -1 := by rcases pMean_nI (d := k0) (q := true) hI1 with ⟨a, -⟩ | ⟨y, hy, -, e⟩; omega; rw [if_pos rfl] at hy; rw [e]; exact nI_m1 (by omega)
      refine r_callSP (As := [.ref (ad 0), .int (nI (k0))]) dX8_sell_27 (tX7_close hA (by omega) h1 hI1 (by omega) hm) rfl oX7_close rfl kX8_124M sX7_close (by unfold fRoom; decide) (Nat.le_of_ble_eq_true rfl) rfl (bc' := 0) (bs' := 0) rfl rfl (fun E M9 h => by cases h.1) (fun v M2 hq => ?_)
      obtain ⟨hv2, hL2, hO2⟩ := hq
      cases hv2
      show fR _ _ _ 30 _ (.int ((pMean (pSave g sn) n k0 true / nI 20)) :: _) _ _ _ _
      exact fR_iret dX8_sell_30 rfl (cPost_0 (by unfold oSell; simp only [ck0]; (repeat (first | (first | rw [if_pos (by first | assumption | exact Int32.not_le.mp (by assumption) | exact Int32.not_lt.mp (by assumption) | omega)] | rw [if_neg (by first | assumption | exact Int32.not_lt.mpr (by assumption) | exact Int32.not_le.mpr (by assumption) | exact bne_of (by assumption) | exact not_not_intro (by assumption) | omega)]) | rw [if_pos rfl])); first | done | rfl) (cls_own hA hC hS1 hO1 hL2 hO2 (hI1.sell hk0 hnum) (fun j h1 h2 => by unfold pSell; exact pk_un (by omega))))
    · skip
      exact r_callSX (As := [.int ((pSoldv g dn n (nI (k0))))]) dX8_sell_8 (tX8_refuse_x (by unfold pSoldv; rw [if_pos (by assumption), ck0]; exact fun h => absurd (pWhyS_z.mpr h) (by assumption)) (by unfold pSoldv; rw [if_pos (by assumption), ck0]; exact pWhyS_13)) rfl oX8_refuseFor rfl kX8_38M sX8_refuseFor (by unfold fRoom; decide) (Nat.le_of_ble_eq_true rfl) rfl (cPost_x (t := 1) hC (by unfold oSell; simp only [ck0]; (repeat (first | (first | rw [if_pos (by first | assumption | exact Int32.not_le.mp (by assumption) | exact Int32.not_lt.mp (by assumption) | omega)] | rw [if_neg (by first | assumption | exact Int32.not_lt.mpr (by assumption) | exact Int32.not_le.mpr (by assumption) | exact bne_of (by assumption) | exact not_not_intro (by assumption) | omega)]) | rw [if_pos rfl])); first | done | rfl) rfl)
  · skip
    exact r_callSX (As := [.int ((pSoldv g dn n p0))]) dX8_sell_8 (tX8_refuse_13 (by unfold pSoldv; rw [if_neg (by assumption)])) rfl oX8_refuseFor rfl kX8_38M sX8_refuseFor (by unfold fRoom; decide) (Nat.le_of_ble_eq_true rfl) rfl (cPost_x (t := 0) hC (by unfold oSell; (repeat (first | (first | rw [if_pos (by first | assumption | exact Int32.not_le.mp (by assumption) | exact Int32.not_lt.mp (by assumption) | omega)] | rw [if_neg (by first | assumption | exact Int32.not_lt.mpr (by assumption) | exact Int32.not_le.mpr (by assumption) | exact bne_of (by assumption) | exact not_not_intro (by assumption) | omega)]) | rw [if_pos rfl])); first | done | rfl) rfl)
