/-! THE CLASS'S SETTINGS, UNDO, SNAPSHOT, BUFFER -/
theorem tX8_set {l : Launch} {κ : KP} {M : Mem} {ad : Nat → Nat} {g tx : Nat → Int32} {dn n sn ln : Nat} {kp : Bool} (hA : aInj ad) (hC : ClsAt κ ad M ⟨g, sn, kp, tx, ln⟩ dn n) {p0 : Int32} {p1 : Int32} : fM l κ mX8_set [.ref (ad 254), .int (p0), .int (p1)] M (cPost κ ad M ["java/lang/IndexOutOfBoundsException", "java/lang/IllegalArgumentException"] (oSet ⟨g, sn, kp, tx, ln⟩ dn n p0 p1)) := by
  refine fM_of rfl (by decide +kernel) (Nat.le_of_ble_eq_true rfl) ?_
  obtain ⟨hX, hS, hI, hT, ch, hTX⟩ := id hC
  replace hS : LabsAt ad M g sn kp dn n := hS
  replace hI : BI g dn n := hI
  replace hT : TextAt κ ad M tx ln := hT
  replace hTX : TX tx ln ch := hTX
  obtain ⟨π, h0⟩ := hS.main
  have hs6 := hS.s6
  obtain ⟨fD, hfD, hvD⟩ := h0.drs
  obtain ⟨fS, hfS, hvS⟩ := h0.sps
  obtain ⟨fN, hfN, hvN⟩ := h0.nds
  obtain ⟨fG, hfG, hvG⟩ := h0.dgs
  obtain ⟨fT, hfT, hvT⟩ := h0.sts
  have hdn := h0.dl
  have hn := h0.nl
  show fR l κ mX8_set 0 [(0, .ref (ad 254)), (1, .int (p0)), (2, .int (p1))] [] M 2 12 _
  refine r_iload_n dX8_set_0 rfl ?_
  refine r_iconst (v := nI 3) dX8_set_1 (by decide) ?_
  by_cases c1 : pNo p0 (3) = true
  · skip
    obtain ⟨k0, hk0, ek0⟩ := pNo_t c1 (by omega)
    subst ek0
    have ck0 : cN (nI k0) = k0 := nI_clamp (by omega)
    refine r_callS (As := [.int (nI (k0)), .int (nI (3))]) dX8_set_2 (tX8_mindNumber_t (by omega) c1) rfl oX8_mindNumber rfl kX8_62M sX8_mindNumber (by unfold fRoom; decide) (Nat.le_of_ble_eq_true rfl) rfl (bc' := 1) (bs' := 6) rfl rfl ?_
    show fR _ _ _ 5 _ _ _ _ _ _
    refine r_iload_n dX8_set_5 rfl ?_
    refine r_iconst (v := nI 0) dX8_set_6 (by decide) ?_
    have hc3 : k0 = 0 ∨ k0 = 1 ∨ k0 = 2 := by omega
    rcases hc3 with rfl | rfl | rfl
    · skip
      refine r_getsMost dX8_set_7 kX8_127F ?_
      refine r_iload_n dX8_set_10 rfl ?_
      refine r_ldMost (v := nI 50) dX8_set_11 (vp_in_nI (by omega) (by decide)) (by decide) ?_
      by_cases c2 : pIn p1 ((nI (0))) ((nI (50))) = true
      · skip
        obtain ⟨k1, hk1l, hk1, ek1⟩ := pIn_nat4 (by omega) (by omega) c2
        subst ek1
        have ck1 : cN (nI k1) = k1 := nI_clamp (by omega)
        refine r_callS (As := [.int (nI (k1)), .int (nI (0)), .int (nI (50))]) dX8_set_12 (tX8_mindRange_t c2) rfl oX8_mindRange rfl kX8_30M sX8_mindRange (by unfold fRoom; decide) (Nat.le_of_ble_eq_true rfl) rfl (bc' := 0) (bs' := 0) rfl rfl ?_
        show fR _ _ _ 15 _ _ _ _ _ _
        refine r_aload_n dX8_set_15 rfl ?_
        refine r_get (k := 1) dX8_set_16 hX rfl rfl (by decide) kX8_19F ?_
        refine r_aload_n dX8_set_19 rfl ?_
        refine r_get (k := 0) dX8_set_20 hX rfl rfl (by decide) kX8_10F ?_
        refine r_callVP (As := [.ref (ad 0)]) dX8_set_23 (tX1_save hA hS hI) rfl hS.hist rfl rfl oX1_save rfl kX8_42M nX1_save eX1_save (by unfold fRoom; decide) (Nat.le_of_ble_eq_true rfl) rfl (bc' := 0) (bs' := 0) rfl rfl (fun E M9 h => by cases h.1) (fun v M1 hq => ?_)
        obtain ⟨hv1, hS1, hO1⟩ := hq
        cases hv1
        have hI1 := hI.save sn
        have hX1 := (hO1.at hA (by omega) (by omega) (by omega) (by omega)).trans hX
        obtain ⟨π1, h1⟩ := hS1.main
        obtain ⟨fD1, hfD1, hvD1⟩ := h1.drs
        obtain ⟨fS1, hfS1, hvS1⟩ := h1.sps
        obtain ⟨fN1, hfN1, hvN1⟩ := h1.nds
        obtain ⟨fG1, hfG1, hvG1⟩ := h1.dgs
        obtain ⟨fT1, hfT1, hvT1⟩ := h1.sts
        have hdn := h1.dl
        have hn := h1.nl
        show fR _ _ _ 26 _ _ _ _ _ _
        refine r_aload_n dX8_set_26 rfl ?_
        refine r_get (k := 0) dX8_set_27 hX1 rfl rfl (by decide) kX8_10F ?_
        refine r_get (k := 4) dX8_set_30 h1.lab rfl rfl (by decide) kX8_130F ?_
        refine r_iload_n dX8_set_33 rfl ?_
        refine r_ialdN dX8_set_34 hfT1 (by omega) (by decide) (hvT1 _ (by omega)) ?_
        refine r_istore_n (lv' := [(3, .int ((pSave g sn) (5 + (0)))), (0, .ref (ad 254)), (1, .int (nI (0))), (2, .int (nI (k1)))]) dX8_set_35 (by decide) rfl ?_
        refine r_aload_n dX8_set_36 rfl ?_
        refine r_get (k := 0) dX8_set_37 hX1 rfl rfl (by decide) kX8_10F ?_
        refine r_get (k := 4) dX8_set_40 h1.lab rfl rfl (by decide) kX8_130F ?_
        refine r_iload_n dX8_set_43 rfl ?_
        refine r_iload_n dX8_set_44 rfl ?_
        refine r_iastN dX8_set_45 hfT1 (by omega) (by decide) ?_
        have hL2 := W_set hA (by omega) h1 hI1 hvT1 (show 0 < 3 by omega) (x := (nI (k1)))
        refine r_iload_n dX8_set_46 rfl ?_
        have ev : pSave g sn (5 + 0) = g (5 + 0) := pSave_lo (by omega)
        rw [ev]
        exact fR_iret dX8_set_47 rfl (cPost_0 (by unfold oSet; rw [pNo_3]; simp only [ck0, ck1]; (repeat (first | (first | rw [if_pos (by first | assumption | exact Int32.not_le.mp (by assumption) | exact Int32.not_lt.mp (by assumption) | omega)] | rw [if_neg (by first | assumption | exact Int32.not_lt.mpr (by assumption) | exact Int32.not_le.mpr (by assumption) | exact bne_of (by assumption) | exact not_not_intro (by assumption) | omega)]) | rw [if_pos rfl] | rw [if_pos True.intro])); first | done | rfl) (cls_own hA hC hS1 hO1 hL2 (Off.up (by omega)) (hI1.uSet5 hk1) (fun j h1 h2 => pk_un (by omega))))
      · skip
        exact r_callSX (As := [.int (p1), .int (nI (0)), .int (nI (50))]) dX8_set_12 (tX8_mindRange_f (bf_of c2)) rfl oX8_mindRange rfl kX8_30M sX8_mindRange (by unfold fRoom; decide) (Nat.le_of_ble_eq_true rfl) rfl (cPost_x (t := 1) hC (by unfold oSet; rw [pNo_3]; simp only [ck0]; (repeat (first | (first | rw [if_pos (by first | assumption | exact Int32.not_le.mp (by assumption) | exact Int32.not_lt.mp (by assumption) | omega)] | rw [if_neg (by first | assumption | exact Int32.not_lt.mpr (by assumption) | exact Int32.not_le.mpr (by assumption) | exact bne_of (by assumption) | exact not_not_intro (by assumption) | omega)]) | rw [if_pos rfl] | rw [if_pos True.intro])); first | done | rfl) rfl)
    · skip
      refine r_getsMost dX8_set_7 kX8_127F ?_
      refine r_iload_n dX8_set_10 rfl ?_
      refine r_ldMost (v := nI 100) dX8_set_11 (vp_in_nI (by omega) (by decide)) (by decide) ?_
      by_cases c3 : pIn p1 ((nI (0))) ((nI (100))) = true
      · skip
        obtain ⟨k1, hk1l, hk1, ek1⟩ := pIn_nat4 (by omega) (by omega) c3
        subst ek1
        have ck1 : cN (nI k1) = k1 := nI_clamp (by omega)
        refine r_callS (As := [.int (nI (k1)), .int (nI (0)), .int (nI (100))]) dX8_set_12 (tX8_mindRange_t c3) rfl oX8_mindRange rfl kX8_30M sX8_mindRange (by unfold fRoom; decide) (Nat.le_of_ble_eq_true rfl) rfl (bc' := 0) (bs' := 0) rfl rfl ?_
        show fR _ _ _ 15 _ _ _ _ _ _
        refine r_aload_n dX8_set_15 rfl ?_
        refine r_get (k := 1) dX8_set_16 hX rfl rfl (by decide) kX8_19F ?_
        refine r_aload_n dX8_set_19 rfl ?_
        refine r_get (k := 0) dX8_set_20 hX rfl rfl (by decide) kX8_10F ?_
        refine r_callVP (As := [.ref (ad 0)]) dX8_set_23 (tX1_save hA hS hI) rfl hS.hist rfl rfl oX1_save rfl kX8_42M nX1_save eX1_save (by unfold fRoom; decide) (Nat.le_of_ble_eq_true rfl) rfl (bc' := 0) (bs' := 0) rfl rfl (fun E M9 h => by cases h.1) (fun v M1 hq => ?_)
        obtain ⟨hv1, hS1, hO1⟩ := hq
        cases hv1
        have hI1 := hI.save sn
        have hX1 := (hO1.at hA (by omega) (by omega) (by omega) (by omega)).trans hX
        obtain ⟨π1, h1⟩ := hS1.main
        obtain ⟨fD1, hfD1, hvD1⟩ := h1.drs
        obtain ⟨fS1, hfS1, hvS1⟩ := h1.sps
        obtain ⟨fN1, hfN1, hvN1⟩ := h1.nds
        obtain ⟨fG1, hfG1, hvG1⟩ := h1.dgs
        obtain ⟨fT1, hfT1, hvT1⟩ := h1.sts
        have hdn := h1.dl
        have hn := h1.nl
        show fR _ _ _ 26 _ _ _ _ _ _
        refine r_aload_n dX8_set_26 rfl ?_
        refine r_get (k := 0) dX8_set_27 hX1 rfl rfl (by decide) kX8_10F ?_
        refine r_get (k := 4) dX8_set_30 h1.lab rfl rfl (by decide) kX8_130F ?_
        refine r_iload_n dX8_set_33 rfl ?_
        refine r_ialdN dX8_set_34 hfT1 (by omega) (by decide) (hvT1 _ (by omega)) ?_
        refine r_istore_n (lv' := [(3, .int ((pSave g sn) (5 + (1)))), (0, .ref (ad 254)), (1, .int (nI (1))), (2, .int (nI (k1)))]) dX8_set_35 (by decide) rfl ?_
        refine r_aload_n dX8_set_36 rfl ?_
        refine r_get (k := 0) dX8_set_37 hX1 rfl rfl (by decide) kX8_10F ?_
        refine r_get (k := 4) dX8_set_40 h1.lab rfl rfl (by decide) kX8_130F ?_
        refine r_iload_n dX8_set_43 rfl ?_
        refine r_iload_n dX8_set_44 rfl ?_
        refine r_iastN dX8_set_45 hfT1 (by omega) (by decide) ?_
        have hL2 := W_set hA (by omega) h1 hI1 hvT1 (show 1 < 3 by omega) (x := (nI (k1)))
        refine r_iload_n dX8_set_46 rfl ?_
        have ev : pSave g sn (5 + 1) = g (5 + 1) := pSave_lo (by omega)
        rw [ev]
        exact fR_iret dX8_set_47 rfl (cPost_0 (by unfold oSet; rw [pNo_3]; simp only [ck0, ck1]; (repeat (first | (first | rw [if_pos (by first | assumption | exact Int32.not_le.mp (by assumption) | exact Int32.not_lt.mp (by assumption) | omega)] | rw [if_neg (by first | assumption | exact Int32.not_lt.mpr (by assumption) | exact Int32.not_le.mpr (by assumption) | exact bne_of (by assumption) | exact not_not_intro (by assumption) | omega)]) | rw [if_pos rfl] | rw [if_pos True.intro])); first | done | rfl) (cls_own hA hC hS1 hO1 hL2 (Off.up (by omega)) (hI1.uSet6 hk1) (fun j h1 h2 => pk_un (by omega))))
      · skip
        exact r_callSX (As := [.int (p1), .int (nI (0)), .int (nI (100))]) dX8_set_12 (tX8_mindRange_f (bf_of c3)) rfl oX8_mindRange rfl kX8_30M sX8_mindRange (by unfold fRoom; decide) (Nat.le_of_ble_eq_true rfl) rfl (cPost_x (t := 1) hC (by unfold oSet; rw [pNo_3]; simp only [ck0]; (repeat (first | (first | rw [if_pos (by first | assumption | exact Int32.not_le.mp (by assumption) | exact Int32.not_lt.mp (by assumption) | omega)] | rw [if_neg (by first | assumption | exact Int32.not_lt.mpr (by assumption) | exact Int32.not_le.mpr (by assumption) | exact bne_of (by assumption) | exact not_not_intro (by assumption) | omega)]) | rw [if_pos rfl] | rw [if_pos True.intro])); first | done | rfl) rfl)
    · skip
      refine r_getsMost dX8_set_7 kX8_127F ?_
      refine r_iload_n dX8_set_10 rfl ?_
      refine r_ldMost (v := nI 60) dX8_set_11 (vp_in_nI (by omega) (by decide)) (by decide) ?_
      by_cases c4 : pIn p1 ((nI (0))) ((nI (60))) = true
      · skip
        obtain ⟨k1, hk1l, hk1, ek1⟩ := pIn_nat4 (by omega) (by omega) c4
        subst ek1
        have ck1 : cN (nI k1) = k1 := nI_clamp (by omega)
        refine r_callS (As := [.int (nI (k1)), .int (nI (0)), .int (nI (60))]) dX8_set_12 (tX8_mindRange_t c4) rfl oX8_mindRange rfl kX8_30M sX8_mindRange (by unfold fRoom; decide) (Nat.le_of_ble_eq_true rfl) rfl (bc' := 0) (bs' := 0) rfl rfl ?_
        show fR _ _ _ 15 _ _ _ _ _ _
        refine r_aload_n dX8_set_15 rfl ?_
        refine r_get (k := 1) dX8_set_16 hX rfl rfl (by decide) kX8_19F ?_
        refine r_aload_n dX8_set_19 rfl ?_
        refine r_get (k := 0) dX8_set_20 hX rfl rfl (by decide) kX8_10F ?_
        refine r_callVP (As := [.ref (ad 0)]) dX8_set_23 (tX1_save hA hS hI) rfl hS.hist rfl rfl oX1_save rfl kX8_42M nX1_save eX1_save (by unfold fRoom; decide) (Nat.le_of_ble_eq_true rfl) rfl (bc' := 0) (bs' := 0) rfl rfl (fun E M9 h => by cases h.1) (fun v M1 hq => ?_)
        obtain ⟨hv1, hS1, hO1⟩ := hq
        cases hv1
        have hI1 := hI.save sn
        have hX1 := (hO1.at hA (by omega) (by omega) (by omega) (by omega)).trans hX
        obtain ⟨π1, h1⟩ := hS1.main
        obtain ⟨fD1, hfD1, hvD1⟩ := h1.drs
        obtain ⟨fS1, hfS1, hvS1⟩ := h1.sps
        obtain ⟨fN1, hfN1, hvN1⟩ := h1.nds
        obtain ⟨fG1, hfG1, hvG1⟩ := h1.dgs
        obtain ⟨fT1, hfT1, hvT1⟩ := h1.sts
        have hdn := h1.dl
        have hn := h1.nl
        show fR _ _ _ 26 _ _ _ _ _ _
        refine r_aload_n dX8_set_26 rfl ?_
        refine r_get (k := 0) dX8_set_27 hX1 rfl rfl (by decide) kX8_10F ?_
        refine r_get (k := 4) dX8_set_30 h1.lab rfl rfl (by decide) kX8_130F ?_
        refine r_iload_n dX8_set_33 rfl ?_
        refine r_ialdN dX8_set_34 hfT1 (by omega) (by decide) (hvT1 _ (by omega)) ?_
        refine r_istore_n (lv' := [(3, .int ((pSave g sn) (5 + (2)))), (0, .ref (ad 254)), (1, .int (nI (2))), (2, .int (nI (k1)))]) dX8_set_35 (by decide) rfl ?_
        refine r_aload_n dX8_set_36 rfl ?_
        refine r_get (k := 0) dX8_set_37 hX1 rfl rfl (by decide) kX8_10F ?_
        refine r_get (k := 4) dX8_set_40 h1.lab rfl rfl (by decide) kX8_130F ?_
        refine r_iload_n dX8_set_43 rfl ?_
        refine r_iload_n dX8_set_44 rfl ?_
        refine r_iastN dX8_set_45 hfT1 (by omega) (by decide) ?_
        have hL2 := W_set hA (by omega) h1 hI1 hvT1 (show 2 < 3 by omega) (x := (nI (k1)))
        refine r_iload_n dX8_set_46 rfl ?_
        have ev : pSave g sn (5 + 2) = g (5 + 2) := pSave_lo (by omega)
        rw [ev]
        exact fR_iret dX8_set_47 rfl (cPost_0 (by unfold oSet; rw [pNo_3]; simp only [ck0, ck1]; (repeat (first | (first | rw [if_pos (by first | assumption | exact Int32.not_le.mp (by assumption) | exact Int32.not_lt.mp (by assumption) | omega)] | rw [if_neg (by first | assumption | exact Int32.not_lt.mpr (by assumption) | exact Int32.not_le.mpr (by assumption) | exact bne_of (by assumption) | exact not_not_intro (by assumption) | omega)]) | rw [if_pos rfl] | rw [if_pos True.intro])); first | done | rfl) (cls_own hA hC hS1 hO1 hL2 (Off.up (by omega)) (hI1.uSet7 hk1) (fun j h1 h2 => pk_un (by omega))))
      · skip
        exact r_callSX (As := [.int (p1), .int (nI (0)), .int (nI (60))]) dX8_set_12 (tX8_mindRange_f (bf_of c4)) rfl oX8_mindRange rfl kX8_30M sX8_mindRange (by unfold fRoom; decide) (Nat.le_of_ble_eq_true rfl) rfl (cPost_x (t := 1) hC (by unfold oSet; rw [pNo_3]; simp only [ck0]; (repeat (first | (first | rw [if_pos (by first | assumption | exact Int32.not_le.mp (by assumption) | exact Int32.not_lt.mp (by assumption) | omega)] | rw [if_neg (by first | assumption | exact Int32.not_lt.mpr (by assumption) | exact Int32.not_le.mpr (by assumption) | exact bne_of (by assumption) | exact not_not_intro (by assumption) | omega)]) | rw [if_pos rfl] | rw [if_pos True.intro])); first | done | rfl) rfl)
  · skip
    exact r_callSX (As := [.int (p0), .int (nI (3))]) dX8_set_2 (tX8_mindNumber_f (by omega) (bf_of c1)) rfl oX8_mindNumber rfl kX8_62M sX8_mindNumber (by unfold fRoom; decide) (Nat.le_of_ble_eq_true rfl) rfl (cPost_x (t := 0) hC (by unfold oSet; rw [pNo_3]; (repeat (first | (first | rw [if_pos (by first | assumption | exact Int32.not_le.mp (by assumption) | exact Int32.not_lt.mp (by assumption) | omega)] | rw [if_neg (by first | assumption | exact Int32.not_lt.mpr (by assumption) | exact Int32.not_le.mpr (by assumption) | exact bne_of (by assumption) | exact not_not_intro (by assumption) | omega)]) | rw [if_pos rfl] | rw [if_pos True.intro])); first | done | rfl) rfl)
theorem tX8_undo {l : Launch} {κ : KP} {M : Mem} {ad : Nat → Nat} {g tx : Nat → Int32} {dn n sn ln : Nat} {kp : Bool} (hA : aInj ad) (hC : ClsAt κ ad M ⟨g, sn, kp, tx, ln⟩ dn n)  : fM l κ mX8_undo [.ref (ad 254)] M (cPost κ ad M ["java/lang/IllegalStateException"] (oUndo ⟨g, sn, kp, tx, ln⟩ dn n )) := by
  refine fM_of rfl (by decide +kernel) (Nat.le_of_ble_eq_true rfl) ?_
  obtain ⟨hX, hS, hI, hT, ch, hTX⟩ := id hC
  replace hS : LabsAt ad M g sn kp dn n := hS
  replace hI : BI g dn n := hI
  replace hT : TextAt κ ad M tx ln := hT
  replace hTX : TX tx ln ch := hTX
  obtain ⟨π, h0⟩ := hS.main
  have hs6 := hS.s6
  obtain ⟨fD, hfD, hvD⟩ := h0.drs
  obtain ⟨fS, hfS, hvS⟩ := h0.sps
  obtain ⟨fN, hfN, hvN⟩ := h0.nds
  obtain ⟨fG, hfG, hvG⟩ := h0.dgs
  obtain ⟨fT, hfT, hvT⟩ := h0.sts
  have hdn := h0.dl
  have hn := h0.nl
  show fR l κ mX8_undo 0 [(0, .ref (ad 254))] [] M 1 6 _
  refine r_aload_n dX8_undo_0 rfl ?_
  refine r_get (k := 1) dX8_undo_1 hX rfl rfl (by decide) kX8_19F ?_
  refine r_get (k := 2) dX8_undo_4 hS.hist rfl rfl (by decide) kX8_174F ?_
  refine r_if_neN (tgt := 20) dX8_undo_7 (by decide) (by omega) (fun c1 => ?_) (fun c1 => ?_)
  · skip
    refine r_aload_n dX8_undo_20 rfl ?_
    refine r_get (k := 1) dX8_undo_21 hX rfl rfl (by decide) kX8_19F ?_
    refine r_aload_n dX8_undo_24 rfl ?_
    refine r_get (k := 0) dX8_undo_25 hX rfl rfl (by decide) kX8_10F ?_
    refine r_callVP (As := [.ref (ad 0)]) dX8_undo_28 (tX1_goBack hA hS (by omega)) rfl hS.hist rfl rfl oX1_goBack rfl kX8_182M nX1_goBack eX1_goBack (by unfold fRoom; decide) (Nat.le_of_ble_eq_true rfl) rfl (bc' := 1) (bs' := 6) rfl rfl (fun E M9 h => by cases h.1) (fun v M1 hq => ?_)
    obtain ⟨hv1, ⟨dn1, n1, hS1, hI1⟩, hO1⟩ := hq
    cases hv1
    have hX1 := (hO1.at hA (by omega) (by omega) (by omega) (by omega)).trans hX
    show fR _ _ _ 31 _ _ _ _ _ _
    refine r_aload_n dX8_undo_31 rfl ?_
    refine r_get (k := 1) dX8_undo_32 hX1 rfl rfl (by decide) kX8_19F ?_
    refine r_get (k := 2) dX8_undo_35 hS1.hist rfl rfl (by decide) kX8_174F ?_
    exact fR_iret dX8_undo_38 rfl (cPost_0 (by unfold oUndo; show (if 0 < sn then _ else _) = _; rw [if_pos (by omega)]) (cls_labs hA hC hS1 hO1 hI1))
  · skip
    exact r_throw xT_177_181 dX8_undo_10 dX8_undo_13 dX8_undo_14 dX8_undo_16 dX8_undo_19 (List.mem_of_getElem? (i := 11) rfl) (by decide) (Nat.le_of_ble_eq_true rfl) (by decide) (by decide) rfl (cPost_x (t := 0) hC (by unfold oUndo; show (if 0 < sn then _ else _) = _; rw [if_neg (by omega)]) rfl)
theorem tX8_keep {l : Launch} {κ : KP} {M : Mem} {ad : Nat → Nat} {g tx : Nat → Int32} {dn n sn ln : Nat} {kp : Bool} (hA : aInj ad) (hC : ClsAt κ ad M ⟨g, sn, kp, tx, ln⟩ dn n)  : fM l κ mX8_keep [.ref (ad 254)] M (cPost κ ad M [] (oKeep ⟨g, sn, kp, tx, ln⟩ dn n )) := by
  refine fM_of rfl (by decide +kernel) (Nat.le_of_ble_eq_true rfl) ?_
  obtain ⟨hX, hS, hI, hT, ch, hTX⟩ := id hC
  replace hS : LabsAt ad M g sn kp dn n := hS
  replace hI : BI g dn n := hI
  replace hT : TextAt κ ad M tx ln := hT
  replace hTX : TX tx ln ch := hTX
  obtain ⟨π, h0⟩ := hS.main
  have hs6 := hS.s6
  obtain ⟨fD, hfD, hvD⟩ := h0.drs
  obtain ⟨fS, hfS, hvS⟩ := h0.sps
  obtain ⟨fN, hfN, hvN⟩ := h0.nds
  obtain ⟨fG, hfG, hvG⟩ := h0.dgs
  obtain ⟨fT, hfT, hvT⟩ := h0.sts
  have hdn := h0.dl
  have hn := h0.nl
  show fR l κ mX8_keep 0 [(0, .ref (ad 254))] [] M 0 0 _
  refine r_aload_n dX8_keep_0 rfl ?_
  refine r_get (k := 1) dX8_keep_1 hX rfl rfl (by decide) kX8_19F ?_
  refine r_get (k := 1) dX8_keep_4 hS.hist rfl rfl (by decide) kX8_185F ?_
  refine r_aload_n dX8_keep_7 rfl ?_
  refine r_get (k := 0) dX8_keep_8 hX rfl rfl (by decide) kX8_10F ?_
  obtain ⟨π9, σ9, -, -, -, -, -, -, -, ρ, hraw, -⟩ := id hS
  obtain ⟨⟨x5, x6, x7, x8, x9, x10, hob⟩, -⟩ := id hraw
  refine r_callVP (As := [.ref (ad 0)]) dX8_keep_11 (tX2_copyFrom hA (by omega) (by omega) (by omega) h0 hI hraw) rfl hob rfl rfl oX2_copyFrom rfl kX8_188M nX2_copyFrom eX2_copyFrom (by unfold fRoom; decide) (Nat.le_of_ble_eq_true rfl) rfl (bc' := 0) (bs' := 0) rfl rfl (fun E M9 h => by cases h.1) (fun v M1 hq => ?_)
  obtain ⟨hv1, hL1, hO1⟩ := hq
  cases hv1
  have hX1 := (hO1.at hA (i := 254) (by omega) (by omega) (by omega)).trans hX
  have hH1 := (hO1.at hA (i := 252) (by omega) (by omega) (by omega)).trans hS.hist
  have h01 := h0.off hA (by omega) (by omega) (by omega) hO1
  show fR _ _ _ 14 _ _ _ _ _ _
  refine r_aload_n dX8_keep_14 rfl ?_
  refine r_get (k := 1) dX8_keep_15 hX1 rfl rfl (by decide) kX8_19F ?_
  refine r_iconst (v := nI 1) dX8_keep_18 (by decide) ?_
  refine r_put (k := 3) (fs' := [.ref (ad 253), .ref (ad 217), .int (nI (sn)), .int (nI (1))]) dX8_keep_19 hH1 rfl (by decide) kX8_191F rfl rfl rfl (Nat.le_of_ble_eq_true rfl) rfl ?_
  have hLm := h01.frame (M' := fup M1 (ad 252) (.inl (1, [.ref (ad 253), .ref (ad 217), .int (nI sn), .int (nI 1)]))) (fun j hj => fup_ne (hA.ne (by omega) (by omega) (by omega)))
  refine r_aload_n dX8_keep_22 rfl ?_
  refine r_get (k := 0) dX8_keep_23 ((fup_ne (hA.ne (by omega) (by omega) (by omega))).trans hX1) rfl rfl (by decide) kX8_10F ?_
  refine r_get (k := 6) dX8_keep_26 hLm.lab rfl rfl (by decide) kX8_59F ?_
  have hK := labs_keep (M2 := fup M1 (ad 252) (.inl (1, [.ref (ad 253), .ref (ad 217), .int (nI sn), .int (nI 1)]))) hA hS hI (fun t h1 h2 h3 => (fup_ne (hA.ne h1 (by omega) h3)).trans (hO1.at hA h1 (by omega) (by omega))) fup_eq (hL1.frame (fun j hj => fup_ne (hA.ne (by omega) (by omega) (by omega))))
  have hIK : BI (pCp g 0 7) dn n := hI.congr (fun j hj => by have := pCp_blk (f := g) (a := 0) (b := 7) (t := 0) hj; rw [if_neg (by omega), show 376 * 0 + j = j by omega] at this; exact this)
  exact fR_iret dX8_keep_29 rfl (cPost_0 rfl (cls_labs hA hC hK ((OffS.of hO1 (by omega)).trans OffS.up2) hIK))
theorem tX8_restore_true {l : Launch} {κ : KP} {M : Mem} {ad : Nat → Nat} {g tx : Nat → Int32} {dn n sn ln : Nat} (hA : aInj ad) (hC : ClsAt κ ad M ⟨g, sn, true, tx, ln⟩ dn n) : fM l κ mX8_restore [.ref (ad 254)] M (cPost κ ad M ["java/lang/IllegalStateException"] (oRestore ⟨g, sn, true, tx, ln⟩ dn n)) := by
  refine fM_of rfl (by decide +kernel) (Nat.le_of_ble_eq_true rfl) ?_
  obtain ⟨hX, hS, hI, hT, ch, hTX⟩ := id hC
  replace hS : LabsAt ad M g sn true dn n := hS
  replace hI : BI g dn n := hI
  replace hT : TextAt κ ad M tx ln := hT
  replace hTX : TX tx ln ch := hTX
  obtain ⟨π, h0⟩ := hS.main
  have hs6 := hS.s6
  obtain ⟨fD, hfD, hvD⟩ := h0.drs
  obtain ⟨fS, hfS, hvS⟩ := h0.sps
  obtain ⟨fN, hfN, hvN⟩ := h0.nds
  obtain ⟨fG, hfG, hvG⟩ := h0.dgs
  obtain ⟨fT, hfT, hvT⟩ := h0.sts
  have hdn := h0.dl
  have hn := h0.nl
  show fR l κ mX8_restore 0 [(0, .ref (ad 254))] [] M 1 6 _
  refine r_aload_n dX8_restore_0 rfl ?_
  refine r_get (k := 1) dX8_restore_1 hX rfl rfl (by decide) kX8_19F ?_
  refine r_get (k := 3) dX8_restore_4 hS.hist rfl rfl (by decide) kX8_191F ?_
  refine r_if_neB (tgt := 20) dX8_restore_7 (by decide) (fun c1 => ?_) (fun c1 => absurd c1 (by decide))
  refine r_aload_n dX8_restore_20 rfl ?_
  refine r_get (k := 1) dX8_restore_21 hX rfl rfl (by decide) kX8_19F ?_
  refine r_aload_n dX8_restore_24 rfl ?_
  refine r_get (k := 0) dX8_restore_25 hX rfl rfl (by decide) kX8_10F ?_
  refine r_callVP (As := [.ref (ad 0)]) dX8_restore_28 (tX1_save hA hS hI) rfl hS.hist rfl rfl oX1_save rfl kX8_42M nX1_save eX1_save (by unfold fRoom; decide) (Nat.le_of_ble_eq_true rfl) rfl (bc' := 1) (bs' := 6) rfl rfl (fun E M9 h => by cases h.1) (fun v M1 hq => ?_)
  obtain ⟨hv1, hS1, hO1⟩ := hq
  cases hv1
  have hI1 := hI.save sn
  have hX1 := (hO1.at hA (by omega) (by omega) (by omega) (by omega)).trans hX
  obtain ⟨π1, h1⟩ := hS1.main
  obtain ⟨fD1, hfD1, hvD1⟩ := h1.drs
  obtain ⟨fS1, hfS1, hvS1⟩ := h1.sps
  obtain ⟨fN1, hfN1, hvN1⟩ := h1.nds
  obtain ⟨fG1, hfG1, hvG1⟩ := h1.dgs
  obtain ⟨fT1, hfT1, hvT1⟩ := h1.sts
  have hdn := h1.dl
  have hn := h1.nl
  show fR _ _ _ 31 _ _ _ _ _ _
  refine r_aload_n dX8_restore_31 rfl ?_
  refine r_get (k := 0) dX8_restore_32 hX1 rfl rfl (by decide) kX8_10F ?_
  refine r_aload_n dX8_restore_35 rfl ?_
  refine r_get (k := 1) dX8_restore_36 hX1 rfl rfl (by decide) kX8_19F ?_
  refine r_get (k := 1) dX8_restore_39 hS1.hist rfl rfl (by decide) kX8_185F ?_
  obtain ⟨π9, σ9, -, -, -, -, -, -, -, ρ, -, hsn⟩ := id hS1
  obtain ⟨dn', n', hLs, hIs⟩ := hsn rfl
  have hraw := h1.raw
  obtain ⟨⟨x5, x6, x7, x8, x9, x10, hob⟩, -⟩ := id hraw
  refine r_callVP (As := [.ref (ad 217)]) dX8_restore_42 (tX2_copyFrom hA (by omega) (by omega) (by omega) hLs hIs hraw) rfl hob rfl rfl oX2_copyFrom rfl kX8_188M nX2_copyFrom eX2_copyFrom (by unfold fRoom; decide) (Nat.le_of_ble_eq_true rfl) rfl (bc' := 1) (bs' := 6) rfl rfl (fun E M9 h => by cases h.1) (fun v M2 hq => ?_)
  obtain ⟨hv2, hL2, hO2⟩ := hq
  cases hv2
  have hX2 := (hO2.at hA (i := 254) (by omega) (by omega) (by omega)).trans hX1
  show fR _ _ _ 45 _ _ _ _ _ _
  refine r_aload_n dX8_restore_45 rfl ?_
  refine r_get (k := 0) dX8_restore_46 hX2 rfl rfl (by decide) kX8_10F ?_
  refine r_get (k := 6) dX8_restore_49 hL2.lab rfl rfl (by decide) kX8_59F ?_
  have hIR : BI (pCp (pSave g sn) 7 0) dn' n' := hIs.congr (fun j hj => pCp_0 hj)
  have hR := labs_main (M2 := M2) (g' := pCp (pSave g sn) 7 0) hS1 (fun t h1 h2 h3 => hO2.at hA h1 (by omega) (by omega)) ((hO2.at hA (by omega) (by omega) (by omega)).trans hS1.hist) (Nat.le_refl _) (hL2.congr hIs.k9 (fun j hj => pCp_0 hj)) (fun t h1 h2 j hj => by rw [pCp_blk hj, if_neg (by omega)])
  exact fR_iret dX8_restore_52 rfl (cPost_0 (by unfold oRestore; rw [if_pos rfl]; show (0, pCp (pSave g sn) 7 0 1, _) = _; rw [hIR.n0]; rfl) (cls_labs hA hC hR (hO1.trans (OffS.of hO2 (by omega))) hIR))
theorem tX8_restore_false {l : Launch} {κ : KP} {M : Mem} {ad : Nat → Nat} {g tx : Nat → Int32} {dn n sn ln : Nat} (hA : aInj ad) (hC : ClsAt κ ad M ⟨g, sn, false, tx, ln⟩ dn n) : fM l κ mX8_restore [.ref (ad 254)] M (cPost κ ad M ["java/lang/IllegalStateException"] (oRestore ⟨g, sn, false, tx, ln⟩ dn n)) := by
  refine fM_of rfl (by decide +kernel) (Nat.le_of_ble_eq_true rfl) ?_
  obtain ⟨hX, hS, hI, hT, ch, hTX⟩ := id hC
  replace hS : LabsAt ad M g sn false dn n := hS
  replace hI : BI g dn n := hI
  replace hT : TextAt κ ad M tx ln := hT
  replace hTX : TX tx ln ch := hTX
  obtain ⟨π, h0⟩ := hS.main
  have hs6 := hS.s6
  obtain ⟨fD, hfD, hvD⟩ := h0.drs
  obtain ⟨fS, hfS, hvS⟩ := h0.sps
  obtain ⟨fN, hfN, hvN⟩ := h0.nds
  obtain ⟨fG, hfG, hvG⟩ := h0.dgs
  obtain ⟨fT, hfT, hvT⟩ := h0.sts
  have hdn := h0.dl
  have hn := h0.nl
  show fR l κ mX8_restore 0 [(0, .ref (ad 254))] [] M 1 6 _
  refine r_aload_n dX8_restore_0 rfl ?_
  refine r_get (k := 1) dX8_restore_1 hX rfl rfl (by decide) kX8_19F ?_
  refine r_get (k := 3) dX8_restore_4 hS.hist rfl rfl (by decide) kX8_191F ?_
  refine r_if_neB (tgt := 20) dX8_restore_7 (by decide) (fun c1 => absurd c1 (by decide)) (fun c1 => ?_)
  exact r_throw xT_177_181 dX8_restore_10 dX8_restore_13 dX8_restore_14 dX8_restore_16 dX8_restore_19 (List.mem_of_getElem? (i := 12) rfl) (by decide) (Nat.le_of_ble_eq_true rfl) (by decide) (by decide) rfl (cPost_x (t := 0) hC (by unfold oRestore; show (if false = true then _ else _) = _; rw [if_neg (by decide)]) rfl)
theorem tX8_restore {l : Launch} {κ : KP} {M : Mem} {ad : Nat → Nat} {g tx : Nat → Int32} {dn n sn ln : Nat} {kp : Bool} (hA : aInj ad) (hC : ClsAt κ ad M ⟨g, sn, kp, tx, ln⟩ dn n) : fM l κ mX8_restore [.ref (ad 254)] M (cPost κ ad M ["java/lang/IllegalStateException"] (oRestore ⟨g, sn, kp, tx, ln⟩ dn n)) := by
  cases kp with
  | true => exact tX8_restore_true hA hC
  | false => exact tX8_restore_false hA hC
theorem TX.push {tx : Nat → Int32} {ln k : Nat} {ch : Nat → Nat} (h : TX tx ln ch) (hl : ln < 60) (h1 : 33 ≤ k) (h2 : k ≤ 126) : ∃ ch, TX (upd tx ln (nI k)) (ln + 1) ch := by
  obtain ⟨a, b, c, d⟩ := h
  refine ⟨fun i => if i = ln then k else ch i, by omega, fun i hi => ?_, fun i hi => ?_, fun i => ?_⟩
  · by_cases e : i = ln
    · subst e; rw [pk_us]; show nI k = nI (if _ then _ else _) ∧ 33 ≤ (if _ then _ else _); rw [if_pos rfl]; exact ⟨rfl, h1⟩
    · rw [pk_un e]; show _ = nI (if _ then _ else _) ∧ 33 ≤ (if _ then _ else _); rw [if_neg e]; exact b i (by omega)
  · show (if _ then _ else _) = _
    rw [if_neg (by omega)]; exact c i (by omega)
  · show (if _ then _ else _) ≤ _
    split
    · exact h2
    · exact d i
theorem TX.none {tx : Nat → Int32} : ∃ ch, TX tx 0 ch := ⟨fun _ => 0, by omega, fun i hi => by omega, fun _ _ => rfl, fun _ => Nat.zero_le 126⟩
