/-! THE CLASS AS CALLS SEE IT -/
def TextAt (κ : KP) (ad : Nat → Nat) (M : Mem) (tx : Nat → Int32) (ln : Nat) : Prop :=
  ∃ (pl lt sl tk : Int32) (j : Nat) (fc fv : Nat → Int32), M (ad 248) = some (.inl (4, [.ref (ad 249), .ref (ad 250), .int (nI ln), .int pl])) ∧ M (ad 249) = some (.inr (1, 60, .inl fc)) ∧ (∀ i, i < ln → fc i = tx i) ∧ M (ad 250) = some (.inl (5, [.int lt, .ref (kK κ j), .int sl, .int tk, .ref (ad 251)])) ∧ j < 6 ∧ M (ad 251) = some (.inr (0, 6, .inl fv))
def ClsAt (κ : KP) (ad : Nat → Nat) (M : Mem) (z : Zs) (dn n : Nat) : Prop :=
  M (ad 254) = some (.inl (7, [.ref (ad 0), .ref (ad 252), .ref (ad 248)])) ∧ LabsAt ad M z.1 z.2.1 z.2.2.1 dn n ∧ BI z.1 dn n ∧ TextAt κ ad M z.2.2.2.1 z.2.2.2.2 ∧ ∃ ch, TX z.2.2.2.1 z.2.2.2.2 ch
def OffC (ad : Nat → Nat) (M M' : Mem) : Prop := ∀ b, (∀ t, t < 256 → b ≠ ad t) → M' b = M b
theorem OffC.refl {ad : Nat → Nat} {M : Mem} : OffC ad M M := fun _ _ => rfl
theorem OffC.trans {ad : Nat → Nat} {M M1 M2 : Mem} (h : OffC ad M M1) (h2 : OffC ad M1 M2) : OffC ad M M2 := fun b hb => (h2 b hb).trans (h b hb)
theorem OffC.s {ad : Nat → Nat} {M M1 : Mem} (h : OffS ad M M1) : OffC ad M M1 := fun b hb => h b (fun t ht => hb t (by omega)) (hb _ (by omega)) (hb _ (by omega))
theorem OffC.o {ad : Nat → Nat} {M M1 : Mem} {c len : Nat} (h : Off ad c len M M1) (hc : c + len ≤ 256) : OffC ad M M1 := fun b hb => h b (fun t ht => hb _ (by omega))
def cPost (κ : KP) (ad : Nat → Nat) (M : Mem) (L : List String) (O : Oc) : FPost := fun o M' => (∃ dn' n', ClsAt κ ad M' O.2.2 dn' n') ∧ OffC ad M M' ∧ ((O.1 = 0 ∧ o = .inl (some (.int O.2.1))) ∨ (O.1 ≠ 0 ∧ ∃ e, L[O.1 - 1]? = some e ∧ o = .inr e))
section Cp
variable {κ : KP} {ad : Nat → Nat} {M M1 M2 : Mem} {L : List String} {O : Oc} {z z' : Zs} {dn n dn' n' : Nat}
theorem cPost_0 {v : Int32} (h : O = (0, v, z')) (hc : ClsAt κ ad M1 z' dn' n' ∧ OffC ad M M1) : cPost κ ad M L O (.inl (some (.int v))) M1 := by
  subst h; exact ⟨⟨dn', n', hc.1⟩, hc.2, Or.inl ⟨rfl, rfl⟩⟩
theorem cPost_r {v : Int32} (hC : ClsAt κ ad M z dn n) (h : O = (0, v, z)) : cPost κ ad M L O (.inl (some (.int v))) M := cPost_0 h ⟨hC, OffC.refl⟩
theorem cPost_x {t : Nat} {v : Int32} {e : String} (hC : ClsAt κ ad M z dn n) (h : O = (t + 1, v, z)) (hl : L[t]? = some e) : cPost κ ad M L O (.inr e) M := by
  subst h; exact ⟨⟨dn, n, hC⟩, OffC.refl, Or.inr ⟨Nat.succ_ne_zero t, e, hl, rfl⟩⟩
theorem bf_of {b : Bool} (h : ¬ b = true) : b = false := by cases b with | false => rfl | true => exact (h rfl).elim
theorem TextAt.eq {tx : Nat → Int32} {ln : Nat} (h : TextAt κ ad M tx ln) (m : ∀ i, 248 ≤ i → i < 252 → M1 (ad i) = M (ad i)) : TextAt κ ad M1 tx ln := by
  obtain ⟨pl, lt, sl, tk, j, fc, fv, h1, h2, h3, h4, h5, h6⟩ := h
  exact ⟨pl, lt, sl, tk, j, fc, fv, (m _ (by omega) (by omega)).trans h1, (m _ (by omega) (by omega)).trans h2, h3, (m _ (by omega) (by omega)).trans h4, h5, (m _ (by omega) (by omega)).trans h6⟩
/-- behind a save and a change of the laboratory -/
theorem cls_own {g g1 g2 tx : Nat → Int32} {sn sn1 ln dn1 n1 dn2 n2 : Nat} {kp kp1 : Bool} {π : Nat → Nat} (hA : aInj ad) (hC : ClsAt κ ad M ⟨g, sn, kp, tx, ln⟩ dn n) (hS1 : LabsAt ad M1 g1 sn1 kp1 dn1 n1) (hO1 : OffS ad M M1) (hL2 : LabAt M2 ad 0 g2 dn2 n2 π) (hO2 : Off ad 0 31 M1 M2) (hI2 : BI g2 dn2 n2)
    (e : ∀ j, 376 ≤ j → j < 3008 → g2 j = g1 j) : ClsAt κ ad M2 ⟨g2, sn1, kp1, tx, ln⟩ dn2 n2 ∧ OffC ad M M2 := by
  obtain ⟨h1, -, -, h4, h5⟩ := hC
  have m : ∀ i, 248 ≤ i → i < 256 → i ≠ 252 → i ≠ 253 → M2 (ad i) = M (ad i) := fun i a b c d => (hO2.at hA b (by omega) (by omega)).trans (hO1.at hA a b c d)
  exact ⟨⟨(m _ (by omega) (by omega) (by omega) (by omega)).trans h1, labs_own hA hS1 hO2 hL2 e, hI2, h4.eq (fun i a b => m i a (by omega) (by omega) (by omega)), h5⟩, (OffC.s hO1).trans (OffC.o hO2 (by omega))⟩
theorem cls_labs {g g1 tx : Nat → Int32} {sn sn1 ln dn1 n1 : Nat} {kp kp1 : Bool} (hA : aInj ad) (hC : ClsAt κ ad M ⟨g, sn, kp, tx, ln⟩ dn n) (hS1 : LabsAt ad M1 g1 sn1 kp1 dn1 n1) (hO1 : OffS ad M M1) (hI1 : BI g1 dn1 n1) : ClsAt κ ad M1 ⟨g1, sn1, kp1, tx, ln⟩ dn1 n1 ∧ OffC ad M M1 := by
  obtain ⟨h1, -, -, h4, h5⟩ := hC
  have m : ∀ i, 248 ≤ i → i < 256 → i ≠ 252 → i ≠ 253 → M1 (ad i) = M (ad i) := fun i a b c d => hO1.at hA a b c d
  exact ⟨⟨(m _ (by omega) (by omega) (by omega) (by omega)).trans h1, hS1, hI1, h4.eq (fun i a b => m i a (by omega) (by omega) (by omega)), h5⟩, OffC.s hO1⟩
theorem nn_nat {v : Int32} (h : 0 ≤ v) : ∃ k, k < 2 ^ 31 ∧ v = nI k := by
  have h1 := i32_le.mp h
  rw [i32_0] at h1
  have h2 := i32_hi v
  exact ⟨v.toInt.toNat, by omega, i32_ext (by rw [nI_toInt (by omega)]; omega)⟩
end Cp
theorem tX3_numberA {l : Launch} {κ : KP} {M : Mem} {ad : Nat → Nat} {c : Nat} {g : Nat → Int32} {dn n : Nat} {π : Nat → Nat} (hL : LabAt M ad c g dn n π) (hI : BI g dn n) {i : Nat} (hi : i < 3) : ∀ {w : Nat}, w < 3 → fM l κ mX3_number [.ref (ad (c + 28 + i)), .int (nI w)] M (isI (g (31 + 3 * i + w)) M)
  | 0, _ => tX3_number_0 (hL.nd i hi)
  | 1, _ => tX3_number_1 (hI.nd i hi).2 (hL.nd i hi)
  | 2, _ => tX3_number_2 (hL.nd i hi)
  | x + 3, h => by omega
theorem tX8_drumOf {l : Launch} {κ : KP} {M : Mem} {ad : Nat → Nat} {g tx : Nat → Int32} {dn n sn ln : Nat} {kp : Bool} (hA : aInj ad) (hC : ClsAt κ ad M ⟨g, sn, kp, tx, ln⟩ dn n) {p0 : Int32} {p1 : Int32} : fM l κ mX8_drumOf [.ref (ad 254), .int (p0), .int (p1)] M (cPost κ ad M ["java/lang/IndexOutOfBoundsException", "java/lang/IllegalArgumentException"] (oDrumOf ⟨g, sn, kp, tx, ln⟩ dn n p0 p1)) := by
  refine fM_of rfl (by decide +kernel) (Nat.le_of_ble_eq_true rfl) ?_
  obtain ⟨hX, hS, hI, hT, ch, hTX⟩ := id hC
  replace hS : LabsAt ad M g sn kp dn n := hS
  replace hI : BI g dn n := hI
  replace hT : TextAt κ ad M tx ln := hT
  replace hTX : TX tx ln ch := hTX
  obtain ⟨π, h0⟩ := hS.main
  have hs6 := hS.s6
  obtain ⟨fD, hfD, hvD⟩ := h0.drs
  obtain ⟨fS, hfS, hvS⟩ := h0.sps
  obtain ⟨fN, hfN, hvN⟩ := h0.nds
  obtain ⟨fG, hfG, hvG⟩ := h0.dgs
  obtain ⟨fT, hfT, hvT⟩ := h0.sts
  have hdn := h0.dl
  have hn := h0.nl
  show fR l κ mX8_drumOf 0 [(0, .ref (ad 254)), (1, .int (p0)), (2, .int (p1))] [] M 2 12 _
  refine r_iload_n dX8_drumOf_0 rfl ?_
  refine r_aload_n dX8_drumOf_1 rfl ?_
  refine r_get (k := 0) dX8_drumOf_2 hX rfl rfl (by decide) kX8_10F ?_
  refine r_get (k := 5) dX8_drumOf_5 h0.lab rfl rfl (by decide) kX8_34F ?_
  by_cases c1 : pNo p0 (dn) = true
  · skip
    obtain ⟨k0, hk0, ek0⟩ := pNo_t c1 (by omega)
    subst ek0
    have ck0 : cN (nI k0) = k0 := nI_clamp (by omega)
    refine r_callS (As := [.int (nI (k0)), .int (nI (dn))]) dX8_drumOf_8 (tX8_mindNumber_t (by omega) c1) rfl oX8_mindNumber rfl kX8_62M sX8_mindNumber (by unfold fRoom; decide) (Nat.le_of_ble_eq_true rfl) rfl (bc' := 1) (bs' := 6) rfl rfl ?_
    show fR _ _ _ 11 _ _ _ _ _ _
    refine r_iload_n dX8_drumOf_11 rfl ?_
    refine r_iconst (v := nI 0) dX8_drumOf_12 (by decide) ?_
    refine r_bipush (v := nI 8) dX8_drumOf_13 (by decide) ?_
    by_cases c2 : pIn p1 ((nI (0))) ((nI (8))) = true
    · skip
      obtain ⟨k1, hk1l, hk1, ek1⟩ := pIn_nat4 (by omega) (by omega) c2
      subst ek1
      have ck1 : cN (nI k1) = k1 := nI_clamp (by omega)
      refine r_callS (As := [.int (nI (k1)), .int (nI (0)), .int (nI (8))]) dX8_drumOf_15 (tX8_mindRange_t c2) rfl oX8_mindRange rfl kX8_30M sX8_mindRange (by unfold fRoom; decide) (Nat.le_of_ble_eq_true rfl) rfl (bc' := 0) (bs' := 0) rfl rfl ?_
      show fR _ _ _ 18 _ _ _ _ _ _
      refine r_aload_n dX8_drumOf_18 rfl ?_
      refine r_get (k := 0) dX8_drumOf_19 hX rfl rfl (by decide) kX8_10F ?_
      refine r_iload_n dX8_drumOf_22 rfl ?_
      refine r_iload_n dX8_drumOf_23 rfl ?_
      refine r_callS (As := [.ref (ad 0), .int (nI (k0)), .int (nI (k1))]) dX8_drumOf_24 (tX7_number h0 hI (by omega) (by omega)) rfl oX7_number rfl kX8_197M sX7_number (by unfold fRoom; decide) (Nat.le_of_ble_eq_true rfl) rfl (bc' := 0) (bs' := 0) rfl rfl ?_
      show fR _ _ _ 27 _ (.int (pOfDrum g n k0 k1) :: _) _ _ _ _
      exact fR_iret dX8_drumOf_27 rfl (cPost_r hC (by unfold oDrumOf ; simp only [ck0, ck1]; (repeat (first | rw [if_pos (by first | assumption | exact Int32.not_le.mp (by assumption) | exact Int32.not_lt.mp (by assumption) | omega)] | rw [if_neg (by first | assumption | exact Int32.not_lt.mpr (by assumption) | exact Int32.not_le.mpr (by assumption) | exact bne_of (by assumption) | exact not_not_intro (by assumption) | omega)])); first | done | rfl))
    · skip
      exact r_callSX (As := [.int (p1), .int (nI (0)), .int (nI (8))]) dX8_drumOf_15 (tX8_mindRange_f (bf_of c2)) rfl oX8_mindRange rfl kX8_30M sX8_mindRange (by unfold fRoom; decide) (Nat.le_of_ble_eq_true rfl) rfl (cPost_x (t := 1) hC (by unfold oDrumOf ; simp only [ck0]; (repeat (first | rw [if_pos (by first | assumption | exact Int32.not_le.mp (by assumption) | exact Int32.not_lt.mp (by assumption) | omega)] | rw [if_neg (by first | assumption | exact Int32.not_lt.mpr (by assumption) | exact Int32.not_le.mpr (by assumption) | exact bne_of (by assumption) | exact not_not_intro (by assumption) | omega)])); first | done | rfl) rfl)
  · skip
    exact r_callSX (As := [.int (p0), .int (nI (dn))]) dX8_drumOf_8 (tX8_mindNumber_f (by omega) (bf_of c1)) rfl oX8_mindNumber rfl kX8_62M sX8_mindNumber (by unfold fRoom; decide) (Nat.le_of_ble_eq_true rfl) rfl (cPost_x (t := 0) hC (by unfold oDrumOf ; (repeat (first | rw [if_pos (by first | assumption | exact Int32.not_le.mp (by assumption) | exact Int32.not_lt.mp (by assumption) | omega)] | rw [if_neg (by first | assumption | exact Int32.not_lt.mpr (by assumption) | exact Int32.not_le.mpr (by assumption) | exact bne_of (by assumption) | exact not_not_intro (by assumption) | omega)])); first | done | rfl) rfl)
theorem tX8_sampleOf {l : Launch} {κ : KP} {M : Mem} {ad : Nat → Nat} {g tx : Nat → Int32} {dn n sn ln : Nat} {kp : Bool} (hA : aInj ad) (hC : ClsAt κ ad M ⟨g, sn, kp, tx, ln⟩ dn n) {p0 : Int32} {p1 : Int32} : fM l κ mX8_sampleOf [.ref (ad 254), .int (p0), .int (p1)] M (cPost κ ad M ["java/lang/IndexOutOfBoundsException", "java/lang/IllegalArgumentException"] (oSampleOf ⟨g, sn, kp, tx, ln⟩ dn n p0 p1)) := by
  refine fM_of rfl (by decide +kernel) (Nat.le_of_ble_eq_true rfl) ?_
  obtain ⟨hX, hS, hI, hT, ch, hTX⟩ := id hC
  replace hS : LabsAt ad M g sn kp dn n := hS
  replace hI : BI g dn n := hI
  replace hT : TextAt κ ad M tx ln := hT
  replace hTX : TX tx ln ch := hTX
  obtain ⟨π, h0⟩ := hS.main
  have hs6 := hS.s6
  obtain ⟨fD, hfD, hvD⟩ := h0.drs
  obtain ⟨fS, hfS, hvS⟩ := h0.sps
  obtain ⟨fN, hfN, hvN⟩ := h0.nds
  obtain ⟨fG, hfG, hvG⟩ := h0.dgs
  obtain ⟨fT, hfT, hvT⟩ := h0.sts
  have hdn := h0.dl
  have hn := h0.nl
  show fR l κ mX8_sampleOf 0 [(0, .ref (ad 254)), (1, .int (p0)), (2, .int (p1))] [] M 2 12 _
  refine r_iload_n dX8_sampleOf_0 rfl ?_
  refine r_aload_n dX8_sampleOf_1 rfl ?_
  refine r_get (k := 0) dX8_sampleOf_2 hX rfl rfl (by decide) kX8_10F ?_
  refine r_get (k := 6) dX8_sampleOf_5 h0.lab rfl rfl (by decide) kX8_59F ?_
  by_cases c1 : pNo p0 (n) = true
  · skip
    obtain ⟨k0, hk0, ek0⟩ := pNo_t c1 (by omega)
    subst ek0
    have ck0 : cN (nI k0) = k0 := nI_clamp (by omega)
    refine r_callS (As := [.int (nI (k0)), .int (nI (n))]) dX8_sampleOf_8 (tX8_mindNumber_t (by omega) c1) rfl oX8_mindNumber rfl kX8_62M sX8_mindNumber (by unfold fRoom; decide) (Nat.le_of_ble_eq_true rfl) rfl (bc' := 1) (bs' := 6) rfl rfl ?_
    show fR _ _ _ 11 _ _ _ _ _ _
    refine r_iload_n dX8_sampleOf_11 rfl ?_
    refine r_iconst (v := nI 0) dX8_sampleOf_12 (by decide) ?_
    refine r_bipush (v := nI 8) dX8_sampleOf_13 (by decide) ?_
    by_cases c2 : pIn p1 ((nI (0))) ((nI (8))) = true
    · skip
      obtain ⟨k1, hk1l, hk1, ek1⟩ := pIn_nat4 (by omega) (by omega) c2
      subst ek1
      have ck1 : cN (nI k1) = k1 := nI_clamp (by omega)
      refine r_callS (As := [.int (nI (k1)), .int (nI (0)), .int (nI (8))]) dX8_sampleOf_15 (tX8_mindRange_t c2) rfl oX8_mindRange rfl kX8_30M sX8_mindRange (by unfold fRoom; decide) (Nat.le_of_ble_eq_true rfl) rfl (bc' := 0) (bs' := 0) rfl rfl ?_
      show fR _ _ _ 18 _ _ _ _ _ _
      refine r_aload_n dX8_sampleOf_18 rfl ?_
      refine r_get (k := 0) dX8_sampleOf_19 hX rfl rfl (by decide) kX8_10F ?_
      refine r_get (k := 1) dX8_sampleOf_22 h0.lab rfl rfl (by decide) kX8_109F ?_
      refine r_iload_n dX8_sampleOf_25 rfl ?_
      refine r_aldqN dX8_sampleOf_26 hfS rfl (by omega) (by decide) (hvS _ (by omega)) ?_
      refine r_iload_n dX8_sampleOf_27 rfl ?_
      refine r_aload_n dX8_sampleOf_28 rfl ?_
      refine r_get (k := 0) dX8_sampleOf_29 hX rfl rfl (by decide) kX8_10F ?_
      refine r_get (k := 4) dX8_sampleOf_32 h0.lab rfl rfl (by decide) kX8_130F ?_
      refine r_iconst (v := nI 1) dX8_sampleOf_35 (by decide) ?_
      refine r_ialdN dX8_sampleOf_36 hfT (by omega) (by decide) (hvT _ (by omega)) ?_
      refine r_callV (As := [.int (nI (k1)), .int (g (5 + (1)))]) dX8_sampleOf_37 (tX6_number (h0.sp _ (by omega)) (hI.spok (by omega)) rfl (by omega)) rfl (h0.sp _ (by omega)).1 rfl rfl oX6_number rfl kX8_201M nX6_number eX6_number (by unfold fRoom; decide) (Nat.le_of_ble_eq_true rfl) rfl (bc' := 0) (bs' := 0) rfl rfl ?_
      show fR _ _ _ 40 _ (.int (pOfSample g k0 k1) :: _) _ _ _ _
      exact fR_iret dX8_sampleOf_40 rfl (cPost_r hC (by unfold oSampleOf ; simp only [ck0, ck1]; (repeat (first | rw [if_pos (by first | assumption | exact Int32.not_le.mp (by assumption) | exact Int32.not_lt.mp (by assumption) | omega)] | rw [if_neg (by first | assumption | exact Int32.not_lt.mpr (by assumption) | exact Int32.not_le.mpr (by assumption) | exact bne_of (by assumption) | exact not_not_intro (by assumption) | omega)])); first | done | rfl))
    · skip
      exact r_callSX (As := [.int (p1), .int (nI (0)), .int (nI (8))]) dX8_sampleOf_15 (tX8_mindRange_f (bf_of c2)) rfl oX8_mindRange rfl kX8_30M sX8_mindRange (by unfold fRoom; decide) (Nat.le_of_ble_eq_true rfl) rfl (cPost_x (t := 1) hC (by unfold oSampleOf ; simp only [ck0]; (repeat (first | rw [if_pos (by first | assumption | exact Int32.not_le.mp (by assumption) | exact Int32.not_lt.mp (by assumption) | omega)] | rw [if_neg (by first | assumption | exact Int32.not_lt.mpr (by assumption) | exact Int32.not_le.mpr (by assumption) | exact bne_of (by assumption) | exact not_not_intro (by assumption) | omega)])); first | done | rfl) rfl)
  · skip
    exact r_callSX (As := [.int (p0), .int (nI (n))]) dX8_sampleOf_8 (tX8_mindNumber_f (by omega) (bf_of c1)) rfl oX8_mindNumber rfl kX8_62M sX8_mindNumber (by unfold fRoom; decide) (Nat.le_of_ble_eq_true rfl) rfl (cPost_x (t := 0) hC (by unfold oSampleOf ; (repeat (first | rw [if_pos (by first | assumption | exact Int32.not_le.mp (by assumption) | exact Int32.not_lt.mp (by assumption) | omega)] | rw [if_neg (by first | assumption | exact Int32.not_lt.mpr (by assumption) | exact Int32.not_le.mpr (by assumption) | exact bne_of (by assumption) | exact not_not_intro (by assumption) | omega)])); first | done | rfl) rfl)
theorem tX8_needle {l : Launch} {κ : KP} {M : Mem} {ad : Nat → Nat} {g tx : Nat → Int32} {dn n sn ln : Nat} {kp : Bool} (hA : aInj ad) (hC : ClsAt κ ad M ⟨g, sn, kp, tx, ln⟩ dn n) {p0 : Int32} {p1 : Int32} : fM l κ mX8_needle [.ref (ad 254), .int (p0), .int (p1)] M (cPost κ ad M ["java/lang/IndexOutOfBoundsException", "java/lang/IllegalArgumentException"] (oNeedle ⟨g, sn, kp, tx, ln⟩ dn n p0 p1)) := by
  refine fM_of rfl (by decide +kernel) (Nat.le_of_ble_eq_true rfl) ?_
  obtain ⟨hX, hS, hI, hT, ch, hTX⟩ := id hC
  replace hS : LabsAt ad M g sn kp dn n := hS
  replace hI : BI g dn n := hI
  replace hT : TextAt κ ad M tx ln := hT
  replace hTX : TX tx ln ch := hTX
  obtain ⟨π, h0⟩ := hS.main
  have hs6 := hS.s6
  obtain ⟨fD, hfD, hvD⟩ := h0.drs
  obtain ⟨fS, hfS, hvS⟩ := h0.sps
  obtain ⟨fN, hfN, hvN⟩ := h0.nds
  obtain ⟨fG, hfG, hvG⟩ := h0.dgs
  obtain ⟨fT, hfT, hvT⟩ := h0.sts
  have hdn := h0.dl
  have hn := h0.nl
  show fR l κ mX8_needle 0 [(0, .ref (ad 254)), (1, .int (p0)), (2, .int (p1))] [] M 2 12 _
  refine r_iload_n dX8_needle_0 rfl ?_
  refine r_iconst (v := nI 3) dX8_needle_1 (by decide) ?_
  by_cases c1 : pNo p0 (3) = true
  · skip
    obtain ⟨k0, hk0, ek0⟩ := pNo_t c1 (by omega)
    subst ek0
    have ck0 : cN (nI k0) = k0 := nI_clamp (by omega)
    refine r_callS (As := [.int (nI (k0)), .int (nI (3))]) dX8_needle_2 (tX8_mindNumber_t (by omega) c1) rfl oX8_mindNumber rfl kX8_62M sX8_mindNumber (by unfold fRoom; decide) (Nat.le_of_ble_eq_true rfl) rfl (bc' := 1) (bs' := 6) rfl rfl ?_
    show fR _ _ _ 5 _ _ _ _ _ _
    refine r_iload_n dX8_needle_5 rfl ?_
    refine r_iconst (v := nI 0) dX8_needle_6 (by decide) ?_
    refine r_iconst (v := nI 2) dX8_needle_7 (by decide) ?_
    by_cases c2 : pIn p1 ((nI (0))) ((nI (2))) = true
    · skip
      obtain ⟨k1, hk1l, hk1, ek1⟩ := pIn_nat4 (by omega) (by omega) c2
      subst ek1
      have ck1 : cN (nI k1) = k1 := nI_clamp (by omega)
      refine r_callS (As := [.int (nI (k1)), .int (nI (0)), .int (nI (2))]) dX8_needle_8 (tX8_mindRange_t c2) rfl oX8_mindRange rfl kX8_30M sX8_mindRange (by unfold fRoom; decide) (Nat.le_of_ble_eq_true rfl) rfl (bc' := 0) (bs' := 0) rfl rfl ?_
      show fR _ _ _ 11 _ _ _ _ _ _
      refine r_aload_n dX8_needle_11 rfl ?_
      refine r_get (k := 0) dX8_needle_12 hX rfl rfl (by decide) kX8_10F ?_
      refine r_get (k := 2) dX8_needle_15 h0.lab rfl rfl (by decide) kX8_97F ?_
      refine r_iload_n dX8_needle_18 rfl ?_
      refine r_aldqN dX8_needle_19 hfN rfl (by omega) (by decide) (hvN _ (by omega)) ?_
      refine r_iload_n dX8_needle_20 rfl ?_
      refine r_callV (As := [.int (nI (k1))]) dX8_needle_21 (tX3_numberA h0 hI (by omega) (by omega)) rfl (h0.nd _ (by omega)) rfl rfl oX3_number rfl kX8_208M nX3_number eX3_number (by unfold fRoom; decide) (Nat.le_of_ble_eq_true rfl) rfl (bc' := 0) (bs' := 0) rfl rfl ?_
      show fR _ _ _ 24 _ (.int (g (31 + 3 * k0 + k1)) :: _) _ _ _ _
      exact fR_iret dX8_needle_24 rfl (cPost_r hC (by unfold oNeedle ; simp only [ck0, ck1]; (repeat (first | rw [if_pos (by first | assumption | exact Int32.not_le.mp (by assumption) | exact Int32.not_lt.mp (by assumption) | omega)] | rw [if_neg (by first | assumption | exact Int32.not_lt.mpr (by assumption) | exact Int32.not_le.mpr (by assumption) | exact bne_of (by assumption) | exact not_not_intro (by assumption) | omega)])); first | done | rfl))
    · skip
      exact r_callSX (As := [.int (p1), .int (nI (0)), .int (nI (2))]) dX8_needle_8 (tX8_mindRange_f (bf_of c2)) rfl oX8_mindRange rfl kX8_30M sX8_mindRange (by unfold fRoom; decide) (Nat.le_of_ble_eq_true rfl) rfl (cPost_x (t := 1) hC (by unfold oNeedle ; simp only [ck0]; (repeat (first | rw [if_pos (by first | assumption | exact Int32.not_le.mp (by assumption) | exact Int32.not_lt.mp (by assumption) | omega)] | rw [if_neg (by first | assumption | exact Int32.not_lt.mpr (by assumption) | exact Int32.not_le.mpr (by assumption) | exact bne_of (by assumption) | exact not_not_intro (by assumption) | omega)])); first | done | rfl) rfl)
  · skip
    exact r_callSX (As := [.int (p0), .int (nI (3))]) dX8_needle_2 (tX8_mindNumber_f (by omega) (bf_of c1)) rfl oX8_mindNumber rfl kX8_62M sX8_mindNumber (by unfold fRoom; decide) (Nat.le_of_ble_eq_true rfl) rfl (cPost_x (t := 0) hC (by unfold oNeedle ; (repeat (first | rw [if_pos (by first | assumption | exact Int32.not_le.mp (by assumption) | exact Int32.not_lt.mp (by assumption) | omega)] | rw [if_neg (by first | assumption | exact Int32.not_lt.mpr (by assumption) | exact Int32.not_le.mpr (by assumption) | exact bne_of (by assumption) | exact not_not_intro (by assumption) | omega)])); first | done | rfl) rfl)
theorem tX8_bathOf {l : Launch} {κ : KP} {M : Mem} {ad : Nat → Nat} {g tx : Nat → Int32} {dn n sn ln : Nat} {kp : Bool} (hA : aInj ad) (hC : ClsAt κ ad M ⟨g, sn, kp, tx, ln⟩ dn n) {p0 : Int32} {p1 : Int32} : fM l κ mX8_bathOf [.ref (ad 254), .int (p0), .int (p1)] M (cPost κ ad M ["java/lang/IndexOutOfBoundsException", "java/lang/IllegalArgumentException"] (oBathOf ⟨g, sn, kp, tx, ln⟩ dn n p0 p1)) := by
  refine fM_of rfl (by decide +kernel) (Nat.le_of_ble_eq_true rfl) ?_
  obtain ⟨hX, hS, hI, hT, ch, hTX⟩ := id hC
  replace hS : LabsAt ad M g sn kp dn n := hS
  replace hI : BI g dn n := hI
  replace hT : TextAt κ ad M tx ln := hT
  replace hTX : TX tx ln ch := hTX
  obtain ⟨π, h0⟩ := hS.main
  have hs6 := hS.s6
  obtain ⟨fD, hfD, hvD⟩ := h0.drs
  obtain ⟨fS, hfS, hvS⟩ := h0.sps
  obtain ⟨fN, hfN, hvN⟩ := h0.nds
  obtain ⟨fG, hfG, hvG⟩ := h0.dgs
  obtain ⟨fT, hfT, hvT⟩ := h0.sts
  have hdn := h0.dl
  have hn := h0.nl
  show fR l κ mX8_bathOf 0 [(0, .ref (ad 254)), (1, .int (p0)), (2, .int (p1))] [] M 2 12 _
  refine r_iload_n dX8_bathOf_0 rfl ?_
  refine r_iconst (v := nI 3) dX8_bathOf_1 (by decide) ?_
  by_cases c1 : pNo p0 (3) = true
  · skip
    obtain ⟨k0, hk0, ek0⟩ := pNo_t c1 (by omega)
    subst ek0
    have ck0 : cN (nI k0) = k0 := nI_clamp (by omega)
    refine r_callS (As := [.int (nI (k0)), .int (nI (3))]) dX8_bathOf_2 (tX8_mindNumber_t (by omega) c1) rfl oX8_mindNumber rfl kX8_62M sX8_mindNumber (by unfold fRoom; decide) (Nat.le_of_ble_eq_true rfl) rfl (bc' := 1) (bs' := 6) rfl rfl ?_
    show fR _ _ _ 5 _ _ _ _ _ _
    refine r_iload_n dX8_bathOf_5 rfl ?_
    refine r_iconst (v := nI 0) dX8_bathOf_6 (by decide) ?_
    refine r_iconst (v := nI 2) dX8_bathOf_7 (by decide) ?_
    by_cases c2 : pIn p1 ((nI (0))) ((nI (2))) = true
    · skip
      obtain ⟨k1, hk1l, hk1, ek1⟩ := pIn_nat4 (by omega) (by omega) c2
      subst ek1
      have ck1 : cN (nI k1) = k1 := nI_clamp (by omega)
      refine r_callS (As := [.int (nI (k1)), .int (nI (0)), .int (nI (2))]) dX8_bathOf_8 (tX8_mindRange_t c2) rfl oX8_mindRange rfl kX8_30M sX8_mindRange (by unfold fRoom; decide) (Nat.le_of_ble_eq_true rfl) rfl (bc' := 0) (bs' := 0) rfl rfl ?_
      show fR _ _ _ 11 _ _ _ _ _ _
      refine r_aload_n dX8_bathOf_11 rfl ?_
      refine r_get (k := 0) dX8_bathOf_12 hX rfl rfl (by decide) kX8_10F ?_
      refine r_iload_n dX8_bathOf_15 rfl ?_
      refine r_iload_n dX8_bathOf_16 rfl ?_
      refine r_callV (As := [.int (nI (k0)), .int (nI (k1))]) dX8_bathOf_17 (tX2_bathNumber h0 hI (by omega) (by omega)) rfl h0.lab rfl rfl oX2_bathNumber rfl kX8_210M nX2_bathNumber eX2_bathNumber (by unfold fRoom; decide) (Nat.le_of_ble_eq_true rfl) rfl (bc' := 0) (bs' := 0) rfl rfl ?_
      show fR _ _ _ 20 _ (.int (pOfBath g n k0 k1) :: _) _ _ _ _
      exact fR_iret dX8_bathOf_20 rfl (cPost_r hC (by unfold oBathOf ; simp only [ck0, ck1]; (repeat (first | rw [if_pos (by first | assumption | exact Int32.not_le.mp (by assumption) | exact Int32.not_lt.mp (by assumption) | omega)] | rw [if_neg (by first | assumption | exact Int32.not_lt.mpr (by assumption) | exact Int32.not_le.mpr (by assumption) | exact bne_of (by assumption) | exact not_not_intro (by assumption) | omega)])); first | done | rfl))
    · skip
      exact r_callSX (As := [.int (p1), .int (nI (0)), .int (nI (2))]) dX8_bathOf_8 (tX8_mindRange_f (bf_of c2)) rfl oX8_mindRange rfl kX8_30M sX8_mindRange (by unfold fRoom; decide) (Nat.le_of_ble_eq_true rfl) rfl (cPost_x (t := 1) hC (by unfold oBathOf ; simp only [ck0]; (repeat (first | rw [if_pos (by first | assumption | exact Int32.not_le.mp (by assumption) | exact Int32.not_lt.mp (by assumption) | omega)] | rw [if_neg (by first | assumption | exact Int32.not_lt.mpr (by assumption) | exact Int32.not_le.mpr (by assumption) | exact bne_of (by assumption) | exact not_not_intro (by assumption) | omega)])); first | done | rfl) rfl)
  · skip
    exact r_callSX (As := [.int (p0), .int (nI (3))]) dX8_bathOf_2 (tX8_mindNumber_f (by omega) (bf_of c1)) rfl oX8_mindNumber rfl kX8_62M sX8_mindNumber (by unfold fRoom; decide) (Nat.le_of_ble_eq_true rfl) rfl (cPost_x (t := 0) hC (by unfold oBathOf ; (repeat (first | rw [if_pos (by first | assumption | exact Int32.not_le.mp (by assumption) | exact Int32.not_lt.mp (by assumption) | omega)] | rw [if_neg (by first | assumption | exact Int32.not_lt.mpr (by assumption) | exact Int32.not_le.mpr (by assumption) | exact bne_of (by assumption) | exact not_not_intro (by assumption) | omega)])); first | done | rfl) rfl)
theorem tX8_count {l : Launch} {κ : KP} {M : Mem} {ad : Nat → Nat} {g tx : Nat → Int32} {dn n sn ln : Nat} {kp : Bool} (hA : aInj ad) (hC : ClsAt κ ad M ⟨g, sn, kp, tx, ln⟩ dn n) {p0 : Int32} : fM l κ mX8_count [.ref (ad 254), .int (p0)] M (cPost κ ad M ["java/lang/IllegalArgumentException"] (oCount ⟨g, sn, kp, tx, ln⟩ dn n p0)) := by
  refine fM_of rfl (by decide +kernel) (Nat.le_of_ble_eq_true rfl) ?_
  obtain ⟨hX, hS, hI, hT, ch, hTX⟩ := id hC
  replace hS : LabsAt ad M g sn kp dn n := hS
  replace hI : BI g dn n := hI
  replace hT : TextAt κ ad M tx ln := hT
  replace hTX : TX tx ln ch := hTX
  obtain ⟨π, h0⟩ := hS.main
  have hs6 := hS.s6
  obtain ⟨fD, hfD, hvD⟩ := h0.drs
  obtain ⟨fS, hfS, hvS⟩ := h0.sps
  obtain ⟨fN, hfN, hvN⟩ := h0.nds
  obtain ⟨fG, hfG, hvG⟩ := h0.dgs
  obtain ⟨fT, hfT, hvT⟩ := h0.sts
  have hdn := h0.dl
  have hn := h0.nl
  show fR l κ mX8_count 0 [(0, .ref (ad 254)), (1, .int (p0))] [] M 1 6 _
  refine r_iload_n dX8_count_0 rfl ?_
  refine r_iconst (v := nI 0) dX8_count_1 (by decide) ?_
  refine r_bipush (v := nI 11) dX8_count_2 (by decide) ?_
  by_cases c1 : pIn p0 ((nI (0))) ((nI (11))) = true
  · skip
    obtain ⟨k0, hk0l, hk0, ek0⟩ := pIn_nat4 (by omega) (by omega) c1
    subst ek0
    have ck0 : cN (nI k0) = k0 := nI_clamp (by omega)
    refine r_callS (As := [.int (nI (k0)), .int (nI (0)), .int (nI (11))]) dX8_count_4 (tX8_mindRange_t c1) rfl oX8_mindRange rfl kX8_30M sX8_mindRange (by unfold fRoom; decide) (Nat.le_of_ble_eq_true rfl) rfl (bc' := 0) (bs' := 0) rfl rfl ?_
    show fR _ _ _ 7 _ _ _ _ _ _
    refine r_iload_n dX8_count_7 rfl ?_
    refine r_bipush (v := nI 11) dX8_count_8 (by decide) ?_
    refine r_icmp_neN (tgt := 23) dX8_count_10 (by decide) (by omega) (by omega) (fun c2 => ?_) (fun c2 => ?_)
    · skip
      refine r_aload_n dX8_count_23 rfl ?_
      refine r_get (k := 0) dX8_count_24 hX rfl rfl (by decide) kX8_10F ?_
      refine r_iload_n dX8_count_27 rfl ?_
      refine r_callV (As := [.int (nI (k0))]) dX8_count_28 (tX2_total h0 hI (sv := nI sn) (by omega)) rfl h0.lab rfl rfl oX2_total rfl kX8_213M nX2_total eX2_total (by unfold fRoom; decide) (Nat.le_of_ble_eq_true rfl) rfl (bc' := 0) (bs' := 0) rfl rfl ?_
      show fR _ _ _ 31 _ (.int (pCounted g (nI sn) n dn k0) :: _) _ _ _ _
      exact fR_iret dX8_count_31 rfl (cPost_r hC (by unfold oCount ; simp only [ck0]; (repeat (first | rw [if_pos (by first | assumption | exact Int32.not_le.mp (by assumption) | exact Int32.not_lt.mp (by assumption) | omega)] | rw [if_neg (by first | assumption | exact Int32.not_lt.mpr (by assumption) | exact Int32.not_le.mpr (by assumption) | exact bne_of (by assumption) | exact not_not_intro (by assumption) | omega)])); first | done | rfl))
    · skip
      refine r_aload_n dX8_count_13 rfl ?_
      refine r_get (k := 1) dX8_count_14 hX rfl rfl (by decide) kX8_19F ?_
      refine r_get (k := 2) dX8_count_17 hS.hist rfl rfl (by decide) kX8_174F ?_
      refine r_goto (tgt := 31) dX8_count_20 (by decide) ?_
      have e11 : k0 = 11 := by omega
      subst e11
      exact fR_iret dX8_count_31 rfl (cPost_r hC (by unfold oCount ; simp only [ck0]; (repeat (first | rw [if_pos (by first | assumption | exact Int32.not_le.mp (by assumption) | exact Int32.not_lt.mp (by assumption) | omega)] | rw [if_neg (by first | assumption | exact Int32.not_lt.mpr (by assumption) | exact Int32.not_le.mpr (by assumption) | exact bne_of (by assumption) | exact not_not_intro (by assumption) | omega)])); first | done | rfl))
  · skip
    exact r_callSX (As := [.int (p0), .int (nI (0)), .int (nI (11))]) dX8_count_4 (tX8_mindRange_f (bf_of c1)) rfl oX8_mindRange rfl kX8_30M sX8_mindRange (by unfold fRoom; decide) (Nat.le_of_ble_eq_true rfl) rfl (cPost_x (t := 0) hC (by unfold oCount ; (repeat (first | rw [if_pos (by first | assumption | exact Int32.not_le.mp (by assumption) | exact Int32.not_lt.mp (by assumption) | omega)] | rw [if_neg (by first | assumption | exact Int32.not_lt.mpr (by assumption) | exact Int32.not_le.mpr (by assumption) | exact bne_of (by assumption) | exact not_not_intro (by assumption) | omega)])); first | done | rfl) rfl)
theorem tX8_stopped {l : Launch} {κ : KP} {M : Mem} {ad : Nat → Nat} {g tx : Nat → Int32} {dn n sn ln : Nat} {kp : Bool} (hA : aInj ad) (hC : ClsAt κ ad M ⟨g, sn, kp, tx, ln⟩ dn n) {p0 : Int32} : fM l κ mX8_stopped [.ref (ad 254), .int (p0)] M (cPost κ ad M ["java/lang/IllegalArgumentException"] (oStopped ⟨g, sn, kp, tx, ln⟩ dn n p0)) := by
  refine fM_of rfl (by decide +kernel) (Nat.le_of_ble_eq_true rfl) ?_
  obtain ⟨hX, hS, hI, hT, ch, hTX⟩ := id hC
  replace hS : LabsAt ad M g sn kp dn n := hS
  replace hI : BI g dn n := hI
  replace hT : TextAt κ ad M tx ln := hT
  replace hTX : TX tx ln ch := hTX
  obtain ⟨π, h0⟩ := hS.main
  have hs6 := hS.s6
  obtain ⟨fD, hfD, hvD⟩ := h0.drs
  obtain ⟨fS, hfS, hvS⟩ := h0.sps
  obtain ⟨fN, hfN, hvN⟩ := h0.nds
  obtain ⟨fG, hfG, hvG⟩ := h0.dgs
  obtain ⟨fT, hfT, hvT⟩ := h0.sts
  have hdn := h0.dl
  have hn := h0.nl
  show fR l κ mX8_stopped 0 [(0, .ref (ad 254)), (1, .int (p0))] [] M 1 6 _
  refine r_iload_n dX8_stopped_0 rfl ?_
  refine r_iconst (v := nI 0) dX8_stopped_1 (by decide) ?_
  refine r_iconst (v := nI 1) dX8_stopped_2 (by decide) ?_
  by_cases c1 : pIn p0 ((nI (0))) ((nI (1))) = true
  · skip
    obtain ⟨k0, hk0l, hk0, ek0⟩ := pIn_nat4 (by omega) (by omega) c1
    subst ek0
    have ck0 : cN (nI k0) = k0 := nI_clamp (by omega)
    refine r_callS (As := [.int (nI (k0)), .int (nI (0)), .int (nI (1))]) dX8_stopped_3 (tX8_mindRange_t c1) rfl oX8_mindRange rfl kX8_30M sX8_mindRange (by unfold fRoom; decide) (Nat.le_of_ble_eq_true rfl) rfl (bc' := 0) (bs' := 0) rfl rfl ?_
    show fR _ _ _ 6 _ _ _ _ _ _
    refine r_iload_n dX8_stopped_6 rfl ?_
    refine r_if_neN (tgt := 20) dX8_stopped_7 (by decide) (by omega) (fun c2 => ?_) (fun c2 => ?_)
    · skip
      refine r_aload_n dX8_stopped_20 rfl ?_
      refine r_get (k := 0) dX8_stopped_21 hX rfl rfl (by decide) kX8_10F ?_
      refine r_get (k := 10) dX8_stopped_24 h0.lab rfl rfl (by decide) kX8_171F ?_
      have e0 : k0 = 1 := by omega
      subst e0
      exact fR_iret dX8_stopped_27 rfl (cPost_r hC (by unfold oStopped ; simp only [ck0]; (repeat (first | rw [if_pos (by first | assumption | exact Int32.not_le.mp (by assumption) | exact Int32.not_lt.mp (by assumption) | omega)] | rw [if_neg (by first | assumption | exact Int32.not_lt.mpr (by assumption) | exact Int32.not_le.mpr (by assumption) | exact bne_of (by assumption) | exact not_not_intro (by assumption) | omega)])); first | done | rfl))
    · skip
      refine r_aload_n dX8_stopped_10 rfl ?_
      refine r_get (k := 0) dX8_stopped_11 hX rfl rfl (by decide) kX8_10F ?_
      refine r_get (k := 9) dX8_stopped_14 h0.lab rfl rfl (by decide) kX8_168F ?_
      refine r_goto (tgt := 27) dX8_stopped_17 (by decide) ?_
      have e0 : k0 = 0 := by omega
      subst e0
      exact fR_iret dX8_stopped_27 rfl (cPost_r hC (by unfold oStopped ; simp only [ck0]; (repeat (first | rw [if_pos (by first | assumption | exact Int32.not_le.mp (by assumption) | exact Int32.not_lt.mp (by assumption) | omega)] | rw [if_neg (by first | assumption | exact Int32.not_lt.mpr (by assumption) | exact Int32.not_le.mpr (by assumption) | exact bne_of (by assumption) | exact not_not_intro (by assumption) | omega)])); first | done | rfl))
  · skip
    exact r_callSX (As := [.int (p0), .int (nI (0)), .int (nI (1))]) dX8_stopped_3 (tX8_mindRange_f (bf_of c1)) rfl oX8_mindRange rfl kX8_30M sX8_mindRange (by unfold fRoom; decide) (Nat.le_of_ble_eq_true rfl) rfl (cPost_x (t := 0) hC (by unfold oStopped ; (repeat (first | rw [if_pos (by first | assumption | exact Int32.not_le.mp (by assumption) | exact Int32.not_lt.mp (by assumption) | omega)] | rw [if_neg (by first | assumption | exact Int32.not_lt.mpr (by assumption) | exact Int32.not_le.mpr (by assumption) | exact bne_of (by assumption) | exact not_not_intro (by assumption) | omega)])); first | done | rfl) rfl)
theorem tX8_noSink {l : Launch} {κ : KP} {M : Mem} {ad : Nat → Nat} {g tx : Nat → Int32} {dn n sn ln : Nat} {kp : Bool} (hA : aInj ad) (hC : ClsAt κ ad M ⟨g, sn, kp, tx, ln⟩ dn n) {p0 : Int32} {p1 : Int32} : fM l κ mX8_noSink [.ref (ad 254), .int (p0), .int (p1)] M (cPost κ ad M ["java/lang/IndexOutOfBoundsException"] (oNoSink ⟨g, sn, kp, tx, ln⟩ dn n p0 p1)) := by
  refine fM_of rfl (by decide +kernel) (Nat.le_of_ble_eq_true rfl) ?_
  obtain ⟨hX, hS, hI, hT, ch, hTX⟩ := id hC
  replace hS : LabsAt ad M g sn kp dn n := hS
  replace hI : BI g dn n := hI
  replace hT : TextAt κ ad M tx ln := hT
  replace hTX : TX tx ln ch := hTX
  obtain ⟨π, h0⟩ := hS.main
  have hs6 := hS.s6
  obtain ⟨fD, hfD, hvD⟩ := h0.drs
  obtain ⟨fS, hfS, hvS⟩ := h0.sps
  obtain ⟨fN, hfN, hvN⟩ := h0.nds
  obtain ⟨fG, hfG, hvG⟩ := h0.dgs
  obtain ⟨fT, hfT, hvT⟩ := h0.sts
  have hdn := h0.dl
  have hn := h0.nl
  show fR l κ mX8_noSink 0 [(0, .ref (ad 254)), (1, .int (p0)), (2, .int (p1))] [] M 2 12 _
  refine r_iload_n dX8_noSink_0 rfl ?_
  refine r_iconst (v := nI 3) dX8_noSink_1 (by decide) ?_
  by_cases c1 : pNo p0 (3) = true
  · skip
    obtain ⟨k0, hk0, ek0⟩ := pNo_t c1 (by omega)
    subst ek0
    have ck0 : cN (nI k0) = k0 := nI_clamp (by omega)
    refine r_callS (As := [.int (nI (k0)), .int (nI (3))]) dX8_noSink_2 (tX8_mindNumber_t (by omega) c1) rfl oX8_mindNumber rfl kX8_62M sX8_mindNumber (by unfold fRoom; decide) (Nat.le_of_ble_eq_true rfl) rfl (bc' := 1) (bs' := 6) rfl rfl ?_
    show fR _ _ _ 5 _ _ _ _ _ _
    refine r_iload_n dX8_noSink_5 rfl ?_
    refine r_aload_n dX8_noSink_6 rfl ?_
    refine r_get (k := 0) dX8_noSink_7 hX rfl rfl (by decide) kX8_10F ?_
    refine r_get (k := 6) dX8_noSink_10 h0.lab rfl rfl (by decide) kX8_59F ?_
    by_cases c2 : pNo p1 (n) = true
    · skip
      obtain ⟨k1, hk1, ek1⟩ := pNo_t c2 (by omega)
      subst ek1
      have ck1 : cN (nI k1) = k1 := nI_clamp (by omega)
      refine r_callS (As := [.int (nI (k1)), .int (nI (n))]) dX8_noSink_13 (tX8_mindNumber_t (by omega) c2) rfl oX8_mindNumber rfl kX8_62M sX8_mindNumber (by unfold fRoom; decide) (Nat.le_of_ble_eq_true rfl) rfl (bc' := 0) (bs' := 0) rfl rfl ?_
      show fR _ _ _ 16 _ _ _ _ _ _
      refine r_aload_n dX8_noSink_16 rfl ?_
      refine r_get (k := 0) dX8_noSink_17 hX rfl rfl (by decide) kX8_10F ?_
      refine r_iload_n dX8_noSink_20 rfl ?_
      refine r_iload_n dX8_noSink_21 rfl ?_
      refine r_callV (As := [.int (nI (k0)), .int (nI (k1))]) dX8_noSink_22 (tX2_whyNotSunk h0 hI (by omega) (by omega)) rfl h0.lab rfl rfl oX2_whyNotSunk rfl kX8_87M nX2_whyNotSunk eX2_whyNotSunk (by unfold fRoom; decide) (Nat.le_of_ble_eq_true rfl) rfl (bc' := 0) (bs' := 0) rfl rfl ?_
      show fR _ _ _ 25 _ (.int (pWhyNot g k0 k1) :: _) _ _ _ _
      exact fR_iret dX8_noSink_25 rfl (cPost_r hC (by unfold oNoSink ; simp only [ck0, ck1]; (repeat (first | rw [if_pos (by first | assumption | exact Int32.not_le.mp (by assumption) | exact Int32.not_lt.mp (by assumption) | omega)] | rw [if_neg (by first | assumption | exact Int32.not_lt.mpr (by assumption) | exact Int32.not_le.mpr (by assumption) | exact bne_of (by assumption) | exact not_not_intro (by assumption) | omega)])); first | done | rfl))
    · skip
      exact r_callSX (As := [.int (p1), .int (nI (n))]) dX8_noSink_13 (tX8_mindNumber_f (by omega) (bf_of c2)) rfl oX8_mindNumber rfl kX8_62M sX8_mindNumber (by unfold fRoom; decide) (Nat.le_of_ble_eq_true rfl) rfl (cPost_x (t := 0) hC (by unfold oNoSink ; simp only [ck0]; (repeat (first | rw [if_pos (by first | assumption | exact Int32.not_le.mp (by assumption) | exact Int32.not_lt.mp (by assumption) | omega)] | rw [if_neg (by first | assumption | exact Int32.not_lt.mpr (by assumption) | exact Int32.not_le.mpr (by assumption) | exact bne_of (by assumption) | exact not_not_intro (by assumption) | omega)])); first | done | rfl) rfl)
  · skip
    exact r_callSX (As := [.int (p0), .int (nI (3))]) dX8_noSink_2 (tX8_mindNumber_f (by omega) (bf_of c1)) rfl oX8_mindNumber rfl kX8_62M sX8_mindNumber (by unfold fRoom; decide) (Nat.le_of_ble_eq_true rfl) rfl (cPost_x (t := 0) hC (by unfold oNoSink ; (repeat (first | rw [if_pos (by first | assumption | exact Int32.not_le.mp (by assumption) | exact Int32.not_lt.mp (by assumption) | omega)] | rw [if_neg (by first | assumption | exact Int32.not_lt.mpr (by assumption) | exact Int32.not_le.mpr (by assumption) | exact bne_of (by assumption) | exact not_not_intro (by assumption) | omega)])); first | done | rfl) rfl)
theorem tX8_noSale {l : Launch} {κ : KP} {M : Mem} {ad : Nat → Nat} {g tx : Nat → Int32} {dn n sn ln : Nat} {kp : Bool} (hA : aInj ad) (hC : ClsAt κ ad M ⟨g, sn, kp, tx, ln⟩ dn n) {p0 : Int32} : fM l κ mX8_noSale [.ref (ad 254), .int (p0)] M (cPost κ ad M ["java/lang/IndexOutOfBoundsException"] (oNoSale ⟨g, sn, kp, tx, ln⟩ dn n p0)) := by
  refine fM_of rfl (by decide +kernel) (Nat.le_of_ble_eq_true rfl) ?_
  obtain ⟨hX, hS, hI, hT, ch, hTX⟩ := id hC
  replace hS : LabsAt ad M g sn kp dn n := hS
  replace hI : BI g dn n := hI
  replace hT : TextAt κ ad M tx ln := hT
  replace hTX : TX tx ln ch := hTX
  obtain ⟨π, h0⟩ := hS.main
  have hs6 := hS.s6
  obtain ⟨fD, hfD, hvD⟩ := h0.drs
  obtain ⟨fS, hfS, hvS⟩ := h0.sps
  obtain ⟨fN, hfN, hvN⟩ := h0.nds
  obtain ⟨fG, hfG, hvG⟩ := h0.dgs
  obtain ⟨fT, hfT, hvT⟩ := h0.sts
  have hdn := h0.dl
  have hn := h0.nl
  show fR l κ mX8_noSale 0 [(0, .ref (ad 254)), (1, .int (p0))] [] M 1 6 _
  refine r_iload_n dX8_noSale_0 rfl ?_
  refine r_aload_n dX8_noSale_1 rfl ?_
  refine r_get (k := 0) dX8_noSale_2 hX rfl rfl (by decide) kX8_10F ?_
  refine r_get (k := 5) dX8_noSale_5 h0.lab rfl rfl (by decide) kX8_34F ?_
  by_cases c1 : pNo p0 (dn) = true
  · skip
    obtain ⟨k0, hk0, ek0⟩ := pNo_t c1 (by omega)
    subst ek0
    have ck0 : cN (nI k0) = k0 := nI_clamp (by omega)
    refine r_callS (As := [.int (nI (k0)), .int (nI (dn))]) dX8_noSale_8 (tX8_mindNumber_t (by omega) c1) rfl oX8_mindNumber rfl kX8_62M sX8_mindNumber (by unfold fRoom; decide) (Nat.le_of_ble_eq_true rfl) rfl (bc' := 0) (bs' := 0) rfl rfl ?_
    show fR _ _ _ 11 _ _ _ _ _ _
    refine r_aload_n dX8_noSale_11 rfl ?_
    refine r_get (k := 0) dX8_noSale_12 hX rfl rfl (by decide) kX8_10F ?_
    refine r_iload_n dX8_noSale_15 rfl ?_
    refine r_callS (As := [.ref (ad 0), .int (nI (k0))]) dX8_noSale_16 (tX7_whyNotSold h0 hI) rfl oX7_whyNotSold rfl kX8_118M sX7_whyNotSold (by unfold fRoom; decide) (Nat.le_of_ble_eq_true rfl) rfl (bc' := 0) (bs' := 0) rfl rfl ?_
    show fR _ _ _ 19 _ (.int ((pSoldv g dn n (nI k0))) :: _) _ _ _ _
    refine r_top (y := (pWhyS g n k0)) (by unfold pSoldv; rw [if_pos (by assumption), ck0]) ?_
    exact fR_iret dX8_noSale_19 rfl (cPost_r hC (by unfold oNoSale ; simp only [ck0]; (repeat (first | rw [if_pos (by first | assumption | exact Int32.not_le.mp (by assumption) | exact Int32.not_lt.mp (by assumption) | omega)] | rw [if_neg (by first | assumption | exact Int32.not_lt.mpr (by assumption) | exact Int32.not_le.mpr (by assumption) | exact bne_of (by assumption) | exact not_not_intro (by assumption) | omega)])); first | done | rfl))
  · skip
    exact r_callSX (As := [.int (p0), .int (nI (dn))]) dX8_noSale_8 (tX8_mindNumber_f (by omega) (bf_of c1)) rfl oX8_mindNumber rfl kX8_62M sX8_mindNumber (by unfold fRoom; decide) (Nat.le_of_ble_eq_true rfl) rfl (cPost_x (t := 0) hC (by unfold oNoSale ; (repeat (first | rw [if_pos (by first | assumption | exact Int32.not_le.mp (by assumption) | exact Int32.not_lt.mp (by assumption) | omega)] | rw [if_neg (by first | assumption | exact Int32.not_lt.mpr (by assumption) | exact Int32.not_le.mpr (by assumption) | exact bne_of (by assumption) | exact not_not_intro (by assumption) | omega)])); first | done | rfl) rfl)
theorem tX8_ifSunk {l : Launch} {κ : KP} {M : Mem} {ad : Nat → Nat} {g tx : Nat → Int32} {dn n sn ln : Nat} {kp : Bool} (hA : aInj ad) (hC : ClsAt κ ad M ⟨g, sn, kp, tx, ln⟩ dn n) {p0 : Int32} {p1 : Int32} {p2 : Int32} {p3 : Int32} : fM l κ mX8_ifSunk [.ref (ad 254), .int (p0), .int (p1), .int (p2), .int (p3)] M (cPost κ ad M ["java/lang/IndexOutOfBoundsException", "java/lang/IllegalArgumentException"] (oIfSunk ⟨g, sn, kp, tx, ln⟩ dn n p0 p1 p2 p3)) := by
  refine fM_of rfl (by decide +kernel) (Nat.le_of_ble_eq_true rfl) ?_
  obtain ⟨hX, hS, hI, hT, ch, hTX⟩ := id hC
  replace hS : LabsAt ad M g sn kp dn n := hS
  replace hI : BI g dn n := hI
  replace hT : TextAt κ ad M tx ln := hT
  replace hTX : TX tx ln ch := hTX
  obtain ⟨π, h0⟩ := hS.main
  have hs6 := hS.s6
  obtain ⟨fD, hfD, hvD⟩ := h0.drs
  obtain ⟨fS, hfS, hvS⟩ := h0.sps
  obtain ⟨fN, hfN, hvN⟩ := h0.nds
  obtain ⟨fG, hfG, hvG⟩ := h0.dgs
  obtain ⟨fT, hfT, hvT⟩ := h0.sts
  have hdn := h0.dl
  have hn := h0.nl
  show fR l κ mX8_ifSunk 0 [(0, .ref (ad 254)), (1, .int (p0)), (2, .int (p1)), (3, .int (p2)), (4, .int (p3))] [] M 4 24 _
  refine r_iload_n dX8_ifSunk_0 rfl ?_
  refine r_iconst (v := nI 3) dX8_ifSunk_1 (by decide) ?_
  by_cases c1 : pNo p0 (3) = true
  · skip
    obtain ⟨k0, hk0, ek0⟩ := pNo_t c1 (by omega)
    subst ek0
    have ck0 : cN (nI k0) = k0 := nI_clamp (by omega)
    refine r_callS (As := [.int (nI (k0)), .int (nI (3))]) dX8_ifSunk_2 (tX8_mindNumber_t (by omega) c1) rfl oX8_mindNumber rfl kX8_62M sX8_mindNumber (by unfold fRoom; decide) (Nat.le_of_ble_eq_true rfl) rfl (bc' := 3) (bs' := 18) rfl rfl ?_
    show fR _ _ _ 5 _ _ _ _ _ _
    refine r_iload_n dX8_ifSunk_5 rfl ?_
    refine r_aload_n dX8_ifSunk_6 rfl ?_
    refine r_get (k := 0) dX8_ifSunk_7 hX rfl rfl (by decide) kX8_10F ?_
    refine r_get (k := 6) dX8_ifSunk_10 h0.lab rfl rfl (by decide) kX8_59F ?_
    by_cases c2 : pNo p1 (n) = true
    · skip
      obtain ⟨k1, hk1, ek1⟩ := pNo_t c2 (by omega)
      subst ek1
      have ck1 : cN (nI k1) = k1 := nI_clamp (by omega)
      refine r_callS (As := [.int (nI (k1)), .int (nI (n))]) dX8_ifSunk_13 (tX8_mindNumber_t (by omega) c2) rfl oX8_mindNumber rfl kX8_62M sX8_mindNumber (by unfold fRoom; decide) (Nat.le_of_ble_eq_true rfl) rfl (bc' := 2) (bs' := 12) rfl rfl ?_
      show fR _ _ _ 16 _ _ _ _ _ _
      refine r_iload_n dX8_ifSunk_16 rfl ?_
      refine r_bipush (v := nI 50) dX8_ifSunk_17 (by decide) ?_
      refine r_sipush (v := nI 200) dX8_ifSunk_19 (by decide) ?_
      by_cases c3 : pIn p2 ((nI (50))) ((nI (200))) = true
      · skip
        obtain ⟨k2, hk2l, hk2, ek2⟩ := pIn_nat4 (by omega) (by omega) c3
        subst ek2
        have ck2 : cN (nI k2) = k2 := nI_clamp (by omega)
        refine r_callS (As := [.int (nI (k2)), .int (nI (50)), .int (nI (200))]) dX8_ifSunk_22 (tX8_mindRange_t c3) rfl oX8_mindRange rfl kX8_30M sX8_mindRange (by unfold fRoom; decide) (Nat.le_of_ble_eq_true rfl) rfl (bc' := 1) (bs' := 6) rfl rfl ?_
        show fR _ _ _ 25 _ _ _ _ _ _
        refine r_iload dX8_ifSunk_25 rfl ?_
        refine r_iconst (v := nI 1) dX8_ifSunk_27 (by decide) ?_
        refine r_bipush (v := nI 60) dX8_ifSunk_28 (by decide) ?_
        by_cases c4 : pIn p3 ((nI (1))) ((nI (60))) = true
        · skip
          obtain ⟨k3, hk3l, hk3, ek3⟩ := pIn_nat4 (by omega) (by omega) c4
          subst ek3
          have ck3 : cN (nI k3) = k3 := nI_clamp (by omega)
          refine r_callS (As := [.int (nI (k3)), .int (nI (1)), .int (nI (60))]) dX8_ifSunk_30 (tX8_mindRange_t c4) rfl oX8_mindRange rfl kX8_30M sX8_mindRange (by unfold fRoom; decide) (Nat.le_of_ble_eq_true rfl) rfl (bc' := 0) (bs' := 0) rfl rfl ?_
          show fR _ _ _ 33 _ _ _ _ _ _
          refine r_aload_n dX8_ifSunk_33 rfl ?_
          refine r_get (k := 0) dX8_ifSunk_34 hX rfl rfl (by decide) kX8_10F ?_
          refine r_iload_n dX8_ifSunk_37 rfl ?_
          refine r_iload_n dX8_ifSunk_38 rfl ?_
          refine r_iload_n dX8_ifSunk_39 rfl ?_
          refine r_iload dX8_ifSunk_40 rfl ?_
          refine r_callV (As := [.int (nI (k0)), .int (nI (k1)), .int (nI (k2)), .int (nI (k3))]) dX8_ifSunk_42 (tX2_depth h0 hI (by omega) (by omega) (by omega) (by omega)) rfl h0.lab rfl rfl oX2_depth rfl kX8_216M nX2_depth eX2_depth (by unfold fRoom; decide) (Nat.le_of_ble_eq_true rfl) rfl (bc' := 0) (bs' := 0) rfl rfl ?_
          show fR _ _ _ 45 _ (.int (pDep g k0 k1 (nI (k2)) (nI (k3))) :: _) _ _ _ _
          exact fR_iret dX8_ifSunk_45 rfl (cPost_r hC (by unfold oIfSunk ; simp only [ck0, ck1, ck2, ck3]; (repeat (first | rw [if_pos (by first | assumption | exact Int32.not_le.mp (by assumption) | exact Int32.not_lt.mp (by assumption) | omega)] | rw [if_neg (by first | assumption | exact Int32.not_lt.mpr (by assumption) | exact Int32.not_le.mpr (by assumption) | exact bne_of (by assumption) | exact not_not_intro (by assumption) | omega)])); first | done | rfl))
        · skip
          exact r_callSX (As := [.int (p3), .int (nI (1)), .int (nI (60))]) dX8_ifSunk_30 (tX8_mindRange_f (bf_of c4)) rfl oX8_mindRange rfl kX8_30M sX8_mindRange (by unfold fRoom; decide) (Nat.le_of_ble_eq_true rfl) rfl (cPost_x (t := 1) hC (by unfold oIfSunk ; simp only [ck0, ck1, ck2]; (repeat (first | rw [if_pos (by first | assumption | exact Int32.not_le.mp (by assumption) | exact Int32.not_lt.mp (by assumption) | omega)] | rw [if_neg (by first | assumption | exact Int32.not_lt.mpr (by assumption) | exact Int32.not_le.mpr (by assumption) | exact bne_of (by assumption) | exact not_not_intro (by assumption) | omega)])); first | done | rfl) rfl)
      · skip
        exact r_callSX (As := [.int (p2), .int (nI (50)), .int (nI (200))]) dX8_ifSunk_22 (tX8_mindRange_f (bf_of c3)) rfl oX8_mindRange rfl kX8_30M sX8_mindRange (by unfold fRoom; decide) (Nat.le_of_ble_eq_true rfl) rfl (cPost_x (t := 1) hC (by unfold oIfSunk ; simp only [ck0, ck1]; (repeat (first | rw [if_pos (by first | assumption | exact Int32.not_le.mp (by assumption) | exact Int32.not_lt.mp (by assumption) | omega)] | rw [if_neg (by first | assumption | exact Int32.not_lt.mpr (by assumption) | exact Int32.not_le.mpr (by assumption) | exact bne_of (by assumption) | exact not_not_intro (by assumption) | omega)])); first | done | rfl) rfl)
    · skip
      exact r_callSX (As := [.int (p1), .int (nI (n))]) dX8_ifSunk_13 (tX8_mindNumber_f (by omega) (bf_of c2)) rfl oX8_mindNumber rfl kX8_62M sX8_mindNumber (by unfold fRoom; decide) (Nat.le_of_ble_eq_true rfl) rfl (cPost_x (t := 0) hC (by unfold oIfSunk ; simp only [ck0]; (repeat (first | rw [if_pos (by first | assumption | exact Int32.not_le.mp (by assumption) | exact Int32.not_lt.mp (by assumption) | omega)] | rw [if_neg (by first | assumption | exact Int32.not_lt.mpr (by assumption) | exact Int32.not_le.mpr (by assumption) | exact bne_of (by assumption) | exact not_not_intro (by assumption) | omega)])); first | done | rfl) rfl)
  · skip
    exact r_callSX (As := [.int (p0), .int (nI (3))]) dX8_ifSunk_2 (tX8_mindNumber_f (by omega) (bf_of c1)) rfl oX8_mindNumber rfl kX8_62M sX8_mindNumber (by unfold fRoom; decide) (Nat.le_of_ble_eq_true rfl) rfl (cPost_x (t := 0) hC (by unfold oIfSunk ; (repeat (first | rw [if_pos (by first | assumption | exact Int32.not_le.mp (by assumption) | exact Int32.not_lt.mp (by assumption) | omega)] | rw [if_neg (by first | assumption | exact Int32.not_lt.mpr (by assumption) | exact Int32.not_le.mpr (by assumption) | exact bne_of (by assumption) | exact not_not_intro (by assumption) | omega)])); first | done | rfl) rfl)
theorem tX8_readyIn {l : Launch} {κ : KP} {M : Mem} {ad : Nat → Nat} {g tx : Nat → Int32} {dn n sn ln : Nat} {kp : Bool} (hA : aInj ad) (hC : ClsAt κ ad M ⟨g, sn, kp, tx, ln⟩ dn n) {p0 : Int32} : fM l κ mX8_readyIn [.ref (ad 254), .int (p0)] M (cPost κ ad M ["java/lang/IndexOutOfBoundsException"] (oReadyIn ⟨g, sn, kp, tx, ln⟩ dn n p0)) := by
  refine fM_of rfl (by decide +kernel) (Nat.le_of_ble_eq_true rfl) ?_
  obtain ⟨hX, hS, hI, hT, ch, hTX⟩ := id hC
  replace hS : LabsAt ad M g sn kp dn n := hS
  replace hI : BI g dn n := hI
  replace hT : TextAt κ ad M tx ln := hT
  replace hTX : TX tx ln ch := hTX
  obtain ⟨π, h0⟩ := hS.main
  have hs6 := hS.s6
  obtain ⟨fD, hfD, hvD⟩ := h0.drs
  obtain ⟨fS, hfS, hvS⟩ := h0.sps
  obtain ⟨fN, hfN, hvN⟩ := h0.nds
  obtain ⟨fG, hfG, hvG⟩ := h0.dgs
  obtain ⟨fT, hfT, hvT⟩ := h0.sts
  have hdn := h0.dl
  have hn := h0.nl
  show fR l κ mX8_readyIn 0 [(0, .ref (ad 254)), (1, .int (p0))] [] M 1 6 _
  refine r_iload_n dX8_readyIn_0 rfl ?_
  refine r_aload_n dX8_readyIn_1 rfl ?_
  refine r_get (k := 0) dX8_readyIn_2 hX rfl rfl (by decide) kX8_10F ?_
  refine r_get (k := 6) dX8_readyIn_5 h0.lab rfl rfl (by decide) kX8_59F ?_
  by_cases c1 : pNo p0 (n) = true
  · skip
    obtain ⟨k0, hk0, ek0⟩ := pNo_t c1 (by omega)
    subst ek0
    have ck0 : cN (nI k0) = k0 := nI_clamp (by omega)
    refine r_callS (As := [.int (nI (k0)), .int (nI (n))]) dX8_readyIn_8 (tX8_mindNumber_t (by omega) c1) rfl oX8_mindNumber rfl kX8_62M sX8_mindNumber (by unfold fRoom; decide) (Nat.le_of_ble_eq_true rfl) rfl (bc' := 0) (bs' := 0) rfl rfl ?_
    show fR _ _ _ 11 _ _ _ _ _ _
    refine r_aload_n dX8_readyIn_11 rfl ?_
    refine r_get (k := 0) dX8_readyIn_12 hX rfl rfl (by decide) kX8_10F ?_
    refine r_iload_n dX8_readyIn_15 rfl ?_
    refine r_callV (As := [.int (nI (k0))]) dX8_readyIn_16 (tX2_readyNow h0 hI (by omega)) rfl h0.lab rfl rfl oX2_minutesToReady rfl kX8_219M nX2_minutesToReady eX2_minutesToReady (by unfold fRoom; decide) (Nat.le_of_ble_eq_true rfl) rfl (bc' := 0) (bs' := 0) rfl rfl ?_
    show fR _ _ _ 19 _ (.int (pReadyNow g k0) :: _) _ _ _ _
    exact fR_iret dX8_readyIn_19 rfl (cPost_r hC (by unfold oReadyIn ; simp only [ck0]; (repeat (first | rw [if_pos (by first | assumption | exact Int32.not_le.mp (by assumption) | exact Int32.not_lt.mp (by assumption) | omega)] | rw [if_neg (by first | assumption | exact Int32.not_lt.mpr (by assumption) | exact Int32.not_le.mpr (by assumption) | exact bne_of (by assumption) | exact not_not_intro (by assumption) | omega)])); first | done | rfl))
  · skip
    exact r_callSX (As := [.int (p0), .int (nI (n))]) dX8_readyIn_8 (tX8_mindNumber_f (by omega) (bf_of c1)) rfl oX8_mindNumber rfl kX8_62M sX8_mindNumber (by unfold fRoom; decide) (Nat.le_of_ble_eq_true rfl) rfl (cPost_x (t := 0) hC (by unfold oReadyIn ; (repeat (first | rw [if_pos (by first | assumption | exact Int32.not_le.mp (by assumption) | exact Int32.not_lt.mp (by assumption) | omega)] | rw [if_neg (by first | assumption | exact Int32.not_lt.mpr (by assumption) | exact Int32.not_le.mpr (by assumption) | exact bne_of (by assumption) | exact not_not_intro (by assumption) | omega)])); first | done | rfl) rfl)
theorem tX8_bestBath {l : Launch} {κ : KP} {M : Mem} {ad : Nat → Nat} {g tx : Nat → Int32} {dn n sn ln : Nat} {kp : Bool} (hA : aInj ad) (hC : ClsAt κ ad M ⟨g, sn, kp, tx, ln⟩ dn n) {p0 : Int32} : fM l κ mX8_bestBath [.ref (ad 254), .int (p0)] M (cPost κ ad M ["java/lang/IndexOutOfBoundsException"] (oBestBath ⟨g, sn, kp, tx, ln⟩ dn n p0)) := by
  refine fM_of rfl (by decide +kernel) (Nat.le_of_ble_eq_true rfl) ?_
  obtain ⟨hX, hS, hI, hT, ch, hTX⟩ := id hC
  replace hS : LabsAt ad M g sn kp dn n := hS
  replace hI : BI g dn n := hI
  replace hT : TextAt κ ad M tx ln := hT
  replace hTX : TX tx ln ch := hTX
  obtain ⟨π, h0⟩ := hS.main
  have hs6 := hS.s6
  obtain ⟨fD, hfD, hvD⟩ := h0.drs
  obtain ⟨fS, hfS, hvS⟩ := h0.sps
  obtain ⟨fN, hfN, hvN⟩ := h0.nds
  obtain ⟨fG, hfG, hvG⟩ := h0.dgs
  obtain ⟨fT, hfT, hvT⟩ := h0.sts
  have hdn := h0.dl
  have hn := h0.nl
  show fR l κ mX8_bestBath 0 [(0, .ref (ad 254)), (1, .int (p0))] [] M 1 6 _
  refine r_iload_n dX8_bestBath_0 rfl ?_
  refine r_aload_n dX8_bestBath_1 rfl ?_
  refine r_get (k := 0) dX8_bestBath_2 hX rfl rfl (by decide) kX8_10F ?_
  refine r_get (k := 6) dX8_bestBath_5 h0.lab rfl rfl (by decide) kX8_59F ?_
  by_cases c1 : pNo p0 (n) = true
  · skip
    obtain ⟨k0, hk0, ek0⟩ := pNo_t c1 (by omega)
    subst ek0
    have ck0 : cN (nI k0) = k0 := nI_clamp (by omega)
    refine r_callS (As := [.int (nI (k0)), .int (nI (n))]) dX8_bestBath_8 (tX8_mindNumber_t (by omega) c1) rfl oX8_mindNumber rfl kX8_62M sX8_mindNumber (by unfold fRoom; decide) (Nat.le_of_ble_eq_true rfl) rfl (bc' := 0) (bs' := 0) rfl rfl ?_
    show fR _ _ _ 11 _ _ _ _ _ _
    refine r_aload_n dX8_bestBath_11 rfl ?_
    refine r_get (k := 0) dX8_bestBath_12 hX rfl rfl (by decide) kX8_10F ?_
    refine r_iload_n dX8_bestBath_15 rfl ?_
    refine r_callV (As := [.int (nI (k0))]) dX8_bestBath_16 (tX2_best h0 hI (by omega)) rfl h0.lab rfl rfl oX2_quickestBath rfl kX8_222M nX2_quickestBath eX2_quickestBath (by unfold fRoom; decide) (Nat.le_of_ble_eq_true rfl) rfl (bc' := 0) (bs' := 0) rfl rfl ?_
    show fR _ _ _ 19 _ (.int (pBF g n k0 3) :: _) _ _ _ _
    exact fR_iret dX8_bestBath_19 rfl (cPost_r hC (by unfold oBestBath ; simp only [ck0]; (repeat (first | rw [if_pos (by first | assumption | exact Int32.not_le.mp (by assumption) | exact Int32.not_lt.mp (by assumption) | omega)] | rw [if_neg (by first | assumption | exact Int32.not_lt.mpr (by assumption) | exact Int32.not_le.mpr (by assumption) | exact bne_of (by assumption) | exact not_not_intro (by assumption) | omega)])); first | done | rfl))
  · skip
    exact r_callSX (As := [.int (p0), .int (nI (n))]) dX8_bestBath_8 (tX8_mindNumber_f (by omega) (bf_of c1)) rfl oX8_mindNumber rfl kX8_62M sX8_mindNumber (by unfold fRoom; decide) (Nat.le_of_ble_eq_true rfl) rfl (cPost_x (t := 0) hC (by unfold oBestBath ; (repeat (first | rw [if_pos (by first | assumption | exact Int32.not_le.mp (by assumption) | exact Int32.not_lt.mp (by assumption) | omega)] | rw [if_neg (by first | assumption | exact Int32.not_lt.mpr (by assumption) | exact Int32.not_le.mpr (by assumption) | exact bne_of (by assumption) | exact not_not_intro (by assumption) | omega)])); first | done | rfl) rfl)
theorem tX8_reading {l : Launch} {κ : KP} {M : Mem} {ad : Nat → Nat} {g tx : Nat → Int32} {dn n sn ln : Nat} {kp : Bool} (hA : aInj ad) (hC : ClsAt κ ad M ⟨g, sn, kp, tx, ln⟩ dn n) {p0 : Int32} {p1 : Int32} {p2 : Int32} : fM l κ mX8_reading [.ref (ad 254), .int (p0), .int (p1), .int (p2)] M (cPost κ ad M ["java/lang/IndexOutOfBoundsException", "java/lang/IllegalArgumentException"] (oReading ⟨g, sn, kp, tx, ln⟩ dn n p0 p1 p2)) := by
  refine fM_of rfl (by decide +kernel) (Nat.le_of_ble_eq_true rfl) ?_
  obtain ⟨hX, hS, hI, hT, ch, hTX⟩ := id hC
  replace hS : LabsAt ad M g sn kp dn n := hS
  replace hI : BI g dn n := hI
  replace hT : TextAt κ ad M tx ln := hT
  replace hTX : TX tx ln ch := hTX
  obtain ⟨π, h0⟩ := hS.main
  have hs6 := hS.s6
  obtain ⟨fD, hfD, hvD⟩ := h0.drs
  obtain ⟨fS, hfS, hvS⟩ := h0.sps
  obtain ⟨fN, hfN, hvN⟩ := h0.nds
  obtain ⟨fG, hfG, hvG⟩ := h0.dgs
  obtain ⟨fT, hfT, hvT⟩ := h0.sts
  have hdn := h0.dl
  have hn := h0.nl
  show fR l κ mX8_reading 0 [(0, .ref (ad 254)), (1, .int (p0)), (2, .int (p1)), (3, .int (p2))] [] M 3 18 _
  refine r_iload_n dX8_reading_0 rfl ?_
  refine r_aload_n dX8_reading_1 rfl ?_
  refine r_get (k := 0) dX8_reading_2 hX rfl rfl (by decide) kX8_10F ?_
  refine r_get (k := 6) dX8_reading_5 h0.lab rfl rfl (by decide) kX8_59F ?_
  by_cases c1 : pNo p0 (n) = true
  · skip
    obtain ⟨k0, hk0, ek0⟩ := pNo_t c1 (by omega)
    subst ek0
    have ck0 : cN (nI k0) = k0 := nI_clamp (by omega)
    refine r_callS (As := [.int (nI (k0)), .int (nI (n))]) dX8_reading_8 (tX8_mindNumber_t (by omega) c1) rfl oX8_mindNumber rfl kX8_62M sX8_mindNumber (by unfold fRoom; decide) (Nat.le_of_ble_eq_true rfl) rfl (bc' := 2) (bs' := 12) rfl rfl ?_
    show fR _ _ _ 11 _ _ _ _ _ _
    refine r_iload_n dX8_reading_11 rfl ?_
    refine r_iconst (v := nI 0) dX8_reading_12 (by decide) ?_
    refine r_iconst (v := nI 3) dX8_reading_13 (by decide) ?_
    by_cases c2 : pIn p2 ((nI (0))) ((nI (3))) = true
    · skip
      obtain ⟨k2, hk2l, hk2, ek2⟩ := pIn_nat4 (by omega) (by omega) c2
      subst ek2
      have ck2 : cN (nI k2) = k2 := nI_clamp (by omega)
      refine r_callS (As := [.int (nI (k2)), .int (nI (0)), .int (nI (3))]) dX8_reading_14 (tX8_mindRange_t c2) rfl oX8_mindRange rfl kX8_30M sX8_mindRange (by unfold fRoom; decide) (Nat.le_of_ble_eq_true rfl) rfl (bc' := 1) (bs' := 6) rfl rfl ?_
      show fR _ _ _ 17 _ _ _ _ _ _
      refine r_iload_n dX8_reading_17 rfl ?_
      refine r_if_ge (tgt := 31) dX8_reading_18 (by decide) (fun c3 => ?_) (fun c3 => ?_)
      · skip
        obtain ⟨k1, hk1, ek1⟩ := nn_nat c3
        subst ek1
        have ck1 : cN (nI k1) = k1 := nI_clamp hk1
        refine r_aload_n dX8_reading_31 rfl ?_
        refine r_get (k := 0) dX8_reading_32 hX rfl rfl (by decide) kX8_10F ?_
        refine r_get (k := 1) dX8_reading_35 h0.lab rfl rfl (by decide) kX8_109F ?_
        refine r_iload_n dX8_reading_38 rfl ?_
        refine r_aldqN dX8_reading_39 hfS rfl (by omega) (by decide) (hvS _ (by omega)) ?_
        refine r_iload_n dX8_reading_40 rfl ?_
        refine r_iload_n dX8_reading_41 rfl ?_
        by_cases c4 : k1 < pMany g k0
        · skip
          refine r_callV (As := [.int (nI (k1)), .int (nI (k2))]) dX8_reading_42 (tX6_mark (k := k0) (h0.sp k0 hk0) (hI.spok hk0) c4 (by omega)) rfl (h0.sp _ (by omega)).1 rfl rfl oX6_mark rfl kX8_205M nX6_mark eX6_mark (by unfold fRoom; decide) (Nat.le_of_ble_eq_true rfl) rfl (bc' := 1) (bs' := 6) rfl rfl ?_
          show fR _ _ _ 45 _ (.int (pOf g k0 (6 + (k1 * 4 + k2))) :: _) _ _ _ _
          refine fR_iret dX8_reading_45 rfl (cPost_r hC ?_)
          rw [show 6 + (k1 * 4 + k2) = 6 + 4 * k1 + k2 by omega]
          unfold oReading; simp only [ck0, ck1, ck2]; (repeat (first | rw [if_pos (by first | assumption | exact Int32.not_le.mp (by assumption) | exact Int32.not_lt.mp (by assumption) | omega)] | rw [if_neg (by first | assumption | exact Int32.not_lt.mpr (by assumption) | exact Int32.not_le.mpr (by assumption) | exact bne_of (by assumption) | exact not_not_intro (by assumption) | omega)])); first | done | rfl
        · skip
          refine r_callV (As := [.int (nI (k1)), .int (nI (k2))]) dX8_reading_42 (tX6_mark_o (k := k0) (h0.sp k0 hk0) (hI.spok hk0) (Nat.le_of_not_lt c4) hk1) rfl (h0.sp _ (by omega)).1 rfl rfl oX6_mark rfl kX8_205M nX6_mark eX6_mark (by unfold fRoom; decide) (Nat.le_of_ble_eq_true rfl) rfl (bc' := 1) (bs' := 6) rfl rfl ?_
          show fR _ _ _ 45 _ (.int (-1) :: _) _ _ _ _
          refine fR_iret dX8_reading_45 rfl (cPost_r hC ?_)
          skip
          unfold oReading; simp only [ck0, ck1, ck2]; (repeat (first | rw [if_pos (by first | assumption | exact Int32.not_le.mp (by assumption) | exact Int32.not_lt.mp (by assumption) | omega)] | rw [if_neg (by first | assumption | exact Int32.not_lt.mpr (by assumption) | exact Int32.not_le.mpr (by assumption) | exact bne_of (by assumption) | exact not_not_intro (by assumption) | omega)])); first | done | rfl
      · skip
        have hlt := Int32.not_le.mp c3
        exact r_throw xT_150_154 dX8_reading_21 dX8_reading_24 dX8_reading_25 dX8_reading_27 dX8_reading_30 (List.mem_of_getElem? (i := 13) rfl) (by decide) (Nat.le_of_ble_eq_true rfl) (by decide) (by decide) rfl (cPost_x (t := 1) hC (by unfold oReading; simp only [ck0, ck2]; (repeat (first | rw [if_pos (by first | assumption | exact Int32.not_le.mp (by assumption) | exact Int32.not_lt.mp (by assumption) | omega)] | rw [if_neg (by first | assumption | exact Int32.not_lt.mpr (by assumption) | exact Int32.not_le.mpr (by assumption) | exact bne_of (by assumption) | exact not_not_intro (by assumption) | omega)])); first | done | rfl) rfl)
    · skip
      exact r_callSX (As := [.int (p2), .int (nI (0)), .int (nI (3))]) dX8_reading_14 (tX8_mindRange_f (bf_of c2)) rfl oX8_mindRange rfl kX8_30M sX8_mindRange (by unfold fRoom; decide) (Nat.le_of_ble_eq_true rfl) rfl (cPost_x (t := 1) hC (by unfold oReading; simp only [ck0]; rw [if_pos (by assumption)]; by_cases hp : p1 < 0; rw [if_pos hp]; rw [if_neg hp, if_neg (by assumption)]) rfl)
  · skip
    exact r_callSX (As := [.int (p0), .int (nI (n))]) dX8_reading_8 (tX8_mindNumber_f (by omega) (bf_of c1)) rfl oX8_mindNumber rfl kX8_62M sX8_mindNumber (by unfold fRoom; decide) (Nat.le_of_ble_eq_true rfl) rfl (cPost_x (t := 0) hC (by unfold oReading ; (repeat (first | rw [if_pos (by first | assumption | exact Int32.not_le.mp (by assumption) | exact Int32.not_lt.mp (by assumption) | omega)] | rw [if_neg (by first | assumption | exact Int32.not_lt.mpr (by assumption) | exact Int32.not_le.mpr (by assumption) | exact bne_of (by assumption) | exact not_not_intro (by assumption) | omega)])); first | done | rfl) rfl)
theorem lX8_secondsTo {l : Launch} {κ : KP} {M : Mem} {ad : Nat → Nat} {g tx : Nat → Int32} {dn n sn ln : Nat} {kp : Bool} (hA : aInj ad) (hC : ClsAt κ ad M ⟨g, sn, kp, tx, ln⟩ dn n) {k0 k1 k2 k3 : Nat} (hk0 : k0 < 3) (hk1 : k1 < n) (hk2 : k2 ≤ 200) (hk3 : k3 ≤ 400) : ∀ (N s : Nat), N + s = 61 → fR l κ mX8_secondsTo 37 [(5, .int (nI (s))), (0, .ref (ad 254)), (1, .int (nI (k0))), (2, .int (nI (k1))), (3, .int (nI (k2))), (4, .int (nI (k3)))] [] M 0 0 (isI (pSec g k0 k1 (nI k2) (nI k3) N s) M) := by
  obtain ⟨hX, hS, hI, hT, ch, hTX⟩ := id hC
  replace hS : LabsAt ad M g sn kp dn n := hS
  replace hI : BI g dn n := hI
  replace hT : TextAt κ ad M tx ln := hT
  replace hTX : TX tx ln ch := hTX
  obtain ⟨π, h0⟩ := hS.main
  have hs6 := hS.s6
  obtain ⟨fD, hfD, hvD⟩ := h0.drs
  obtain ⟨fS, hfS, hvS⟩ := h0.sps
  obtain ⟨fN, hfN, hvN⟩ := h0.nds
  obtain ⟨fG, hfG, hvG⟩ := h0.dgs
  obtain ⟨fT, hfT, hvT⟩ := h0.sts
  have hdn := h0.dl
  have hn := h0.nl
  intro N
  induction N with
  | zero =>
    intro s h1
    refine r_iload dX8_secondsTo_37 rfl ?_
    refine r_bipush (v := nI 60) dX8_secondsTo_39 (by decide) ?_
    refine r_icmp_gtN (tgt := 70) dX8_secondsTo_41 (by decide) (by omega) (by omega) (fun c1 => ?_) (fun c1 => ?_)
    · skip
      refine r_iconst (v := (-1)) dX8_secondsTo_70 (by decide) ?_
      exact fR_iret dX8_secondsTo_71 rfl (isI_of rfl)
    · skip
      exact absurd h1 (by omega)
  | succ N ih =>
    intro s h1
    refine r_iload dX8_secondsTo_37 rfl ?_
    refine r_bipush (v := nI 60) dX8_secondsTo_39 (by decide) ?_
    refine r_icmp_gtN (tgt := 70) dX8_secondsTo_41 (by decide) (by omega) (by omega) (fun c1 => ?_) (fun c1 => ?_)
    · skip
      exact absurd h1 (by omega)
    · skip
      refine r_aload_n dX8_secondsTo_44 rfl ?_
      refine r_get (k := 0) dX8_secondsTo_45 hX rfl rfl (by decide) kX8_10F ?_
      refine r_iload_n dX8_secondsTo_48 rfl ?_
      refine r_iload_n dX8_secondsTo_49 rfl ?_
      refine r_iload_n dX8_secondsTo_50 rfl ?_
      refine r_iload dX8_secondsTo_51 rfl ?_
      refine r_callV (As := [.int (nI (k0)), .int (nI (k1)), .int (nI (k2)), .int (nI (s))]) dX8_secondsTo_53 (tX2_depth h0 hI (by omega) (by omega) (by omega) (by omega)) rfl h0.lab rfl rfl oX2_depth rfl kX8_216M nX2_depth eX2_depth (by unfold fRoom; decide) (Nat.le_of_ble_eq_true rfl) rfl (bc' := 0) (bs' := 0) rfl rfl ?_
      show fR _ _ _ 56 _ (.int (pDep g k0 k1 (nI (k2)) (nI (s))) :: _) _ _ _ _
      refine r_iload dX8_secondsTo_56 rfl ?_
      refine r_icmp_lt (tgt := 64) dX8_secondsTo_58 (by decide) (fun c2 => ?_) (fun c2 => ?_)
      · skip
        refine r_iinc (v := (nI (s + 1))) (lv' := [(5, .int (nI (s + 1))), (0, .ref (ad 254)), (1, .int (nI (k0))), (2, .int (nI (k1))), (3, .int (nI (k2))), (4, .int (nI (k3)))]) dX8_secondsTo_64 rfl (nI_inc _) (by decide) rfl ?_
        refine r_goto (tgt := 37) dX8_secondsTo_67 (by decide) ?_
        refine r_lv (lv' := [(5, .int (nI (s + 1))), (0, .ref (ad 254)), (1, .int (nI (k0))), (2, .int (nI (k1))), (3, .int (nI (k2))), (4, .int (nI (k3)))]) (by simp) ?_
        rw [show pSec g k0 k1 (nI k2) (nI k3) (N + 1) s = pSec g k0 k1 (nI k2) (nI k3) N (s + 1) from if_neg (Int32.not_le.mpr (by assumption))]
        exact ih _ (by omega)
      · skip
        refine r_iload dX8_secondsTo_61 rfl ?_
        exact fR_iret dX8_secondsTo_63 rfl (isI_of (if_pos (Int32.not_lt.mp (by assumption))).symm)
theorem tX8_secondsTo {l : Launch} {κ : KP} {M : Mem} {ad : Nat → Nat} {g tx : Nat → Int32} {dn n sn ln : Nat} {kp : Bool} (hA : aInj ad) (hC : ClsAt κ ad M ⟨g, sn, kp, tx, ln⟩ dn n) {p0 : Int32} {p1 : Int32} {p2 : Int32} {p3 : Int32} : fM l κ mX8_secondsTo [.ref (ad 254), .int (p0), .int (p1), .int (p2), .int (p3)] M (cPost κ ad M ["java/lang/IndexOutOfBoundsException", "java/lang/IllegalArgumentException"] (oSecondsTo ⟨g, sn, kp, tx, ln⟩ dn n p0 p1 p2 p3)) := by
  refine fM_of rfl (by decide +kernel) (Nat.le_of_ble_eq_true rfl) ?_
  obtain ⟨hX, hS, hI, hT, ch, hTX⟩ := id hC
  replace hS : LabsAt ad M g sn kp dn n := hS
  replace hI : BI g dn n := hI
  replace hT : TextAt κ ad M tx ln := hT
  replace hTX : TX tx ln ch := hTX
  obtain ⟨π, h0⟩ := hS.main
  have hs6 := hS.s6
  obtain ⟨fD, hfD, hvD⟩ := h0.drs
  obtain ⟨fS, hfS, hvS⟩ := h0.sps
  obtain ⟨fN, hfN, hvN⟩ := h0.nds
  obtain ⟨fG, hfG, hvG⟩ := h0.dgs
  obtain ⟨fT, hfT, hvT⟩ := h0.sts
  have hdn := h0.dl
  have hn := h0.nl
  show fR l κ mX8_secondsTo 0 [(0, .ref (ad 254)), (1, .int (p0)), (2, .int (p1)), (3, .int (p2)), (4, .int (p3))] [] M 4 24 _
  refine r_iload_n dX8_secondsTo_0 rfl ?_
  refine r_iconst (v := nI 3) dX8_secondsTo_1 (by decide) ?_
  by_cases c1 : pNo p0 (3) = true
  · skip
    obtain ⟨k0, hk0, ek0⟩ := pNo_t c1 (by omega)
    subst ek0
    have ck0 : cN (nI k0) = k0 := nI_clamp (by omega)
    refine r_callS (As := [.int (nI (k0)), .int (nI (3))]) dX8_secondsTo_2 (tX8_mindNumber_t (by omega) c1) rfl oX8_mindNumber rfl kX8_62M sX8_mindNumber (by unfold fRoom; decide) (Nat.le_of_ble_eq_true rfl) rfl (bc' := 3) (bs' := 18) rfl rfl ?_
    show fR _ _ _ 5 _ _ _ _ _ _
    refine r_iload_n dX8_secondsTo_5 rfl ?_
    refine r_aload_n dX8_secondsTo_6 rfl ?_
    refine r_get (k := 0) dX8_secondsTo_7 hX rfl rfl (by decide) kX8_10F ?_
    refine r_get (k := 6) dX8_secondsTo_10 h0.lab rfl rfl (by decide) kX8_59F ?_
    by_cases c2 : pNo p1 (n) = true
    · skip
      obtain ⟨k1, hk1, ek1⟩ := pNo_t c2 (by omega)
      subst ek1
      have ck1 : cN (nI k1) = k1 := nI_clamp (by omega)
      refine r_callS (As := [.int (nI (k1)), .int (nI (n))]) dX8_secondsTo_13 (tX8_mindNumber_t (by omega) c2) rfl oX8_mindNumber rfl kX8_62M sX8_mindNumber (by unfold fRoom; decide) (Nat.le_of_ble_eq_true rfl) rfl (bc' := 2) (bs' := 12) rfl rfl ?_
      show fR _ _ _ 16 _ _ _ _ _ _
      refine r_iload_n dX8_secondsTo_16 rfl ?_
      refine r_bipush (v := nI 50) dX8_secondsTo_17 (by decide) ?_
      refine r_sipush (v := nI 200) dX8_secondsTo_19 (by decide) ?_
      by_cases c3 : pIn p2 ((nI (50))) ((nI (200))) = true
      · skip
        obtain ⟨k2, hk2l, hk2, ek2⟩ := pIn_nat4 (by omega) (by omega) c3
        subst ek2
        have ck2 : cN (nI k2) = k2 := nI_clamp (by omega)
        refine r_callS (As := [.int (nI (k2)), .int (nI (50)), .int (nI (200))]) dX8_secondsTo_22 (tX8_mindRange_t c3) rfl oX8_mindRange rfl kX8_30M sX8_mindRange (by unfold fRoom; decide) (Nat.le_of_ble_eq_true rfl) rfl (bc' := 1) (bs' := 6) rfl rfl ?_
        show fR _ _ _ 25 _ _ _ _ _ _
        refine r_iload dX8_secondsTo_25 rfl ?_
        refine r_iconst (v := nI 1) dX8_secondsTo_27 (by decide) ?_
        refine r_sipush (v := nI 400) dX8_secondsTo_28 (by decide) ?_
        by_cases c4 : pIn p3 ((nI (1))) ((nI (400))) = true
        · skip
          obtain ⟨k3, hk3l, hk3, ek3⟩ := pIn_nat4 (by omega) (by omega) c4
          subst ek3
          have ck3 : cN (nI k3) = k3 := nI_clamp (by omega)
          refine r_callS (As := [.int (nI (k3)), .int (nI (1)), .int (nI (400))]) dX8_secondsTo_31 (tX8_mindRange_t c4) rfl oX8_mindRange rfl kX8_30M sX8_mindRange (by unfold fRoom; decide) (Nat.le_of_ble_eq_true rfl) rfl (bc' := 0) (bs' := 0) rfl rfl ?_
          show fR _ _ _ 34 _ _ _ _ _ _
          refine r_iconst (v := nI 1) dX8_secondsTo_34 (by decide) ?_
          refine r_istore (lv' := [(5, .int (nI (1))), (0, .ref (ad 254)), (1, .int (nI (k0))), (2, .int (nI (k1))), (3, .int (nI (k2))), (4, .int (nI (k3)))]) dX8_secondsTo_35 (by decide) rfl ?_
          refine fR.mono (lX8_secondsTo hA hC hk0 hk1 hk2 hk3 60 1 rfl) (fun o M9 hq => ?_)
          obtain ⟨rfl, rfl⟩ := hq
          exact cPost_r hC (by unfold oSecondsTo ; simp only [ck0, ck1, ck2, ck3]; (repeat (first | rw [if_pos (by first | assumption | exact Int32.not_le.mp (by assumption) | exact Int32.not_lt.mp (by assumption) | omega)] | rw [if_neg (by first | assumption | exact Int32.not_lt.mpr (by assumption) | exact Int32.not_le.mpr (by assumption) | exact bne_of (by assumption) | exact not_not_intro (by assumption) | omega)])); first | done | rfl)
        · skip
          exact r_callSX (As := [.int (p3), .int (nI (1)), .int (nI (400))]) dX8_secondsTo_31 (tX8_mindRange_f (bf_of c4)) rfl oX8_mindRange rfl kX8_30M sX8_mindRange (by unfold fRoom; decide) (Nat.le_of_ble_eq_true rfl) rfl (cPost_x (t := 1) hC (by unfold oSecondsTo ; simp only [ck0, ck1, ck2]; (repeat (first | rw [if_pos (by first | assumption | exact Int32.not_le.mp (by assumption) | exact Int32.not_lt.mp (by assumption) | omega)] | rw [if_neg (by first | assumption | exact Int32.not_lt.mpr (by assumption) | exact Int32.not_le.mpr (by assumption) | exact bne_of (by assumption) | exact not_not_intro (by assumption) | omega)])); first | done | rfl) rfl)
      · skip
        exact r_callSX (As := [.int (p2), .int (nI (50)), .int (nI (200))]) dX8_secondsTo_22 (tX8_mindRange_f (bf_of c3)) rfl oX8_mindRange rfl kX8_30M sX8_mindRange (by unfold fRoom; decide) (Nat.le_of_ble_eq_true rfl) rfl (cPost_x (t := 1) hC (by unfold oSecondsTo ; simp only [ck0, ck1]; (repeat (first | rw [if_pos (by first | assumption | exact Int32.not_le.mp (by assumption) | exact Int32.not_lt.mp (by assumption) | omega)] | rw [if_neg (by first | assumption | exact Int32.not_lt.mpr (by assumption) | exact Int32.not_le.mpr (by assumption) | exact bne_of (by assumption) | exact not_not_intro (by assumption) | omega)])); first | done | rfl) rfl)
    · skip
      exact r_callSX (As := [.int (p1), .int (nI (n))]) dX8_secondsTo_13 (tX8_mindNumber_f (by omega) (bf_of c2)) rfl oX8_mindNumber rfl kX8_62M sX8_mindNumber (by unfold fRoom; decide) (Nat.le_of_ble_eq_true rfl) rfl (cPost_x (t := 0) hC (by unfold oSecondsTo ; simp only [ck0]; (repeat (first | rw [if_pos (by first | assumption | exact Int32.not_le.mp (by assumption) | exact Int32.not_lt.mp (by assumption) | omega)] | rw [if_neg (by first | assumption | exact Int32.not_lt.mpr (by assumption) | exact Int32.not_le.mpr (by assumption) | exact bne_of (by assumption) | exact not_not_intro (by assumption) | omega)])); first | done | rfl) rfl)
  · skip
    exact r_callSX (As := [.int (p0), .int (nI (3))]) dX8_secondsTo_2 (tX8_mindNumber_f (by omega) (bf_of c1)) rfl oX8_mindNumber rfl kX8_62M sX8_mindNumber (by unfold fRoom; decide) (Nat.le_of_ble_eq_true rfl) rfl (cPost_x (t := 0) hC (by unfold oSecondsTo ; (repeat (first | rw [if_pos (by first | assumption | exact Int32.not_le.mp (by assumption) | exact Int32.not_lt.mp (by assumption) | omega)] | rw [if_neg (by first | assumption | exact Int32.not_lt.mpr (by assumption) | exact Int32.not_le.mpr (by assumption) | exact bne_of (by assumption) | exact not_not_intro (by assumption) | omega)])); first | done | rfl) rfl)
