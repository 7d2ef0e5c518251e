/-! THE CLASS'S ORDERS AS CALLS SEE THEM -/
theorem cPost_x1 {κ : KP} {ad : Nat → Nat} {M M1 : Mem} {L : List String} {O : Oc} {z : Zs} {dn n t : Nat} {v : Int32} {e : String} (hC : ClsAt κ ad M1 z dn n ∧ OffC ad M M1) (h : O = (t + 1, v, z)) (hl : L[t]? = some e) : cPost κ ad M L O (.inr e) M1 := by
  subst h; exact ⟨⟨dn, n, hC.1⟩, hC.2, Or.inr ⟨Nat.succ_ne_zero t, e, hl, rfl⟩⟩
theorem OffP.c {ad : Nat → Nat} {M M1 : Mem} (h : OffP ad M M1) : OffC ad M M1 := fun b hb => h b (hb 250 (by omega)) (hb 251 (by omega))
theorem tX8_firstError {l : Launch} {κ : KP} {M : Mem} {ad : Nat → Nat} {g tx : Nat → Int32} {dn n sn ln : Nat} {kp : Bool} (hA : aInj ad) (hC : ClsAt κ ad M ⟨g, sn, kp, tx, ln⟩ dn n) : fM l κ mX8_firstError [.ref (ad 254)] M (cPost κ ad M [] (oFirstError ⟨g, sn, kp, tx, ln⟩ dn n)) := by
  refine fM_of rfl (by decide +kernel) (Nat.le_of_ble_eq_true rfl) ?_
  obtain ⟨hX, hS, hI, hT, ch, hTX⟩ := id hC
  replace hS : LabsAt ad M g sn kp dn n := hS
  replace hI : BI g dn n := hI
  replace hT : TextAt κ ad M tx ln := hT
  replace hTX : TX tx ln ch := hTX
  obtain ⟨π, h0⟩ := hS.main
  have hs6 := hS.s6
  obtain ⟨fD, hfD, hvD⟩ := h0.drs
  obtain ⟨fS, hfS, hvS⟩ := h0.sps
  obtain ⟨fN, hfN, hvN⟩ := h0.nds
  obtain ⟨fG, hfG, hvG⟩ := h0.dgs
  obtain ⟨fT, hfT, hvT⟩ := h0.sts
  have hdn := h0.dl
  have hn := h0.nl
  obtain ⟨pl, lt, sl, tk, jq, fc, fv, ht, hc, hcv, hp, hjq, hvv⟩ := id hT
  have hl60 := hTX.1
  have hTc := hTX.of
  have hdec := eP_all hTc 61 61 0 nu0 (by omega) (by omega) (by omega)
  show fR l κ mX8_firstError 0 [(0, .ref (ad 254))] [] M 0 0 _
  refine r_aload_n dX8_firstError_0 rfl ?_
  refine r_get (k := 2) dX8_firstError_1 hX rfl rfl (by decide) kX8_26F ?_
  refine r_callVP (As := []) dX8_firstError_4 (tX4_errorPlace hA hl60 (fun i hi => (hcv i hi).trans (hTc.2.1 i hi).1) hTc.2.2.2 hp hvv ⟨ht, hc⟩) rfl ht rfl rfl oX4_errorPlace rfl kX8_143M nX4_errorPlace eX4_errorPlace (by unfold fRoom; decide) (Nat.le_of_ble_eq_true rfl) rfl (bc' := 0) (bs' := 0) rfl rfl (fun E M9 h => by cases h.1) (fun v M1 hq => ?_)
  obtain ⟨hv1, hp1, hI1, ho1⟩ := hq
  cases hv1
  obtain ⟨y0, y2, y3, jy, fy, hjy, hpy, hfy⟩ := hp1.raw hI1
  show fR _ _ _ 7 _ (.int (nI ((eP (chOf tx ln) ln 61 0 clrS).1)) :: _) _ _ _ _
  exact fR_iret dX8_firstError_7 rfl (cPost_0 (by unfold oFirstError pAll; rw [← hdec.1]) (cls_text hC (fun i h1 h2 => ho1.at hA h1 (by omega) (by omega)) ⟨pl, y0, y2, y3, jy, fc, fy, (ho1.at hA (by omega) (by omega) (by omega)).trans ht, (ho1.at hA (by omega) (by omega) (by omega)).trans hc, hcv, hpy, hjy, hfy⟩ ⟨_, hTc⟩ ho1.c))
theorem tX8_obey {l : Launch} {κ : KP} {M : Mem} {ad : Nat → Nat} {g tx : Nat → Int32} {dn n sn ln : Nat} {kp : Bool} (hA : aInj ad) (hC : ClsAt κ ad M ⟨g, sn, kp, tx, ln⟩ dn n) : fM l κ mX8_obey [.ref (ad 254)] M (cPost κ ad M ["java/lang/IllegalArgumentException"] (oObey ⟨g, sn, kp, tx, ln⟩ dn n)) := by
  refine fM_of rfl (by decide +kernel) (Nat.le_of_ble_eq_true rfl) ?_
  obtain ⟨hX, hS, hI, hT, ch, hTX⟩ := id hC
  replace hS : LabsAt ad M g sn kp dn n := hS
  replace hI : BI g dn n := hI
  replace hT : TextAt κ ad M tx ln := hT
  replace hTX : TX tx ln ch := hTX
  obtain ⟨π, h0⟩ := hS.main
  have hs6 := hS.s6
  obtain ⟨fD, hfD, hvD⟩ := h0.drs
  obtain ⟨fS, hfS, hvS⟩ := h0.sps
  obtain ⟨fN, hfN, hvN⟩ := h0.nds
  obtain ⟨fG, hfG, hvG⟩ := h0.dgs
  obtain ⟨fT, hfT, hvT⟩ := h0.sts
  have hdn := h0.dl
  have hn := h0.nl
  obtain ⟨pl, lt, sl, tk, jq, fc, fv, ht, hc, hcv, hp, hjq, hvv⟩ := id hT
  have hl60 := hTX.1
  have hTc := hTX.of
  have hdec := eP_all hTc 61 61 0 nu0 (by omega) (by omega) (by omega)
  show fR l κ mX8_obey 0 [(0, .ref (ad 254))] [] M 1 6 _
  refine r_aload_n dX8_obey_0 rfl ?_
  refine r_get (k := 2) dX8_obey_1 hX rfl rfl (by decide) kX8_26F ?_
  refine r_callVP (As := []) dX8_obey_4 (tX4_isComplete hA hl60 (fun i hi => (hcv i hi).trans (hTc.2.1 i hi).1) hTc.2.2.2 hp hvv ⟨ht, hc⟩) rfl ht rfl rfl oX4_isComplete rfl kX8_146M nX4_isComplete eX4_isComplete (by unfold fRoom; decide) (Nat.le_of_ble_eq_true rfl) rfl (bc' := 1) (bs' := 6) rfl rfl (fun E M9 h => by cases h.1) (fun v M1 hq => ?_)
  obtain ⟨hv1, hT1, hp1, hI1, ho1⟩ := hq
  rw [hdec.2] at hv1
  cases hv1
  obtain ⟨y0, y2, y3, jy, fy, hjy, hpy, hfy⟩ := hp1.raw hI1
  have a1 : ∀ j, j < 256 → j ≠ 248 → j ≠ 250 → j ≠ 251 → M1 (ad j) = M (ad j) := fun j b0 b1 b2 b3 => ho1 _ (hA.ne b0 (by omega) b1) (hA.ne b0 (by omega) b2) (hA.ne b0 (by omega) b3)
  have hC1 := cls_text (M2 := M1) hC (fun i h1 h2 => a1 i h1 (by omega) (by omega) (by omega)) ⟨nI 0, y0, y2, y3, jy, fc, fy, hT1.1, hT1.2, hcv, hpy, hjy, hfy⟩ ⟨_, hTc⟩ (fun b hb => ho1 b (hb 248 (by omega)) (hb 250 (by omega)) (hb 251 (by omega)))
  have hX1 := (a1 254 (by omega) (by omega) (by omega) (by omega)).trans hX
  have hS1 := hS.frame (M2 := M1) (fun j b0 b1 => a1 j b0 (by omega) (by omega) (by omega))
  show fR _ _ _ 7 _ (.int (bI ((rAll (chOf tx ln) ln 61 nu0 0).1.1)) :: _) _ _ _ _
  refine r_if_neB (tgt := 20) dX8_obey_7 (by decide) (fun c1 => ?_) (fun c1 => ?_)
  · skip
    refine r_aload_n dX8_obey_20 rfl ?_
    refine r_get (k := 1) dX8_obey_21 hX1 rfl rfl (by decide) kX8_19F ?_
    refine r_aload_n dX8_obey_24 rfl ?_
    refine r_get (k := 0) dX8_obey_25 hX1 rfl rfl (by decide) kX8_10F ?_
    refine r_callVP (As := [.ref (ad 0)]) dX8_obey_28 (tX1_save hA hS1 hI) rfl hS1.hist rfl rfl oX1_save rfl kX8_42M nX1_save eX1_save (by unfold fRoom; decide) (Nat.le_of_ble_eq_true rfl) rfl (bc' := 1) (bs' := 6) rfl rfl (fun E M9 h => by cases h.1) (fun v M2 hq => ?_)
    obtain ⟨hv2, hS2, hO2⟩ := hq
    cases hv2
    have hI2 := hI.save sn
    have a2 : ∀ j, 248 ≤ j → j < 256 → j ≠ 252 → j ≠ 253 → M2 (ad j) = M1 (ad j) := fun j b0 b1 b2 b3 => hO2.at hA b0 b1 b2 b3
    show fR _ _ _ 31 _ _ _ _ _ _
    refine r_iconst (v := nI 0) dX8_obey_31 (by decide) ?_
    refine r_istore_n (lv' := [(1, .int (nI (0))), (0, .ref (ad 254))]) dX8_obey_32 (by decide) rfl ?_
    refine r_iconst (v := nI 0) dX8_obey_33 (by decide) ?_
    refine r_istore_n (lv' := [(2, .int (nI (0))), (1, .int (nI (0))), (0, .ref (ad 254))]) dX8_obey_34 (by decide) rfl ?_
    refine r_iconst (v := nI 0) dX8_obey_35 (by decide) ?_
    refine r_istore_n (lv' := [(3, .int (nI (0))), (2, .int (nI (0))), (1, .int (nI (0))), (0, .ref (ad 254))]) dX8_obey_36 (by decide) rfl ?_
    have hOb : ObAt κ ad M2 (pSave g sn) (pUp sn) kp dn n fc ln (nI 0) := ⟨(a2 254 (by omega) (by omega) (by omega) (by omega)).trans hX1, hS2, hI2, ⟨(a2 248 (by omega) (by omega) (by omega) (by omega)).trans hT1.1, (a2 249 (by omega) (by omega) (by omega) (by omega)).trans hT1.2⟩, y0, y2, y3, jy, fy, hjy, (a2 250 (by omega) (by omega) (by omega) (by omega)).trans hpy, (a2 251 (by omega) (by omega) (by omega) (by omega)).trans hfy⟩
    have hall := (by assumption : (rAll (chOf tx ln) ln 61 nu0 0).1.1 = true)
    refine fR.mono (lX8_obey (tx := tx) hA hTc (fun i hi => (hcv i hi).trans (hTc.2.1 i hi).1) 61 (pSave g sn) n 0 0 0 0 M2 (by omega) (by omega) (by omega) (Or.inl rfl) (by omega) (fun _ => ⟨61, nu0, hall⟩) hOb) (fun o M' h => ?_)
    obtain ⟨h1, ⟨dn', n', h2⟩, h3⟩ := h
    subst h1
    have eO : pObey ⟨g, sn, kp, tx, ln⟩ dn n = _ := pOb_cOb 61 (pSave g sn) n 0 0 hI2
    refine cPost_0 ?_ ⟨h2, (hC1.2.trans (OffC.s hO2)).trans h3⟩
    unfold oObey
    rw [if_pos (show (pAll tx ln).1 = true from hall), eO]
  · skip
    exact r_throw xT_150_154 dX8_obey_10 dX8_obey_13 dX8_obey_14 dX8_obey_16 dX8_obey_19 (List.mem_of_getElem? (i := 10) rfl) (by decide) (Nat.le_of_ble_eq_true rfl) (by decide) (by decide) rfl (cPost_x1 (t := 0) hC1 (by unfold oObey; rw [if_neg (show ¬ (pAll tx ln).1 = true from bne_of (by assumption))]) rfl)
