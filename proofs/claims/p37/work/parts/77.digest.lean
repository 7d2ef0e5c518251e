/-! THE DIGEST: the class's -/
theorem mxs_add {f : Nat → Int32} {a : Nat} {h : Int64} : ∀ b, mxs f (a + b) h = mxs (fun w => f (a + w)) b (mxs f a h)
  | 0 => rfl
  | b + 1 => by
    show mx (mxs f (a + b) h) (f (a + b)) = mx (mxs (fun w => f (a + w)) b (mxs f a h)) (f (a + b))
    rw [mxs_add b]
theorem tX8_readShare {l : Launch} {κ : KP} {M : Mem} {ad : Nat → Nat} {g tx : Nat → Int32} {dn n sn ln : Nat} {kp : Bool} (hA : aInj ad) (hC : ClsAt κ ad M ⟨g, sn, kp, tx, ln⟩ dn n) : fM l κ mX8_readShare [.ref (ad 254)] M (isR (some (.double (shD (pPend g n) n))) M) := by
  refine fM_of rfl (by decide +kernel) (Nat.le_of_ble_eq_true rfl) ?_
  obtain ⟨hX, hS, hI, hT, ch, hTX⟩ := id hC
  replace hS : LabsAt ad M g sn kp dn n := hS
  replace hI : BI g dn n := hI
  replace hT : TextAt κ ad M tx ln := hT
  replace hTX : TX tx ln ch := hTX
  obtain ⟨π, hL⟩ := hS.main
  have hs6 := hS.s6
  obtain ⟨fD, hfD, hvD⟩ := hL.drs
  obtain ⟨fS, hfS, hvS⟩ := hL.sps
  obtain ⟨fN, hfN, hvN⟩ := hL.nds
  obtain ⟨fG, hfG, hvG⟩ := hL.dgs
  obtain ⟨fT, hfT, hvT⟩ := hL.sts
  have hdn := hL.dl
  have hn := hL.nl
  show fR l κ mX8_readShare 0 [(0, .ref (ad 254))] [] M 0 0 _
  refine r_aload_n dX8_readShare_0 rfl ?_
  refine r_get (k := 0) dX8_readShare_1 hX rfl rfl (by decide) kX8_10F ?_
  refine r_get (k := 6) dX8_readShare_4 hL.lab rfl rfl (by decide) kX8_59F ?_
  refine r_if_gtN (tgt := 12) dX8_readShare_7 (by decide) (by omega) (fun c1 => ?_) (fun c1 => ?_)
  · skip
    have eS : shD (pPend g n) n = FP.ddiv (FP.i2d (nI (pPend g n))) (FP.i2d (nI n)) := if_neg (by omega)
    refine r_aload_n dX8_readShare_12 rfl ?_
    refine r_get (k := 0) dX8_readShare_13 hX rfl rfl (by decide) kX8_10F ?_
    refine r_callV (As := []) dX8_readShare_16 (tX2_pend hL hI) rfl hL.lab rfl rfl oX2_samplesWithPenetration rfl kX8_225M nX2_samplesWithPenetration eX2_samplesWithPenetration (by unfold fRoom; decide) (Nat.le_of_ble_eq_true rfl) rfl (bc' := 0) (bs' := 0) rfl rfl ?_
    show fR _ _ _ 19 _ (.int (nI (pPend g n)) :: _) _ _ _ _
    refine r_i2d dX8_readShare_19 ?_
    refine r_aload_n dX8_readShare_20 rfl ?_
    refine r_get (k := 0) dX8_readShare_21 hX rfl rfl (by decide) kX8_10F ?_
    refine r_get (k := 6) dX8_readShare_24 hL.lab rfl rfl (by decide) kX8_59F ?_
    refine r_i2d dX8_readShare_27 ?_
    refine r_ddiv dX8_readShare_28 (by rw [← eS]; exact n64_of (shOk_at pPend_le (by omega)).1) ?_
    rw [eS]
    exact fR_dret dX8_readShare_29 rfl isR_of
  · skip
    refine r_dconst1 dX8_readShare_10 ?_
    rw [show shD (pPend g n) n = FP.dconst1 from if_pos (by omega)]
    exact fR_dret dX8_readShare_11 rfl isR_of
