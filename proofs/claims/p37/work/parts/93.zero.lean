/-! LOOKS THAT DON'T THROW MAKE NOTHING NEW -/
section R93
variable {l : Launch} {κ : KP} {μ : MD} {pc : Nat} {lv : List (Nat × Value)} {st : List Value} {M : Mem} {bc bs : Nat} {P : FPost}
theorem r_ishr {x y : Int32} (d : decode (mB μ) pc = .ok (.ishr, 1)) (kk : fR l κ μ (pc + 1) lv (.int (x >>> (y &&& 31)) :: st) M bc bs P) : fR l κ μ pc lv (.int y :: .int x :: st) M bc bs P := by
  intro p e s m args below meth c C H locs cells slots ls hW hS hl hc hs
  exact lv_ishr C.2.1 C.2.2.1 d (kk p e s m args below meth c C H locs cells slots ls hW hS hl hc hs)
theorem r_iremN {a b : Nat} (d : decode (mB μ) pc = .ok (.irem, 1)) (ha : a < 2 ^ 31) (h0 : 0 < b) (hb : b < 2 ^ 31) (kk : fR l κ μ (pc + 1) lv (.int (nI (a % b)) :: st) M bc bs P) : fR l κ μ pc lv (.int (nI b) :: .int (nI a) :: st) M bc bs P := r_irem d (nI_ne0 h0 hb) (by rw [pk_rem ha h0 hb]; exact kk)
end R93
theorem pIn_nI {a k b : Nat} (h1 : a ≤ k) (h2 : k ≤ b) (hb : b < 2 ^ 31) : pIn (nI k) (nI a) (nI b) = true := by
  unfold pIn
  rw [Bool.and_eq_true, decide_eq_true_eq, decide_eq_true_eq]
  exact ⟨nI_le h1 (by omega), nI_le h2 hb⟩
theorem pNo_nI {k n : Nat} (h : k < n) (hn : n < 2 ^ 31) : pNo (nI k) n = true := by
  unfold pNo
  rw [pk_sub (by omega)]
  exact pIn_nI (Nat.zero_le k) (by omega) (by omega)
def mX8_mindNumberZ : MD := (yX8_mindNumber, cX8_mindNumber, 2, (none : Option FieldType), { frames := 1, cells := 0, slots := 0, locals := 64 }, [])
theorem oX8_mindNumberZ : fOK mX8_mindNumberZ 2 := oX8_mindNumber
theorem sX8_mindNumberZ : Cond.static (mY mX8_mindNumberZ) ∈ lw_tbl := sX8_mindNumber
def mX8_mindRangeZ : MD := (yX8_mindRange, cX8_mindRange, 3, (none : Option FieldType), { frames := 1, cells := 0, slots := 0, locals := 64 }, [])
theorem oX8_mindRangeZ : fOK mX8_mindRangeZ 3 := oX8_mindRange
theorem sX8_mindRangeZ : Cond.static (mY mX8_mindRangeZ) ∈ lw_tbl := sX8_mindRange
def mX8_drumOfZ : MD := (yX8_drumOf, cX8_drumOf, 3, (some FieldType.int), { frames := 6, cells := 0, slots := 0, locals := 177 }, [])
theorem oX8_drumOfZ : fOK mX8_drumOfZ 2 := oX8_drumOf
theorem nX8_drumOfZ : Cond.instanceMethod (mY mX8_drumOfZ) ∈ lw_tbl := nX8_drumOf
theorem eX8_drumOfZ : Cond.selects (mY mX8_drumOfZ).cls (mY mX8_drumOfZ) (mY mX8_drumOfZ) ∈ lw_tbl := eX8_drumOf
def mX8_sampleOfZ : MD := (yX8_sampleOf, cX8_sampleOf, 3, (some FieldType.int), { frames := 4, cells := 0, slots := 0, locals := 134 }, [])
theorem oX8_sampleOfZ : fOK mX8_sampleOfZ 2 := oX8_sampleOf
theorem nX8_sampleOfZ : Cond.instanceMethod (mY mX8_sampleOfZ) ∈ lw_tbl := nX8_sampleOf
theorem eX8_sampleOfZ : Cond.selects (mY mX8_sampleOfZ).cls (mY mX8_sampleOfZ) (mY mX8_sampleOfZ) ∈ lw_tbl := eX8_sampleOf
def mX8_readingZ : MD := (yX8_reading, cX8_reading, 4, (some FieldType.int), { frames := 2, cells := 0, slots := 0, locals := 86 }, [])
theorem oX8_readingZ : fOK mX8_readingZ 3 := oX8_reading
theorem nX8_readingZ : Cond.instanceMethod (mY mX8_readingZ) ∈ lw_tbl := nX8_reading
theorem eX8_readingZ : Cond.selects (mY mX8_readingZ).cls (mY mX8_readingZ) (mY mX8_readingZ) ∈ lw_tbl := eX8_reading
def mX8_needleZ : MD := (yX8_needle, cX8_needle, 3, (some FieldType.int), { frames := 2, cells := 0, slots := 0, locals := 86 }, [])
theorem oX8_needleZ : fOK mX8_needleZ 2 := oX8_needle
theorem nX8_needleZ : Cond.instanceMethod (mY mX8_needleZ) ∈ lw_tbl := nX8_needle
theorem eX8_needleZ : Cond.selects (mY mX8_needleZ).cls (mY mX8_needleZ) (mY mX8_needleZ) ∈ lw_tbl := eX8_needle
def mX8_bathOfZ : MD := (yX8_bathOf, cX8_bathOf, 3, (some FieldType.int), { frames := 4, cells := 0, slots := 0, locals := 130 }, [])
theorem oX8_bathOfZ : fOK mX8_bathOfZ 2 := oX8_bathOf
theorem nX8_bathOfZ : Cond.instanceMethod (mY mX8_bathOfZ) ∈ lw_tbl := nX8_bathOf
theorem eX8_bathOfZ : Cond.selects (mY mX8_bathOfZ).cls (mY mX8_bathOfZ) (mY mX8_bathOfZ) ∈ lw_tbl := eX8_bathOf
def mX8_countZ : MD := (yX8_count, cX8_count, 2, (some FieldType.int), { frames := 4, cells := 0, slots := 0, locals := 132 }, [])
theorem oX8_countZ : fOK mX8_countZ 1 := oX8_count
theorem nX8_countZ : Cond.instanceMethod (mY mX8_countZ) ∈ lw_tbl := nX8_count
theorem eX8_countZ : Cond.selects (mY mX8_countZ).cls (mY mX8_countZ) (mY mX8_countZ) ∈ lw_tbl := eX8_count
def mX8_stoppedZ : MD := (yX8_stopped, cX8_stopped, 2, (some FieldType.int), { frames := 2, cells := 0, slots := 0, locals := 86 }, [])
theorem oX8_stoppedZ : fOK mX8_stoppedZ 1 := oX8_stopped
theorem nX8_stoppedZ : Cond.instanceMethod (mY mX8_stoppedZ) ∈ lw_tbl := nX8_stopped
theorem eX8_stoppedZ : Cond.selects (mY mX8_stoppedZ).cls (mY mX8_stoppedZ) (mY mX8_stoppedZ) ∈ lw_tbl := eX8_stopped
def mX8_noSinkZ : MD := (yX8_noSink, cX8_noSink, 3, (some FieldType.int), { frames := 3, cells := 0, slots := 0, locals := 108 }, [])
theorem oX8_noSinkZ : fOK mX8_noSinkZ 2 := oX8_noSink
theorem nX8_noSinkZ : Cond.instanceMethod (mY mX8_noSinkZ) ∈ lw_tbl := nX8_noSink
theorem eX8_noSinkZ : Cond.selects (mY mX8_noSinkZ).cls (mY mX8_noSinkZ) (mY mX8_noSinkZ) ∈ lw_tbl := eX8_noSink
def mX8_noSaleZ : MD := (yX8_noSale, cX8_noSale, 2, (some FieldType.int), { frames := 5, cells := 0, slots := 0, locals := 161 }, [])
theorem oX8_noSaleZ : fOK mX8_noSaleZ 1 := oX8_noSale
theorem nX8_noSaleZ : Cond.instanceMethod (mY mX8_noSaleZ) ∈ lw_tbl := nX8_noSale
theorem eX8_noSaleZ : Cond.selects (mY mX8_noSaleZ).cls (mY mX8_noSaleZ) (mY mX8_noSaleZ) ∈ lw_tbl := eX8_noSale
def mX8_ifSunkZ : MD := (yX8_ifSunk, cX8_ifSunk, 5, (some FieldType.int), { frames := 5, cells := 0, slots := 0, locals := 157 }, [])
theorem oX8_ifSunkZ : fOK mX8_ifSunkZ 4 := oX8_ifSunk
theorem nX8_ifSunkZ : Cond.instanceMethod (mY mX8_ifSunkZ) ∈ lw_tbl := nX8_ifSunk
theorem eX8_ifSunkZ : Cond.selects (mY mX8_ifSunkZ).cls (mY mX8_ifSunkZ) (mY mX8_ifSunkZ) ∈ lw_tbl := eX8_ifSunk
def mX8_secondsToZ : MD := (yX8_secondsTo, cX8_secondsTo, 6, (some FieldType.int), { frames := 5, cells := 0, slots := 0, locals := 157 }, [])
theorem oX8_secondsToZ : fOK mX8_secondsToZ 4 := oX8_secondsTo
theorem nX8_secondsToZ : Cond.instanceMethod (mY mX8_secondsToZ) ∈ lw_tbl := nX8_secondsTo
theorem eX8_secondsToZ : Cond.selects (mY mX8_secondsToZ).cls (mY mX8_secondsToZ) (mY mX8_secondsToZ) ∈ lw_tbl := eX8_secondsTo
def mX8_readyInZ : MD := (yX8_readyIn, cX8_readyIn, 2, (some FieldType.int), { frames := 5, cells := 0, slots := 0, locals := 155 }, [])
theorem oX8_readyInZ : fOK mX8_readyInZ 1 := oX8_readyIn
theorem nX8_readyInZ : Cond.instanceMethod (mY mX8_readyInZ) ∈ lw_tbl := nX8_readyIn
theorem eX8_readyInZ : Cond.selects (mY mX8_readyInZ).cls (mY mX8_readyInZ) (mY mX8_readyInZ) ∈ lw_tbl := eX8_readyIn
def mX8_bestBathZ : MD := (yX8_bestBath, cX8_bestBath, 2, (some FieldType.int), { frames := 5, cells := 0, slots := 0, locals := 158 }, [])
theorem oX8_bestBathZ : fOK mX8_bestBathZ 1 := oX8_bestBath
theorem nX8_bestBathZ : Cond.instanceMethod (mY mX8_bestBathZ) ∈ lw_tbl := nX8_bestBath
theorem eX8_bestBathZ : Cond.selects (mY mX8_bestBathZ).cls (mY mX8_bestBathZ) (mY mX8_bestBathZ) ∈ lw_tbl := eX8_bestBath
theorem tZ_mindNumber {l : Launch} {κ : KP} {M : Mem} {k n : Nat} (hk : k < n) (hn : n < 2 ^ 30) : fM l κ mX8_mindNumberZ [.int (nI (k)), .int (nI (n))] M (isR none M) := by
  refine fM_of rfl (by decide +kernel) (Nat.le_of_ble_eq_true rfl) ?_
  show fR l κ mX8_mindNumberZ 0 [(0, .int (nI (k))), (1, .int (nI (n)))] [] M 0 0 _
  refine r_iload_n dX8_mindNumber_0 rfl ?_
  refine r_if_ltN (tgt := 9) dX8_mindNumber_1 (by decide) (by omega) (fun c1 => ?_) (fun c1 => ?_)
  · exact absurd c1 (by omega)
  · skip
    refine r_iload_n dX8_mindNumber_4 rfl ?_
    refine r_iload_n dX8_mindNumber_5 rfl ?_
    refine r_icmp_ltN (tgt := 20) dX8_mindNumber_6 (by decide) (by omega) (by omega) (fun c2 => ?_) (fun c2 => ?_)
    · skip
      exact fR_vret dX8_mindNumber_20 rfl isR_of
    · exact absurd c2 (by omega)
theorem tZ_mindRange {l : Launch} {κ : KP} {M : Mem} {k a b : Nat} (h1 : a ≤ k) (h2 : k ≤ b) (hb : b < 2 ^ 30) : fM l κ mX8_mindRangeZ [.int (nI (k)), .int (nI (a)), .int (nI (b))] M (isR none M) := by
  refine fM_of rfl (by decide +kernel) (Nat.le_of_ble_eq_true rfl) ?_
  show fR l κ mX8_mindRangeZ 0 [(0, .int (nI (k))), (1, .int (nI (a))), (2, .int (nI (b)))] [] M 0 0 _
  refine r_iload_n dX8_mindRange_0 rfl ?_
  refine r_iload_n dX8_mindRange_1 rfl ?_
  refine r_icmp_ltN (tgt := 10) dX8_mindRange_2 (by decide) (by omega) (by omega) (fun c1 => ?_) (fun c1 => ?_)
  · exact absurd c1 (by omega)
  · skip
    refine r_iload_n dX8_mindRange_5 rfl ?_
    refine r_iload_n dX8_mindRange_6 rfl ?_
    refine r_icmp_leN (tgt := 21) dX8_mindRange_7 (by decide) (by omega) (by omega) (fun c2 => ?_) (fun c2 => ?_)
    · skip
      exact fR_vret dX8_mindRange_21 rfl isR_of
    · exact absurd c2 (by omega)
theorem tZ_drumOf {l : Launch} {κ : KP} {M : Mem} {ad : Nat → Nat} {g tx : Nat → Int32} {dn n sn ln : Nat} {kp : Bool} (hA : aInj ad) (hC : ClsAt κ ad M ⟨g, sn, kp, tx, ln⟩ dn n) {d w : Nat} (hd : d < dn) (hw : w < 9) : fM l κ mX8_drumOfZ [.ref (ad 254), .int (nI (d)), .int (nI (w))] M (isI (pOfDrum g n d w) M) := by
  refine fM_of rfl (by decide +kernel) (Nat.le_of_ble_eq_true rfl) ?_
  obtain ⟨hX, hS, hI, hT, ch, hTX⟩ := id hC
  replace hS : LabsAt ad M g sn kp dn n := hS
  replace hI : BI g dn n := hI
  replace hT : TextAt κ ad M tx ln := hT
  replace hTX : TX tx ln ch := hTX
  obtain ⟨π, h0⟩ := hS.main
  have hs6 := hS.s6
  obtain ⟨fD, hfD, hvD⟩ := h0.drs
  obtain ⟨fS, hfS, hvS⟩ := h0.sps
  obtain ⟨fN, hfN, hvN⟩ := h0.nds
  obtain ⟨fG, hfG, hvG⟩ := h0.dgs
  obtain ⟨fT, hfT, hvT⟩ := h0.sts
  have hdn := h0.dl
  have hn := h0.nl
  show fR l κ mX8_drumOfZ 0 [(0, .ref (ad 254)), (1, .int (nI (d))), (2, .int (nI (w)))] [] M 0 0 _
  refine r_iload_n dX8_drumOf_0 rfl ?_
  refine r_aload_n dX8_drumOf_1 rfl ?_
  refine r_get (k := 0) dX8_drumOf_2 hX rfl rfl (by decide) kX8_10F ?_
  refine r_get (k := 5) dX8_drumOf_5 h0.lab rfl rfl (by decide) kX8_34F ?_
  refine r_callS (As := [.int (nI (d)), .int (nI (dn))]) dX8_drumOf_8 (tZ_mindNumber (by omega) (by omega)) rfl oX8_mindNumberZ rfl kX8_62M sX8_mindNumberZ (by unfold fRoom; decide) (Nat.le_of_ble_eq_true rfl) rfl (bc' := 0) (bs' := 0) rfl rfl ?_
  show fR _ _ _ 11 _ _ _ _ _ _
  refine r_iload_n dX8_drumOf_11 rfl ?_
  refine r_iconst (v := nI 0) dX8_drumOf_12 (by decide) ?_
  refine r_bipush (v := nI 8) dX8_drumOf_13 (by decide) ?_
  refine r_callS (As := [.int (nI (w)), .int (nI (0)), .int (nI (8))]) dX8_drumOf_15 (tZ_mindRange (by omega) (by omega) (by omega)) rfl oX8_mindRangeZ rfl kX8_30M sX8_mindRangeZ (by unfold fRoom; decide) (Nat.le_of_ble_eq_true rfl) rfl (bc' := 0) (bs' := 0) rfl rfl ?_
  show fR _ _ _ 18 _ _ _ _ _ _
  refine r_aload_n dX8_drumOf_18 rfl ?_
  refine r_get (k := 0) dX8_drumOf_19 hX rfl rfl (by decide) kX8_10F ?_
  refine r_iload_n dX8_drumOf_22 rfl ?_
  refine r_iload_n dX8_drumOf_23 rfl ?_
  refine r_callS (As := [.ref (ad 0), .int (nI (d)), .int (nI (w))]) dX8_drumOf_24 (tX7_number h0 hI (by omega) (by omega)) rfl oX7_number rfl kX8_197M sX7_number (by unfold fRoom; decide) (Nat.le_of_ble_eq_true rfl) rfl (bc' := 0) (bs' := 0) rfl rfl ?_
  show fR _ _ _ 27 _ (.int (pOfDrum g n d w) :: _) _ _ _ _
  exact fR_iret dX8_drumOf_27 rfl (isI_of rfl)
theorem tZ_sampleOf {l : Launch} {κ : KP} {M : Mem} {ad : Nat → Nat} {g tx : Nat → Int32} {dn n sn ln : Nat} {kp : Bool} (hA : aInj ad) (hC : ClsAt κ ad M ⟨g, sn, kp, tx, ln⟩ dn n) {k w : Nat} (hk : k < n) (hw : w < 9) : fM l κ mX8_sampleOfZ [.ref (ad 254), .int (nI (k)), .int (nI (w))] M (isI (pOfSample g k w) M) := by
  refine fM_of rfl (by decide +kernel) (Nat.le_of_ble_eq_true rfl) ?_
  obtain ⟨hX, hS, hI, hT, ch, hTX⟩ := id hC
  replace hS : LabsAt ad M g sn kp dn n := hS
  replace hI : BI g dn n := hI
  replace hT : TextAt κ ad M tx ln := hT
  replace hTX : TX tx ln ch := hTX
  obtain ⟨π, h0⟩ := hS.main
  have hs6 := hS.s6
  obtain ⟨fD, hfD, hvD⟩ := h0.drs
  obtain ⟨fS, hfS, hvS⟩ := h0.sps
  obtain ⟨fN, hfN, hvN⟩ := h0.nds
  obtain ⟨fG, hfG, hvG⟩ := h0.dgs
  obtain ⟨fT, hfT, hvT⟩ := h0.sts
  have hdn := h0.dl
  have hn := h0.nl
  show fR l κ mX8_sampleOfZ 0 [(0, .ref (ad 254)), (1, .int (nI (k))), (2, .int (nI (w)))] [] M 0 0 _
  refine r_iload_n dX8_sampleOf_0 rfl ?_
  refine r_aload_n dX8_sampleOf_1 rfl ?_
  refine r_get (k := 0) dX8_sampleOf_2 hX rfl rfl (by decide) kX8_10F ?_
  refine r_get (k := 6) dX8_sampleOf_5 h0.lab rfl rfl (by decide) kX8_59F ?_
  refine r_callS (As := [.int (nI (k)), .int (nI (n))]) dX8_sampleOf_8 (tZ_mindNumber (by omega) (by omega)) rfl oX8_mindNumberZ rfl kX8_62M sX8_mindNumberZ (by unfold fRoom; decide) (Nat.le_of_ble_eq_true rfl) rfl (bc' := 0) (bs' := 0) rfl rfl ?_
  show fR _ _ _ 11 _ _ _ _ _ _
  refine r_iload_n dX8_sampleOf_11 rfl ?_
  refine r_iconst (v := nI 0) dX8_sampleOf_12 (by decide) ?_
  refine r_bipush (v := nI 8) dX8_sampleOf_13 (by decide) ?_
  refine r_callS (As := [.int (nI (w)), .int (nI (0)), .int (nI (8))]) dX8_sampleOf_15 (tZ_mindRange (by omega) (by omega) (by omega)) rfl oX8_mindRangeZ rfl kX8_30M sX8_mindRangeZ (by unfold fRoom; decide) (Nat.le_of_ble_eq_true rfl) rfl (bc' := 0) (bs' := 0) rfl rfl ?_
  show fR _ _ _ 18 _ _ _ _ _ _
  refine r_aload_n dX8_sampleOf_18 rfl ?_
  refine r_get (k := 0) dX8_sampleOf_19 hX rfl rfl (by decide) kX8_10F ?_
  refine r_get (k := 1) dX8_sampleOf_22 h0.lab rfl rfl (by decide) kX8_109F ?_
  refine r_iload_n dX8_sampleOf_25 rfl ?_
  refine r_aldqN dX8_sampleOf_26 hfS rfl (by omega) (by decide) (hvS _ (by omega)) ?_
  refine r_iload_n dX8_sampleOf_27 rfl ?_
  refine r_aload_n dX8_sampleOf_28 rfl ?_
  refine r_get (k := 0) dX8_sampleOf_29 hX rfl rfl (by decide) kX8_10F ?_
  refine r_get (k := 4) dX8_sampleOf_32 h0.lab rfl rfl (by decide) kX8_130F ?_
  refine r_iconst (v := nI 1) dX8_sampleOf_35 (by decide) ?_
  refine r_ialdN dX8_sampleOf_36 hfT (by omega) (by decide) (hvT _ (by omega)) ?_
  refine r_callV (As := [.int (nI (w)), .int (g (5 + (1)))]) dX8_sampleOf_37 (tX6_number (h0.sp _ (by omega)) (hI.spok (by omega)) rfl (by omega)) rfl (h0.sp _ (by omega)).1 rfl rfl oX6_number rfl kX8_201M nX6_number eX6_number (by unfold fRoom; decide) (Nat.le_of_ble_eq_true rfl) rfl (bc' := 0) (bs' := 0) rfl rfl ?_
  show fR _ _ _ 40 _ (.int (pOfSample g k w) :: _) _ _ _ _
  exact fR_iret dX8_sampleOf_40 rfl (isI_of rfl)
theorem tZ_needle {l : Launch} {κ : KP} {M : Mem} {ad : Nat → Nat} {g tx : Nat → Int32} {dn n sn ln : Nat} {kp : Bool} (hA : aInj ad) (hC : ClsAt κ ad M ⟨g, sn, kp, tx, ln⟩ dn n) {k w : Nat} (hk : k < 3) (hw : w < 3) : fM l κ mX8_needleZ [.ref (ad 254), .int (nI (k)), .int (nI (w))] M (isI (g (31 + 3 * k + w)) M) := by
  refine fM_of rfl (by decide +kernel) (Nat.le_of_ble_eq_true rfl) ?_
  obtain ⟨hX, hS, hI, hT, ch, hTX⟩ := id hC
  replace hS : LabsAt ad M g sn kp dn n := hS
  replace hI : BI g dn n := hI
  replace hT : TextAt κ ad M tx ln := hT
  replace hTX : TX tx ln ch := hTX
  obtain ⟨π, h0⟩ := hS.main
  have hs6 := hS.s6
  obtain ⟨fD, hfD, hvD⟩ := h0.drs
  obtain ⟨fS, hfS, hvS⟩ := h0.sps
  obtain ⟨fN, hfN, hvN⟩ := h0.nds
  obtain ⟨fG, hfG, hvG⟩ := h0.dgs
  obtain ⟨fT, hfT, hvT⟩ := h0.sts
  have hdn := h0.dl
  have hn := h0.nl
  show fR l κ mX8_needleZ 0 [(0, .ref (ad 254)), (1, .int (nI (k))), (2, .int (nI (w)))] [] M 0 0 _
  refine r_iload_n dX8_needle_0 rfl ?_
  refine r_iconst (v := nI 3) dX8_needle_1 (by decide) ?_
  refine r_callS (As := [.int (nI (k)), .int (nI (3))]) dX8_needle_2 (tZ_mindNumber (by omega) (by omega)) rfl oX8_mindNumberZ rfl kX8_62M sX8_mindNumberZ (by unfold fRoom; decide) (Nat.le_of_ble_eq_true rfl) rfl (bc' := 0) (bs' := 0) rfl rfl ?_
  show fR _ _ _ 5 _ _ _ _ _ _
  refine r_iload_n dX8_needle_5 rfl ?_
  refine r_iconst (v := nI 0) dX8_needle_6 (by decide) ?_
  refine r_iconst (v := nI 2) dX8_needle_7 (by decide) ?_
  refine r_callS (As := [.int (nI (w)), .int (nI (0)), .int (nI (2))]) dX8_needle_8 (tZ_mindRange (by omega) (by omega) (by omega)) rfl oX8_mindRangeZ rfl kX8_30M sX8_mindRangeZ (by unfold fRoom; decide) (Nat.le_of_ble_eq_true rfl) rfl (bc' := 0) (bs' := 0) rfl rfl ?_
  show fR _ _ _ 11 _ _ _ _ _ _
  refine r_aload_n dX8_needle_11 rfl ?_
  refine r_get (k := 0) dX8_needle_12 hX rfl rfl (by decide) kX8_10F ?_
  refine r_get (k := 2) dX8_needle_15 h0.lab rfl rfl (by decide) kX8_97F ?_
  refine r_iload_n dX8_needle_18 rfl ?_
  refine r_aldqN dX8_needle_19 hfN rfl (by omega) (by decide) (hvN _ (by omega)) ?_
  refine r_iload_n dX8_needle_20 rfl ?_
  refine r_callV (As := [.int (nI (w))]) dX8_needle_21 (tX3_numberA h0 hI (by omega) (by omega)) rfl (h0.nd _ (by omega)) rfl rfl oX3_number rfl kX8_208M nX3_number eX3_number (by unfold fRoom; decide) (Nat.le_of_ble_eq_true rfl) rfl (bc' := 0) (bs' := 0) rfl rfl ?_
  show fR _ _ _ 24 _ (.int (g (31 + 3 * k + w)) :: _) _ _ _ _
  exact fR_iret dX8_needle_24 rfl (isI_of rfl)
theorem tZ_bathOf {l : Launch} {κ : KP} {M : Mem} {ad : Nat → Nat} {g tx : Nat → Int32} {dn n sn ln : Nat} {kp : Bool} (hA : aInj ad) (hC : ClsAt κ ad M ⟨g, sn, kp, tx, ln⟩ dn n) {b w : Nat} (hb : b < 3) (hw : w < 3) : fM l κ mX8_bathOfZ [.ref (ad 254), .int (nI (b)), .int (nI (w))] M (isI (pOfBath g n b w) M) := by
  refine fM_of rfl (by decide +kernel) (Nat.le_of_ble_eq_true rfl) ?_
  obtain ⟨hX, hS, hI, hT, ch, hTX⟩ := id hC
  replace hS : LabsAt ad M g sn kp dn n := hS
  replace hI : BI g dn n := hI
  replace hT : TextAt κ ad M tx ln := hT
  replace hTX : TX tx ln ch := hTX
  obtain ⟨π, h0⟩ := hS.main
  have hs6 := hS.s6
  obtain ⟨fD, hfD, hvD⟩ := h0.drs
  obtain ⟨fS, hfS, hvS⟩ := h0.sps
  obtain ⟨fN, hfN, hvN⟩ := h0.nds
  obtain ⟨fG, hfG, hvG⟩ := h0.dgs
  obtain ⟨fT, hfT, hvT⟩ := h0.sts
  have hdn := h0.dl
  have hn := h0.nl
  show fR l κ mX8_bathOfZ 0 [(0, .ref (ad 254)), (1, .int (nI (b))), (2, .int (nI (w)))] [] M 0 0 _
  refine r_iload_n dX8_bathOf_0 rfl ?_
  refine r_iconst (v := nI 3) dX8_bathOf_1 (by decide) ?_
  refine r_callS (As := [.int (nI (b)), .int (nI (3))]) dX8_bathOf_2 (tZ_mindNumber (by omega) (by omega)) rfl oX8_mindNumberZ rfl kX8_62M sX8_mindNumberZ (by unfold fRoom; decide) (Nat.le_of_ble_eq_true rfl) rfl (bc' := 0) (bs' := 0) rfl rfl ?_
  show fR _ _ _ 5 _ _ _ _ _ _
  refine r_iload_n dX8_bathOf_5 rfl ?_
  refine r_iconst (v := nI 0) dX8_bathOf_6 (by decide) ?_
  refine r_iconst (v := nI 2) dX8_bathOf_7 (by decide) ?_
  refine r_callS (As := [.int (nI (w)), .int (nI (0)), .int (nI (2))]) dX8_bathOf_8 (tZ_mindRange (by omega) (by omega) (by omega)) rfl oX8_mindRangeZ rfl kX8_30M sX8_mindRangeZ (by unfold fRoom; decide) (Nat.le_of_ble_eq_true rfl) rfl (bc' := 0) (bs' := 0) rfl rfl ?_
  show fR _ _ _ 11 _ _ _ _ _ _
  refine r_aload_n dX8_bathOf_11 rfl ?_
  refine r_get (k := 0) dX8_bathOf_12 hX rfl rfl (by decide) kX8_10F ?_
  refine r_iload_n dX8_bathOf_15 rfl ?_
  refine r_iload_n dX8_bathOf_16 rfl ?_
  refine r_callV (As := [.int (nI (b)), .int (nI (w))]) dX8_bathOf_17 (tX2_bathNumber h0 hI (by omega) (by omega)) rfl h0.lab rfl rfl oX2_bathNumber rfl kX8_210M nX2_bathNumber eX2_bathNumber (by unfold fRoom; decide) (Nat.le_of_ble_eq_true rfl) rfl (bc' := 0) (bs' := 0) rfl rfl ?_
  show fR _ _ _ 20 _ (.int (pOfBath g n b w) :: _) _ _ _ _
  exact fR_iret dX8_bathOf_20 rfl (isI_of rfl)
theorem tZ_count {l : Launch} {κ : KP} {M : Mem} {ad : Nat → Nat} {g tx : Nat → Int32} {dn n sn ln : Nat} {kp : Bool} (hA : aInj ad) (hC : ClsAt κ ad M ⟨g, sn, kp, tx, ln⟩ dn n) {w : Nat} (hw : w < 12) : fM l κ mX8_countZ [.ref (ad 254), .int (nI (w))] M (isI (pCounted g (nI sn) n dn w) M) := by
  refine fM_of rfl (by decide +kernel) (Nat.le_of_ble_eq_true rfl) ?_
  obtain ⟨hX, hS, hI, hT, ch, hTX⟩ := id hC
  replace hS : LabsAt ad M g sn kp dn n := hS
  replace hI : BI g dn n := hI
  replace hT : TextAt κ ad M tx ln := hT
  replace hTX : TX tx ln ch := hTX
  obtain ⟨π, h0⟩ := hS.main
  have hs6 := hS.s6
  obtain ⟨fD, hfD, hvD⟩ := h0.drs
  obtain ⟨fS, hfS, hvS⟩ := h0.sps
  obtain ⟨fN, hfN, hvN⟩ := h0.nds
  obtain ⟨fG, hfG, hvG⟩ := h0.dgs
  obtain ⟨fT, hfT, hvT⟩ := h0.sts
  have hdn := h0.dl
  have hn := h0.nl
  show fR l κ mX8_countZ 0 [(0, .ref (ad 254)), (1, .int (nI (w)))] [] M 0 0 _
  refine r_iload_n dX8_count_0 rfl ?_
  refine r_iconst (v := nI 0) dX8_count_1 (by decide) ?_
  refine r_bipush (v := nI 11) dX8_count_2 (by decide) ?_
  refine r_callS (As := [.int (nI (w)), .int (nI (0)), .int (nI (11))]) dX8_count_4 (tZ_mindRange (by omega) (by omega) (by omega)) rfl oX8_mindRangeZ rfl kX8_30M sX8_mindRangeZ (by unfold fRoom; decide) (Nat.le_of_ble_eq_true rfl) rfl (bc' := 0) (bs' := 0) rfl rfl ?_
  show fR _ _ _ 7 _ _ _ _ _ _
  refine r_iload_n dX8_count_7 rfl ?_
  refine r_bipush (v := nI 11) dX8_count_8 (by decide) ?_
  refine r_icmp_neN (tgt := 23) dX8_count_10 (by decide) (by omega) (by omega) (fun c1 => ?_) (fun c1 => ?_)
  · skip
    refine r_aload_n dX8_count_23 rfl ?_
    refine r_get (k := 0) dX8_count_24 hX rfl rfl (by decide) kX8_10F ?_
    refine r_iload_n dX8_count_27 rfl ?_
    refine r_callV (As := [.int (nI (w))]) dX8_count_28 (tX2_total h0 hI (sv := nI sn) (by omega)) rfl h0.lab rfl rfl oX2_total rfl kX8_213M nX2_total eX2_total (by unfold fRoom; decide) (Nat.le_of_ble_eq_true rfl) rfl (bc' := 0) (bs' := 0) rfl rfl ?_
    show fR _ _ _ 31 _ (.int (pCounted g (nI sn) n dn w) :: _) _ _ _ _
    exact fR_iret dX8_count_31 rfl (isI_of (by rfl))
  · skip
    refine r_aload_n dX8_count_13 rfl ?_
    refine r_get (k := 1) dX8_count_14 hX rfl rfl (by decide) kX8_19F ?_
    refine r_get (k := 2) dX8_count_17 hS.hist rfl rfl (by decide) kX8_174F ?_
    refine r_goto (tgt := 31) dX8_count_20 (by decide) ?_
    have e11 : w = 11 := by omega
    subst e11
    exact fR_iret dX8_count_31 rfl (isI_of (by rfl))
theorem tZ_stopped {l : Launch} {κ : KP} {M : Mem} {ad : Nat → Nat} {g tx : Nat → Int32} {dn n sn ln : Nat} {kp : Bool} (hA : aInj ad) (hC : ClsAt κ ad M ⟨g, sn, kp, tx, ln⟩ dn n) {w : Nat} (hw : w < 2) : fM l κ mX8_stoppedZ [.ref (ad 254), .int (nI (w))] M (isI (g (8 + w)) M) := by
  refine fM_of rfl (by decide +kernel) (Nat.le_of_ble_eq_true rfl) ?_
  obtain ⟨hX, hS, hI, hT, ch, hTX⟩ := id hC
  replace hS : LabsAt ad M g sn kp dn n := hS
  replace hI : BI g dn n := hI
  replace hT : TextAt κ ad M tx ln := hT
  replace hTX : TX tx ln ch := hTX
  obtain ⟨π, h0⟩ := hS.main
  have hs6 := hS.s6
  obtain ⟨fD, hfD, hvD⟩ := h0.drs
  obtain ⟨fS, hfS, hvS⟩ := h0.sps
  obtain ⟨fN, hfN, hvN⟩ := h0.nds
  obtain ⟨fG, hfG, hvG⟩ := h0.dgs
  obtain ⟨fT, hfT, hvT⟩ := h0.sts
  have hdn := h0.dl
  have hn := h0.nl
  show fR l κ mX8_stoppedZ 0 [(0, .ref (ad 254)), (1, .int (nI (w)))] [] M 0 0 _
  refine r_iload_n dX8_stopped_0 rfl ?_
  refine r_iconst (v := nI 0) dX8_stopped_1 (by decide) ?_
  refine r_iconst (v := nI 1) dX8_stopped_2 (by decide) ?_
  refine r_callS (As := [.int (nI (w)), .int (nI (0)), .int (nI (1))]) dX8_stopped_3 (tZ_mindRange (by omega) (by omega) (by omega)) rfl oX8_mindRangeZ rfl kX8_30M sX8_mindRangeZ (by unfold fRoom; decide) (Nat.le_of_ble_eq_true rfl) rfl (bc' := 0) (bs' := 0) rfl rfl ?_
  show fR _ _ _ 6 _ _ _ _ _ _
  refine r_iload_n dX8_stopped_6 rfl ?_
  refine r_if_neN (tgt := 20) dX8_stopped_7 (by decide) (by omega) (fun c1 => ?_) (fun c1 => ?_)
  · skip
    refine r_aload_n dX8_stopped_20 rfl ?_
    refine r_get (k := 0) dX8_stopped_21 hX rfl rfl (by decide) kX8_10F ?_
    refine r_get (k := 10) dX8_stopped_24 h0.lab rfl rfl (by decide) kX8_171F ?_
    have e0 : w = 1 := by omega
    subst e0
    exact fR_iret dX8_stopped_27 rfl (isI_of rfl)
  · skip
    refine r_aload_n dX8_stopped_10 rfl ?_
    refine r_get (k := 0) dX8_stopped_11 hX rfl rfl (by decide) kX8_10F ?_
    refine r_get (k := 9) dX8_stopped_14 h0.lab rfl rfl (by decide) kX8_168F ?_
    refine r_goto (tgt := 27) dX8_stopped_17 (by decide) ?_
    have e0 : w = 0 := by omega
    subst e0
    exact fR_iret dX8_stopped_27 rfl (isI_of rfl)
theorem tZ_noSink {l : Launch} {κ : KP} {M : Mem} {ad : Nat → Nat} {g tx : Nat → Int32} {dn n sn ln : Nat} {kp : Bool} (hA : aInj ad) (hC : ClsAt κ ad M ⟨g, sn, kp, tx, ln⟩ dn n) {i k : Nat} (hi : i < 3) (hk : k < n) : fM l κ mX8_noSinkZ [.ref (ad 254), .int (nI (i)), .int (nI (k))] M (isI (pWhyNot g i k) M) := by
  refine fM_of rfl (by decide +kernel) (Nat.le_of_ble_eq_true rfl) ?_
  obtain ⟨hX, hS, hI, hT, ch, hTX⟩ := id hC
  replace hS : LabsAt ad M g sn kp dn n := hS
  replace hI : BI g dn n := hI
  replace hT : TextAt κ ad M tx ln := hT
  replace hTX : TX tx ln ch := hTX
  obtain ⟨π, h0⟩ := hS.main
  have hs6 := hS.s6
  obtain ⟨fD, hfD, hvD⟩ := h0.drs
  obtain ⟨fS, hfS, hvS⟩ := h0.sps
  obtain ⟨fN, hfN, hvN⟩ := h0.nds
  obtain ⟨fG, hfG, hvG⟩ := h0.dgs
  obtain ⟨fT, hfT, hvT⟩ := h0.sts
  have hdn := h0.dl
  have hn := h0.nl
  show fR l κ mX8_noSinkZ 0 [(0, .ref (ad 254)), (1, .int (nI (i))), (2, .int (nI (k)))] [] M 0 0 _
  refine r_iload_n dX8_noSink_0 rfl ?_
  refine r_iconst (v := nI 3) dX8_noSink_1 (by decide) ?_
  refine r_callS (As := [.int (nI (i)), .int (nI (3))]) dX8_noSink_2 (tZ_mindNumber (by omega) (by omega)) rfl oX8_mindNumberZ rfl kX8_62M sX8_mindNumberZ (by unfold fRoom; decide) (Nat.le_of_ble_eq_true rfl) rfl (bc' := 0) (bs' := 0) rfl rfl ?_
  show fR _ _ _ 5 _ _ _ _ _ _
  refine r_iload_n dX8_noSink_5 rfl ?_
  refine r_aload_n dX8_noSink_6 rfl ?_
  refine r_get (k := 0) dX8_noSink_7 hX rfl rfl (by decide) kX8_10F ?_
  refine r_get (k := 6) dX8_noSink_10 h0.lab rfl rfl (by decide) kX8_59F ?_
  refine r_callS (As := [.int (nI (k)), .int (nI (n))]) dX8_noSink_13 (tZ_mindNumber (by omega) (by omega)) rfl oX8_mindNumberZ rfl kX8_62M sX8_mindNumberZ (by unfold fRoom; decide) (Nat.le_of_ble_eq_true rfl) rfl (bc' := 0) (bs' := 0) rfl rfl ?_
  show fR _ _ _ 16 _ _ _ _ _ _
  refine r_aload_n dX8_noSink_16 rfl ?_
  refine r_get (k := 0) dX8_noSink_17 hX rfl rfl (by decide) kX8_10F ?_
  refine r_iload_n dX8_noSink_20 rfl ?_
  refine r_iload_n dX8_noSink_21 rfl ?_
  refine r_callV (As := [.int (nI (i)), .int (nI (k))]) dX8_noSink_22 (tX2_whyNotSunk h0 hI (by omega) (by omega)) rfl h0.lab rfl rfl oX2_whyNotSunk rfl kX8_87M nX2_whyNotSunk eX2_whyNotSunk (by unfold fRoom; decide) (Nat.le_of_ble_eq_true rfl) rfl (bc' := 0) (bs' := 0) rfl rfl ?_
  show fR _ _ _ 25 _ (.int (pWhyNot g i k) :: _) _ _ _ _
  exact fR_iret dX8_noSink_25 rfl (isI_of rfl)
theorem tZ_noSale {l : Launch} {κ : KP} {M : Mem} {ad : Nat → Nat} {g tx : Nat → Int32} {dn n sn ln : Nat} {kp : Bool} (hA : aInj ad) (hC : ClsAt κ ad M ⟨g, sn, kp, tx, ln⟩ dn n) {d : Nat} (hd : d < dn) : fM l κ mX8_noSaleZ [.ref (ad 254), .int (nI (d))] M (isI (pWhyS g n d) M) := by
  refine fM_of rfl (by decide +kernel) (Nat.le_of_ble_eq_true rfl) ?_
  obtain ⟨hX, hS, hI, hT, ch, hTX⟩ := id hC
  replace hS : LabsAt ad M g sn kp dn n := hS
  replace hI : BI g dn n := hI
  replace hT : TextAt κ ad M tx ln := hT
  replace hTX : TX tx ln ch := hTX
  obtain ⟨π, h0⟩ := hS.main
  have hs6 := hS.s6
  obtain ⟨fD, hfD, hvD⟩ := h0.drs
  obtain ⟨fS, hfS, hvS⟩ := h0.sps
  obtain ⟨fN, hfN, hvN⟩ := h0.nds
  obtain ⟨fG, hfG, hvG⟩ := h0.dgs
  obtain ⟨fT, hfT, hvT⟩ := h0.sts
  have hdn := h0.dl
  have hn := h0.nl
  show fR l κ mX8_noSaleZ 0 [(0, .ref (ad 254)), (1, .int (nI (d)))] [] M 0 0 _
  refine r_iload_n dX8_noSale_0 rfl ?_
  refine r_aload_n dX8_noSale_1 rfl ?_
  refine r_get (k := 0) dX8_noSale_2 hX rfl rfl (by decide) kX8_10F ?_
  refine r_get (k := 5) dX8_noSale_5 h0.lab rfl rfl (by decide) kX8_34F ?_
  refine r_callS (As := [.int (nI (d)), .int (nI (dn))]) dX8_noSale_8 (tZ_mindNumber (by omega) (by omega)) rfl oX8_mindNumberZ rfl kX8_62M sX8_mindNumberZ (by unfold fRoom; decide) (Nat.le_of_ble_eq_true rfl) rfl (bc' := 0) (bs' := 0) rfl rfl ?_
  show fR _ _ _ 11 _ _ _ _ _ _
  refine r_aload_n dX8_noSale_11 rfl ?_
  refine r_get (k := 0) dX8_noSale_12 hX rfl rfl (by decide) kX8_10F ?_
  refine r_iload_n dX8_noSale_15 rfl ?_
  refine r_callS (As := [.ref (ad 0), .int (nI (d))]) dX8_noSale_16 (tX7_whyNotSold h0 hI) rfl oX7_whyNotSold rfl kX8_118M sX7_whyNotSold (by unfold fRoom; decide) (Nat.le_of_ble_eq_true rfl) rfl (bc' := 0) (bs' := 0) rfl rfl ?_
  show fR _ _ _ 19 _ (.int ((pSoldv g dn n (nI d))) :: _) _ _ _ _
  exact fR_iret dX8_noSale_19 rfl (isI_of (by unfold pSoldv; rw [if_pos (pNo_nI (by omega) (by omega)), show cN (nI d) = d from nI_clamp (by omega)]))
theorem tZ_ifSunk {l : Launch} {κ : KP} {M : Mem} {ad : Nat → Nat} {g tx : Nat → Int32} {dn n sn ln : Nat} {kp : Bool} (hA : aInj ad) (hC : ClsAt κ ad M ⟨g, sn, kp, tx, ln⟩ dn n) {i k w s : Nat} (hi : i < 3) (hk : k < n) (h1 : 50 ≤ w) (h2 : w ≤ 200) (h3 : 1 ≤ s) (h4 : s ≤ 60) : fM l κ mX8_ifSunkZ [.ref (ad 254), .int (nI (i)), .int (nI (k)), .int (nI (w)), .int (nI (s))] M (isI (pDep g i k (nI w) (nI s)) M) := by
  refine fM_of rfl (by decide +kernel) (Nat.le_of_ble_eq_true rfl) ?_
  obtain ⟨hX, hS, hI, hT, ch, hTX⟩ := id hC
  replace hS : LabsAt ad M g sn kp dn n := hS
  replace hI : BI g dn n := hI
  replace hT : TextAt κ ad M tx ln := hT
  replace hTX : TX tx ln ch := hTX
  obtain ⟨π, h0⟩ := hS.main
  have hs6 := hS.s6
  obtain ⟨fD, hfD, hvD⟩ := h0.drs
  obtain ⟨fS, hfS, hvS⟩ := h0.sps
  obtain ⟨fN, hfN, hvN⟩ := h0.nds
  obtain ⟨fG, hfG, hvG⟩ := h0.dgs
  obtain ⟨fT, hfT, hvT⟩ := h0.sts
  have hdn := h0.dl
  have hn := h0.nl
  show fR l κ mX8_ifSunkZ 0 [(0, .ref (ad 254)), (1, .int (nI (i))), (2, .int (nI (k))), (3, .int (nI (w))), (4, .int (nI (s)))] [] M 0 0 _
  refine r_iload_n dX8_ifSunk_0 rfl ?_
  refine r_iconst (v := nI 3) dX8_ifSunk_1 (by decide) ?_
  refine r_callS (As := [.int (nI (i)), .int (nI (3))]) dX8_ifSunk_2 (tZ_mindNumber (by omega) (by omega)) rfl oX8_mindNumberZ rfl kX8_62M sX8_mindNumberZ (by unfold fRoom; decide) (Nat.le_of_ble_eq_true rfl) rfl (bc' := 0) (bs' := 0) rfl rfl ?_
  show fR _ _ _ 5 _ _ _ _ _ _
  refine r_iload_n dX8_ifSunk_5 rfl ?_
  refine r_aload_n dX8_ifSunk_6 rfl ?_
  refine r_get (k := 0) dX8_ifSunk_7 hX rfl rfl (by decide) kX8_10F ?_
  refine r_get (k := 6) dX8_ifSunk_10 h0.lab rfl rfl (by decide) kX8_59F ?_
  refine r_callS (As := [.int (nI (k)), .int (nI (n))]) dX8_ifSunk_13 (tZ_mindNumber (by omega) (by omega)) rfl oX8_mindNumberZ rfl kX8_62M sX8_mindNumberZ (by unfold fRoom; decide) (Nat.le_of_ble_eq_true rfl) rfl (bc' := 0) (bs' := 0) rfl rfl ?_
  show fR _ _ _ 16 _ _ _ _ _ _
  refine r_iload_n dX8_ifSunk_16 rfl ?_
  refine r_bipush (v := nI 50) dX8_ifSunk_17 (by decide) ?_
  refine r_sipush (v := nI 200) dX8_ifSunk_19 (by decide) ?_
  refine r_callS (As := [.int (nI (w)), .int (nI (50)), .int (nI (200))]) dX8_ifSunk_22 (tZ_mindRange (by omega) (by omega) (by omega)) rfl oX8_mindRangeZ rfl kX8_30M sX8_mindRangeZ (by unfold fRoom; decide) (Nat.le_of_ble_eq_true rfl) rfl (bc' := 0) (bs' := 0) rfl rfl ?_
  show fR _ _ _ 25 _ _ _ _ _ _
  refine r_iload dX8_ifSunk_25 rfl ?_
  refine r_iconst (v := nI 1) dX8_ifSunk_27 (by decide) ?_
  refine r_bipush (v := nI 60) dX8_ifSunk_28 (by decide) ?_
  refine r_callS (As := [.int (nI (s)), .int (nI (1)), .int (nI (60))]) dX8_ifSunk_30 (tZ_mindRange (by omega) (by omega) (by omega)) rfl oX8_mindRangeZ rfl kX8_30M sX8_mindRangeZ (by unfold fRoom; decide) (Nat.le_of_ble_eq_true rfl) rfl (bc' := 0) (bs' := 0) rfl rfl ?_
  show fR _ _ _ 33 _ _ _ _ _ _
  refine r_aload_n dX8_ifSunk_33 rfl ?_
  refine r_get (k := 0) dX8_ifSunk_34 hX rfl rfl (by decide) kX8_10F ?_
  refine r_iload_n dX8_ifSunk_37 rfl ?_
  refine r_iload_n dX8_ifSunk_38 rfl ?_
  refine r_iload_n dX8_ifSunk_39 rfl ?_
  refine r_iload dX8_ifSunk_40 rfl ?_
  refine r_callV (As := [.int (nI (i)), .int (nI (k)), .int (nI (w)), .int (nI (s))]) dX8_ifSunk_42 (tX2_depth h0 hI (by omega) (by omega) (by omega) (by omega)) rfl h0.lab rfl rfl oX2_depth rfl kX8_216M nX2_depth eX2_depth (by unfold fRoom; decide) (Nat.le_of_ble_eq_true rfl) rfl (bc' := 0) (bs' := 0) rfl rfl ?_
  show fR _ _ _ 45 _ (.int (pDep g i k (nI (w)) (nI (s))) :: _) _ _ _ _
  exact fR_iret dX8_ifSunk_45 rfl (isI_of rfl)
theorem tZ_readyIn {l : Launch} {κ : KP} {M : Mem} {ad : Nat → Nat} {g tx : Nat → Int32} {dn n sn ln : Nat} {kp : Bool} (hA : aInj ad) (hC : ClsAt κ ad M ⟨g, sn, kp, tx, ln⟩ dn n) {k : Nat} (hk : k < n) : fM l κ mX8_readyInZ [.ref (ad 254), .int (nI (k))] M (isI (pReadyNow g k) M) := by
  refine fM_of rfl (by decide +kernel) (Nat.le_of_ble_eq_true rfl) ?_
  obtain ⟨hX, hS, hI, hT, ch, hTX⟩ := id hC
  replace hS : LabsAt ad M g sn kp dn n := hS
  replace hI : BI g dn n := hI
  replace hT : TextAt κ ad M tx ln := hT
  replace hTX : TX tx ln ch := hTX
  obtain ⟨π, h0⟩ := hS.main
  have hs6 := hS.s6
  obtain ⟨fD, hfD, hvD⟩ := h0.drs
  obtain ⟨fS, hfS, hvS⟩ := h0.sps
  obtain ⟨fN, hfN, hvN⟩ := h0.nds
  obtain ⟨fG, hfG, hvG⟩ := h0.dgs
  obtain ⟨fT, hfT, hvT⟩ := h0.sts
  have hdn := h0.dl
  have hn := h0.nl
  show fR l κ mX8_readyInZ 0 [(0, .ref (ad 254)), (1, .int (nI (k)))] [] M 0 0 _
  refine r_iload_n dX8_readyIn_0 rfl ?_
  refine r_aload_n dX8_readyIn_1 rfl ?_
  refine r_get (k := 0) dX8_readyIn_2 hX rfl rfl (by decide) kX8_10F ?_
  refine r_get (k := 6) dX8_readyIn_5 h0.lab rfl rfl (by decide) kX8_59F ?_
  refine r_callS (As := [.int (nI (k)), .int (nI (n))]) dX8_readyIn_8 (tZ_mindNumber (by omega) (by omega)) rfl oX8_mindNumberZ rfl kX8_62M sX8_mindNumberZ (by unfold fRoom; decide) (Nat.le_of_ble_eq_true rfl) rfl (bc' := 0) (bs' := 0) rfl rfl ?_
  show fR _ _ _ 11 _ _ _ _ _ _
  refine r_aload_n dX8_readyIn_11 rfl ?_
  refine r_get (k := 0) dX8_readyIn_12 hX rfl rfl (by decide) kX8_10F ?_
  refine r_iload_n dX8_readyIn_15 rfl ?_
  refine r_callV (As := [.int (nI (k))]) dX8_readyIn_16 (tX2_readyNow h0 hI (by omega)) rfl h0.lab rfl rfl oX2_minutesToReady rfl kX8_219M nX2_minutesToReady eX2_minutesToReady (by unfold fRoom; decide) (Nat.le_of_ble_eq_true rfl) rfl (bc' := 0) (bs' := 0) rfl rfl ?_
  show fR _ _ _ 19 _ (.int (pReadyNow g k) :: _) _ _ _ _
  exact fR_iret dX8_readyIn_19 rfl (isI_of rfl)
theorem tZ_bestBath {l : Launch} {κ : KP} {M : Mem} {ad : Nat → Nat} {g tx : Nat → Int32} {dn n sn ln : Nat} {kp : Bool} (hA : aInj ad) (hC : ClsAt κ ad M ⟨g, sn, kp, tx, ln⟩ dn n) {k : Nat} (hk : k < n) : fM l κ mX8_bestBathZ [.ref (ad 254), .int (nI (k))] M (isI (pBF g n k 3) M) := by
  refine fM_of rfl (by decide +kernel) (Nat.le_of_ble_eq_true rfl) ?_
  obtain ⟨hX, hS, hI, hT, ch, hTX⟩ := id hC
  replace hS : LabsAt ad M g sn kp dn n := hS
  replace hI : BI g dn n := hI
  replace hT : TextAt κ ad M tx ln := hT
  replace hTX : TX tx ln ch := hTX
  obtain ⟨π, h0⟩ := hS.main
  have hs6 := hS.s6
  obtain ⟨fD, hfD, hvD⟩ := h0.drs
  obtain ⟨fS, hfS, hvS⟩ := h0.sps
  obtain ⟨fN, hfN, hvN⟩ := h0.nds
  obtain ⟨fG, hfG, hvG⟩ := h0.dgs
  obtain ⟨fT, hfT, hvT⟩ := h0.sts
  have hdn := h0.dl
  have hn := h0.nl
  show fR l κ mX8_bestBathZ 0 [(0, .ref (ad 254)), (1, .int (nI (k)))] [] M 0 0 _
  refine r_iload_n dX8_bestBath_0 rfl ?_
  refine r_aload_n dX8_bestBath_1 rfl ?_
  refine r_get (k := 0) dX8_bestBath_2 hX rfl rfl (by decide) kX8_10F ?_
  refine r_get (k := 6) dX8_bestBath_5 h0.lab rfl rfl (by decide) kX8_59F ?_
  refine r_callS (As := [.int (nI (k)), .int (nI (n))]) dX8_bestBath_8 (tZ_mindNumber (by omega) (by omega)) rfl oX8_mindNumberZ rfl kX8_62M sX8_mindNumberZ (by unfold fRoom; decide) (Nat.le_of_ble_eq_true rfl) rfl (bc' := 0) (bs' := 0) rfl rfl ?_
  show fR _ _ _ 11 _ _ _ _ _ _
  refine r_aload_n dX8_bestBath_11 rfl ?_
  refine r_get (k := 0) dX8_bestBath_12 hX rfl rfl (by decide) kX8_10F ?_
  refine r_iload_n dX8_bestBath_15 rfl ?_
  refine r_callV (As := [.int (nI (k))]) dX8_bestBath_16 (tX2_best h0 hI (by omega)) rfl h0.lab rfl rfl oX2_quickestBath rfl kX8_222M nX2_quickestBath eX2_quickestBath (by unfold fRoom; decide) (Nat.le_of_ble_eq_true rfl) rfl (bc' := 0) (bs' := 0) rfl rfl ?_
  show fR _ _ _ 19 _ (.int (pBF g n k 3) :: _) _ _ _ _
  exact fR_iret dX8_bestBath_19 rfl (isI_of rfl)
theorem tZ_reading {l : Launch} {κ : KP} {M : Mem} {ad : Nat → Nat} {g tx : Nat → Int32} {dn n sn ln : Nat} {kp : Bool} (hA : aInj ad) (hC : ClsAt κ ad M ⟨g, sn, kp, tx, ln⟩ dn n) {k e w : Nat} (hk : k < n) (he : e < pMany g k) (hw : w < 4) : fM l κ mX8_readingZ [.ref (ad 254), .int (nI (k)), .int (nI (e)), .int (nI (w))] M (isI (pOf g k (6 + (e * 4 + w))) M) := by
  refine fM_of rfl (by decide +kernel) (Nat.le_of_ble_eq_true rfl) ?_
  obtain ⟨hX, hS, hI, hT, ch, hTX⟩ := id hC
  replace hS : LabsAt ad M g sn kp dn n := hS
  replace hI : BI g dn n := hI
  replace hT : TextAt κ ad M tx ln := hT
  replace hTX : TX tx ln ch := hTX
  obtain ⟨π, h0⟩ := hS.main
  have hs6 := hS.s6
  obtain ⟨fD, hfD, hvD⟩ := h0.drs
  obtain ⟨fS, hfS, hvS⟩ := h0.sps
  obtain ⟨fN, hfN, hvN⟩ := h0.nds
  obtain ⟨fG, hfG, hvG⟩ := h0.dgs
  obtain ⟨fT, hfT, hvT⟩ := h0.sts
  have hdn := h0.dl
  have hn := h0.nl
  have hm9 := (hI.mM k hk).2
  show fR l κ mX8_readingZ 0 [(0, .ref (ad 254)), (1, .int (nI (k))), (2, .int (nI (e))), (3, .int (nI (w)))] [] M 0 0 _
  refine r_iload_n dX8_reading_0 rfl ?_
  refine r_aload_n dX8_reading_1 rfl ?_
  refine r_get (k := 0) dX8_reading_2 hX rfl rfl (by decide) kX8_10F ?_
  refine r_get (k := 6) dX8_reading_5 h0.lab rfl rfl (by decide) kX8_59F ?_
  refine r_callS (As := [.int (nI (k)), .int (nI (n))]) dX8_reading_8 (tZ_mindNumber (by omega) (by omega)) rfl oX8_mindNumberZ rfl kX8_62M sX8_mindNumberZ (by unfold fRoom; decide) (Nat.le_of_ble_eq_true rfl) rfl (bc' := 0) (bs' := 0) rfl rfl ?_
  show fR _ _ _ 11 _ _ _ _ _ _
  refine r_iload_n dX8_reading_11 rfl ?_
  refine r_iconst (v := nI 0) dX8_reading_12 (by decide) ?_
  refine r_iconst (v := nI 3) dX8_reading_13 (by decide) ?_
  refine r_callS (As := [.int (nI (w)), .int (nI (0)), .int (nI (3))]) dX8_reading_14 (tZ_mindRange (by omega) (by omega) (by omega)) rfl oX8_mindRangeZ rfl kX8_30M sX8_mindRangeZ (by unfold fRoom; decide) (Nat.le_of_ble_eq_true rfl) rfl (bc' := 0) (bs' := 0) rfl rfl ?_
  show fR _ _ _ 17 _ _ _ _ _ _
  refine r_iload_n dX8_reading_17 rfl ?_
  refine r_if_geN (tgt := 31) dX8_reading_18 (by decide) (by omega) (fun c1 => ?_) (fun c1 => ?_)
  · skip
    refine r_aload_n dX8_reading_31 rfl ?_
    refine r_get (k := 0) dX8_reading_32 hX rfl rfl (by decide) kX8_10F ?_
    refine r_get (k := 1) dX8_reading_35 h0.lab rfl rfl (by decide) kX8_109F ?_
    refine r_iload_n dX8_reading_38 rfl ?_
    refine r_aldqN dX8_reading_39 hfS rfl (by omega) (by decide) (hvS _ (by omega)) ?_
    refine r_iload_n dX8_reading_40 rfl ?_
    refine r_iload_n dX8_reading_41 rfl ?_
    refine r_callV (As := [.int (nI (e)), .int (nI (w))]) dX8_reading_42 (tX6_mark (k := k) (h0.sp k hk) (hI.spok hk) (by omega) (by omega)) rfl (h0.sp _ (by omega)).1 rfl rfl oX6_mark rfl kX8_205M nX6_mark eX6_mark (by unfold fRoom; decide) (Nat.le_of_ble_eq_true rfl) rfl (bc' := 0) (bs' := 0) rfl rfl ?_
    show fR _ _ _ 45 _ (.int (pOf g k (6 + (e * 4 + w))) :: _) _ _ _ _
    exact fR_iret dX8_reading_45 rfl (isI_of rfl)
  · exact absurd c1 (by omega)
theorem tZ_readingO {l : Launch} {κ : KP} {M : Mem} {ad : Nat → Nat} {g tx : Nat → Int32} {dn n sn ln : Nat} {kp : Bool} (hA : aInj ad) (hC : ClsAt κ ad M ⟨g, sn, kp, tx, ln⟩ dn n) {k e w : Nat} (hk : k < n) (he : pMany g k ≤ e) (he2 : e < 1000) (hw : w < 4) : fM l κ mX8_readingZ [.ref (ad 254), .int (nI (k)), .int (nI (e)), .int (nI (w))] M (isI (-1) M) := by
  refine fM_of rfl (by decide +kernel) (Nat.le_of_ble_eq_true rfl) ?_
  obtain ⟨hX, hS, hI, hT, ch, hTX⟩ := id hC
  replace hS : LabsAt ad M g sn kp dn n := hS
  replace hI : BI g dn n := hI
  replace hT : TextAt κ ad M tx ln := hT
  replace hTX : TX tx ln ch := hTX
  obtain ⟨π, h0⟩ := hS.main
  have hs6 := hS.s6
  obtain ⟨fD, hfD, hvD⟩ := h0.drs
  obtain ⟨fS, hfS, hvS⟩ := h0.sps
  obtain ⟨fN, hfN, hvN⟩ := h0.nds
  obtain ⟨fG, hfG, hvG⟩ := h0.dgs
  obtain ⟨fT, hfT, hvT⟩ := h0.sts
  have hdn := h0.dl
  have hn := h0.nl
  have hm9 := (hI.mM k hk).2
  show fR l κ mX8_readingZ 0 [(0, .ref (ad 254)), (1, .int (nI (k))), (2, .int (nI (e))), (3, .int (nI (w)))] [] M 0 0 _
  refine r_iload_n dX8_reading_0 rfl ?_
  refine r_aload_n dX8_reading_1 rfl ?_
  refine r_get (k := 0) dX8_reading_2 hX rfl rfl (by decide) kX8_10F ?_
  refine r_get (k := 6) dX8_reading_5 h0.lab rfl rfl (by decide) kX8_59F ?_
  refine r_callS (As := [.int (nI (k)), .int (nI (n))]) dX8_reading_8 (tZ_mindNumber (by omega) (by omega)) rfl oX8_mindNumberZ rfl kX8_62M sX8_mindNumberZ (by unfold fRoom; decide) (Nat.le_of_ble_eq_true rfl) rfl (bc' := 0) (bs' := 0) rfl rfl ?_
  show fR _ _ _ 11 _ _ _ _ _ _
  refine r_iload_n dX8_reading_11 rfl ?_
  refine r_iconst (v := nI 0) dX8_reading_12 (by decide) ?_
  refine r_iconst (v := nI 3) dX8_reading_13 (by decide) ?_
  refine r_callS (As := [.int (nI (w)), .int (nI (0)), .int (nI (3))]) dX8_reading_14 (tZ_mindRange (by omega) (by omega) (by omega)) rfl oX8_mindRangeZ rfl kX8_30M sX8_mindRangeZ (by unfold fRoom; decide) (Nat.le_of_ble_eq_true rfl) rfl (bc' := 0) (bs' := 0) rfl rfl ?_
  show fR _ _ _ 17 _ _ _ _ _ _
  refine r_iload_n dX8_reading_17 rfl ?_
  refine r_if_geN (tgt := 31) dX8_reading_18 (by decide) (by omega) (fun c1 => ?_) (fun c1 => ?_)
  · skip
    refine r_aload_n dX8_reading_31 rfl ?_
    refine r_get (k := 0) dX8_reading_32 hX rfl rfl (by decide) kX8_10F ?_
    refine r_get (k := 1) dX8_reading_35 h0.lab rfl rfl (by decide) kX8_109F ?_
    refine r_iload_n dX8_reading_38 rfl ?_
    refine r_aldqN dX8_reading_39 hfS rfl (by omega) (by decide) (hvS _ (by omega)) ?_
    refine r_iload_n dX8_reading_40 rfl ?_
    refine r_iload_n dX8_reading_41 rfl ?_
    refine r_callV (As := [.int (nI (e)), .int (nI (w))]) dX8_reading_42 (tX6_mark_o (k := k) (h0.sp k hk) (hI.spok hk) (by omega) (by omega)) rfl (h0.sp _ (by omega)).1 rfl rfl oX6_mark rfl kX8_205M nX6_mark eX6_mark (by unfold fRoom; decide) (Nat.le_of_ble_eq_true rfl) rfl (bc' := 0) (bs' := 0) rfl rfl ?_
    show fR _ _ _ 45 _ (.int (-1) :: _) _ _ _ _
    exact fR_iret dX8_reading_45 rfl (isI_of rfl)
  · exact absurd c1 (by omega)
theorem lZ_secondsTo {l : Launch} {κ : KP} {M : Mem} {ad : Nat → Nat} {g tx : Nat → Int32} {dn n sn ln : Nat} {kp : Bool} (hA : aInj ad) (hC : ClsAt κ ad M ⟨g, sn, kp, tx, ln⟩ dn n) {i k w dp : Nat} (hi : i < 3) (hk : k < n) (h1 : 50 ≤ w) (h2 : w ≤ 200) (h3 : 1 ≤ dp) (h4 : dp ≤ 400) : ∀ (N s : Nat), N + s = 61 → fR l κ mX8_secondsToZ 37 [(5, .int (nI (s))), (0, .ref (ad 254)), (1, .int (nI (i))), (2, .int (nI (k))), (3, .int (nI (w))), (4, .int (nI (dp)))] [] M 0 0 (isI (pSec g i k (nI w) (nI dp) N s) M) := by
  obtain ⟨hX, hS, hI, hT, ch, hTX⟩ := id hC
  replace hS : LabsAt ad M g sn kp dn n := hS
  replace hI : BI g dn n := hI
  replace hT : TextAt κ ad M tx ln := hT
  replace hTX : TX tx ln ch := hTX
  obtain ⟨π, h0⟩ := hS.main
  have hs6 := hS.s6
  obtain ⟨fD, hfD, hvD⟩ := h0.drs
  obtain ⟨fS, hfS, hvS⟩ := h0.sps
  obtain ⟨fN, hfN, hvN⟩ := h0.nds
  obtain ⟨fG, hfG, hvG⟩ := h0.dgs
  obtain ⟨fT, hfT, hvT⟩ := h0.sts
  have hdn := h0.dl
  have hn := h0.nl
  intro N
  induction N with
  | zero =>
    intro s hs1
    refine r_iload dX8_secondsTo_37 rfl ?_
    refine r_bipush (v := nI 60) dX8_secondsTo_39 (by decide) ?_
    refine r_icmp_gtN (tgt := 70) dX8_secondsTo_41 (by decide) (by omega) (by omega) (fun c1 => ?_) (fun c1 => ?_)
    · skip
      refine r_iconst (v := (-1)) dX8_secondsTo_70 (by decide) ?_
      exact fR_iret dX8_secondsTo_71 rfl (isI_of rfl)
    · skip
      exact absurd hs1 (by omega)
  | succ N ih =>
    intro s hs1
    refine r_iload dX8_secondsTo_37 rfl ?_
    refine r_bipush (v := nI 60) dX8_secondsTo_39 (by decide) ?_
    refine r_icmp_gtN (tgt := 70) dX8_secondsTo_41 (by decide) (by omega) (by omega) (fun c1 => ?_) (fun c1 => ?_)
    · skip
      exact absurd hs1 (by omega)
    · skip
      refine r_aload_n dX8_secondsTo_44 rfl ?_
      refine r_get (k := 0) dX8_secondsTo_45 hX rfl rfl (by decide) kX8_10F ?_
      refine r_iload_n dX8_secondsTo_48 rfl ?_
      refine r_iload_n dX8_secondsTo_49 rfl ?_
      refine r_iload_n dX8_secondsTo_50 rfl ?_
      refine r_iload dX8_secondsTo_51 rfl ?_
      refine r_callV (As := [.int (nI (i)), .int (nI (k)), .int (nI (w)), .int (nI (s))]) dX8_secondsTo_53 (tX2_depth h0 hI (by omega) (by omega) (by omega) (by omega)) rfl h0.lab rfl rfl oX2_depth rfl kX8_216M nX2_depth eX2_depth (by unfold fRoom; decide) (Nat.le_of_ble_eq_true rfl) rfl (bc' := 0) (bs' := 0) rfl rfl ?_
      show fR _ _ _ 56 _ (.int (pDep g i k (nI (w)) (nI (s))) :: _) _ _ _ _
      refine r_iload dX8_secondsTo_56 rfl ?_
      refine r_icmp_lt (tgt := 64) dX8_secondsTo_58 (by decide) (fun c2 => ?_) (fun c2 => ?_)
      · skip
        refine r_iinc (v := (nI (s + 1))) (lv' := [(5, .int (nI (s + 1))), (0, .ref (ad 254)), (1, .int (nI (i))), (2, .int (nI (k))), (3, .int (nI (w))), (4, .int (nI (dp)))]) dX8_secondsTo_64 rfl (nI_inc _) (by decide) rfl ?_
        refine r_goto (tgt := 37) dX8_secondsTo_67 (by decide) ?_
        refine r_lv (lv' := [(5, .int (nI (s + 1))), (0, .ref (ad 254)), (1, .int (nI (i))), (2, .int (nI (k))), (3, .int (nI (w))), (4, .int (nI (dp)))]) (by simp) ?_
        rw [show pSec g i k (nI w) (nI dp) (N + 1) s = pSec g i k (nI w) (nI dp) N (s + 1) from if_neg (Int32.not_le.mpr (by assumption))]
        exact ih _ (by omega)
      · skip
        refine r_iload dX8_secondsTo_61 rfl ?_
        exact fR_iret dX8_secondsTo_63 rfl (isI_of (if_pos (Int32.not_lt.mp (by assumption))).symm)
theorem tZ_secondsTo {l : Launch} {κ : KP} {M : Mem} {ad : Nat → Nat} {g tx : Nat → Int32} {dn n sn ln : Nat} {kp : Bool} (hA : aInj ad) (hC : ClsAt κ ad M ⟨g, sn, kp, tx, ln⟩ dn n) {i k w dp : Nat} (hi : i < 3) (hk : k < n) (h1 : 50 ≤ w) (h2 : w ≤ 200) (h3 : 1 ≤ dp) (h4 : dp ≤ 400) : fM l κ mX8_secondsToZ [.ref (ad 254), .int (nI (i)), .int (nI (k)), .int (nI (w)), .int (nI (dp))] M (isI (pSec g i k (nI w) (nI dp) 60 1) M) := by
  refine fM_of rfl (by decide +kernel) (Nat.le_of_ble_eq_true rfl) ?_
  obtain ⟨hX, hS, hI, hT, ch, hTX⟩ := id hC
  replace hS : LabsAt ad M g sn kp dn n := hS
  replace hI : BI g dn n := hI
  replace hT : TextAt κ ad M tx ln := hT
  replace hTX : TX tx ln ch := hTX
  obtain ⟨π, h0⟩ := hS.main
  have hs6 := hS.s6
  obtain ⟨fD, hfD, hvD⟩ := h0.drs
  obtain ⟨fS, hfS, hvS⟩ := h0.sps
  obtain ⟨fN, hfN, hvN⟩ := h0.nds
  obtain ⟨fG, hfG, hvG⟩ := h0.dgs
  obtain ⟨fT, hfT, hvT⟩ := h0.sts
  have hdn := h0.dl
  have hn := h0.nl
  show fR l κ mX8_secondsToZ 0 [(0, .ref (ad 254)), (1, .int (nI (i))), (2, .int (nI (k))), (3, .int (nI (w))), (4, .int (nI (dp)))] [] M 0 0 _
  refine r_iload_n dX8_secondsTo_0 rfl ?_
  refine r_iconst (v := nI 3) dX8_secondsTo_1 (by decide) ?_
  refine r_callS (As := [.int (nI (i)), .int (nI (3))]) dX8_secondsTo_2 (tZ_mindNumber (by omega) (by omega)) rfl oX8_mindNumberZ rfl kX8_62M sX8_mindNumberZ (by unfold fRoom; decide) (Nat.le_of_ble_eq_true rfl) rfl (bc' := 0) (bs' := 0) rfl rfl ?_
  show fR _ _ _ 5 _ _ _ _ _ _
  refine r_iload_n dX8_secondsTo_5 rfl ?_
  refine r_aload_n dX8_secondsTo_6 rfl ?_
  refine r_get (k := 0) dX8_secondsTo_7 hX rfl rfl (by decide) kX8_10F ?_
  refine r_get (k := 6) dX8_secondsTo_10 h0.lab rfl rfl (by decide) kX8_59F ?_
  refine r_callS (As := [.int (nI (k)), .int (nI (n))]) dX8_secondsTo_13 (tZ_mindNumber (by omega) (by omega)) rfl oX8_mindNumberZ rfl kX8_62M sX8_mindNumberZ (by unfold fRoom; decide) (Nat.le_of_ble_eq_true rfl) rfl (bc' := 0) (bs' := 0) rfl rfl ?_
  show fR _ _ _ 16 _ _ _ _ _ _
  refine r_iload_n dX8_secondsTo_16 rfl ?_
  refine r_bipush (v := nI 50) dX8_secondsTo_17 (by decide) ?_
  refine r_sipush (v := nI 200) dX8_secondsTo_19 (by decide) ?_
  refine r_callS (As := [.int (nI (w)), .int (nI (50)), .int (nI (200))]) dX8_secondsTo_22 (tZ_mindRange (by omega) (by omega) (by omega)) rfl oX8_mindRangeZ rfl kX8_30M sX8_mindRangeZ (by unfold fRoom; decide) (Nat.le_of_ble_eq_true rfl) rfl (bc' := 0) (bs' := 0) rfl rfl ?_
  show fR _ _ _ 25 _ _ _ _ _ _
  refine r_iload dX8_secondsTo_25 rfl ?_
  refine r_iconst (v := nI 1) dX8_secondsTo_27 (by decide) ?_
  refine r_sipush (v := nI 400) dX8_secondsTo_28 (by decide) ?_
  refine r_callS (As := [.int (nI (dp)), .int (nI (1)), .int (nI (400))]) dX8_secondsTo_31 (tZ_mindRange (by omega) (by omega) (by omega)) rfl oX8_mindRangeZ rfl kX8_30M sX8_mindRangeZ (by unfold fRoom; decide) (Nat.le_of_ble_eq_true rfl) rfl (bc' := 0) (bs' := 0) rfl rfl ?_
  show fR _ _ _ 34 _ _ _ _ _ _
  refine r_iconst (v := nI 1) dX8_secondsTo_34 (by decide) ?_
  refine r_istore (lv' := [(5, .int (nI (1))), (0, .ref (ad 254)), (1, .int (nI (i))), (2, .int (nI (k))), (3, .int (nI (w))), (4, .int (nI (dp)))]) dX8_secondsTo_35 (by decide) rfl ?_
  exact lZ_secondsTo hA hC hi hk h1 h2 h3 h4 60 1 rfl
