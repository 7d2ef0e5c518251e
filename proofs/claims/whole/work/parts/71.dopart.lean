/-! THE CLASS'S PARTS DONE -/
section St
variable {g u : Nat → Int32} {dn n : Nat}
theorem stops_36 (hdn : dn ≤ 6) {d : Nat} (hd : d < 6) (e0 : u 0 = nI d) : pSoldv g dn n (nI d) = pStops g dn n 36 u := by
  show _ = (if cN (u 0) < dn then pWhyS g n (cN (u 0)) else nI 13)
  unfold pSoldv
  rw [e0, show cN (nI d) = d from nI_clamp (by omega), pNo_n (by omega) (by omega)]
  by_cases h : d < dn
  · rw [if_pos h, if_pos (decide_eq_true h)]
  · rw [if_neg h, if_neg (by rw [decide_eq_false h]; decide)]
theorem stops_98 (hn : n ≤ 8) {k : Nat} {b : Int32} (hk : k < 8) (e0 : u 0 = nI k) (e1 : u 1 = b) : pLaid g n (nI k) b = pStops g dn n 98 u := by
  show _ = (if cN (u 0) < n then (if u 1 = -1 then nI 0 else if pOf g (cN (u 0)) 3 = u 1 ∨ pInBath g n (u 1) < 3 then nI 0 else nI 14) else nI 13)
  unfold pLaid
  rw [e0, e1, show cN (nI k) = k from nI_clamp (by omega), pNo_n (by omega) (by omega)]
  by_cases h : k < n
  · rw [if_pos h, if_pos (decide_eq_true h)]
  · rw [if_neg h, if_neg (by rw [decide_eq_false h]; decide)]
theorem stops_111 (hn : n ≤ 8) {k : Nat} (hk : k < 8) (e0 : u 0 = nI k) : pSoftd g n (nI k) = pStops g dn n 111 u := by
  show _ = (if cN (u 0) < n then (if pOf g (cN (u 0)) 3 = -1 then nI 0 else nI 8) else nI 13)
  unfold pSoftd
  rw [e0, show cN (nI k) = k from nI_clamp (by omega), pNo_n (by omega) (by omega)]
  by_cases h : k < n
  · rw [if_pos h, if_pos (decide_eq_true h)]
  · rw [if_neg h, if_neg (by rw [decide_eq_false h]; decide)]
theorem stops_115 (hdn : dn ≤ 6) {d : Nat} (hd : d < 6) (e0 : u 0 = nI d) : pTaken dn n (nI d) = pStops g dn n 115 u := by
  show _ = (if cN (u 0) < dn then (if n = 8 then nI 14 else nI 0) else nI 13)
  unfold pTaken
  rw [e0, show cN (nI d) = d from nI_clamp (by omega), pNo_n (by omega) (by omega)]
  by_cases h : d < dn
  · rw [if_pos h, if_pos (decide_eq_true h)]
  · rw [if_neg h, if_neg (by rw [decide_eq_false h]; decide)]
theorem stops_110t {nd k : Nat} (hnd : nd < 3) (hk : k < 8) (e0 : u 0 = nI nd) (e1 : u 1 = nI k) (h : k < n) : pWhyNot g nd k = pStops g dn n 110 u := by
  show _ = (if cN (u 1) < n then pWhyNot g (cN (u 0)) (cN (u 1)) else nI 13)
  rw [e0, e1, show cN (nI k) = k from nI_clamp (by omega), show cN (nI nd) = nd from nI_clamp (by omega), if_pos h]
theorem stops_110f {k : Nat} (hk : k < 8) (e1 : u 1 = nI k) (h : ¬ k < n) : nI 13 = pStops g dn n 110 u := by
  show _ = (if cN (u 1) < n then pWhyNot g (cN (u 0)) (cN (u 1)) else nI 13)
  rw [e1, show cN (nI k) = k from nI_clamp (by omega), if_neg h]
theorem pStops_z {c : Nat} : pStops g dn n c u ≤ 0 ↔ pStops g dn n c u = 0 := by
  unfold pStops
  split
  · split
    · exact pWhyS_z
    · decide
  · split
    · split
      · split
        · decide
        · split <;> decide
      · decide
    · split
      · split
        · exact pWhyNot_z
        · decide
      · split
        · split
          · split <;> decide
          · decide
        · split
          · split
            · split <;> decide
            · decide
          · decide
end St
def dPost (ad : Nat → Nat) (M : Mem) (g : Nat → Int32) (dn n c : Nat) (u : Nat → Int32) : FPost := fun o M' => (pStops g dn n c u ≤ 0 ∧ o = .inl (some (.int (nI 0))) ∧ (∃ π, LabAt M' ad 0 (pDoes g n c u) dn (n + if c = 115 then 1 else 0) π) ∧ Off ad 0 31 M M') ∨ (¬ pStops g dn n c u ≤ 0 ∧ o = .inl (some (.int (pStops g dn n c u))) ∧ M' = M)
theorem tX8_whyNotDone_36 {l : Launch} {κ : KP} {M : Mem} {ad : Nat → Nat} {g u : Nat → Int32} {dn n : Nat} {π : Nat → Nat} (hA : aInj ad) (hX : M (ad 254) = some (.inl (7, [.ref (ad 0), .ref (ad 252), .ref (ad 248)]))) (h0 : LabAt M ad 0 g dn n π) (hI : BI g dn n) {d : Nat} (hd : d < 6) (e0 : u 0 = nI d) {y : Int32} : fM l κ mX8_whyNotDone [.ref (ad 254), .int (nI (36)), .int (nI (d)), .int (y)] M (isI (pStops g dn n 36 u) M) := by
  refine fM_of rfl (by decide +kernel) (Nat.le_of_ble_eq_true rfl) ?_
  obtain ⟨fD, hfD, hvD⟩ := h0.drs
  obtain ⟨fS, hfS, hvS⟩ := h0.sps
  obtain ⟨fN, hfN, hvN⟩ := h0.nds
  obtain ⟨fG, hfG, hvG⟩ := h0.dgs
  obtain ⟨fT, hfT, hvT⟩ := h0.sts
  have hdn := h0.dl
  have hn := h0.nl
  show fR l κ mX8_whyNotDone 0 [(0, .ref (ad 254)), (1, .int (nI (36))), (2, .int (nI (d))), (3, .int (y))] [] M 0 0 _
  refine r_iload_n dX8_whyNotDone_0 rfl ?_
  refine r_lookup (off := 105) (tgt := 106) dX8_whyNotDone_1 (by decide) (by decide) (by decide) ?_
  refine r_aload_n dX8_whyNotDone_106 rfl ?_
  refine r_get (k := 0) dX8_whyNotDone_107 hX rfl rfl (by decide) kX8_10F ?_
  refine r_iload_n dX8_whyNotDone_110 rfl ?_
  refine r_callS (As := [.ref (ad 0), .int (nI (d))]) dX8_whyNotDone_111 (tX7_whyNotSold h0 hI) rfl oX7_whyNotSold rfl kX8_118M sX7_whyNotSold (by unfold fRoom; decide) (Nat.le_of_ble_eq_true rfl) rfl (bc' := 0) (bs' := 0) rfl rfl ?_
  show fR _ _ _ 114 _ (.int ((pSoldv g dn n (nI d))) :: _) _ _ _ _
  exact fR_iret dX8_whyNotDone_114 rfl (isI_of (by exact stops_36 (by omega) hd e0))
theorem tX8_whyNotDone_98 {l : Launch} {κ : KP} {M : Mem} {ad : Nat → Nat} {g u : Nat → Int32} {dn n : Nat} {π : Nat → Nat} (hA : aInj ad) (hX : M (ad 254) = some (.inl (7, [.ref (ad 0), .ref (ad 252), .ref (ad 248)]))) (h0 : LabAt M ad 0 g dn n π) (hI : BI g dn n) {k : Nat} {b : Int32} (hk : k < 8) (e0 : u 0 = nI k) (e1 : u 1 = b) : fM l κ mX8_whyNotDone [.ref (ad 254), .int (nI (98)), .int (nI (k)), .int (b)] M (isI (pStops g dn n 98 u) M) := by
  refine fM_of rfl (by decide +kernel) (Nat.le_of_ble_eq_true rfl) ?_
  obtain ⟨fD, hfD, hvD⟩ := h0.drs
  obtain ⟨fS, hfS, hvS⟩ := h0.sps
  obtain ⟨fN, hfN, hvN⟩ := h0.nds
  obtain ⟨fG, hfG, hvG⟩ := h0.dgs
  obtain ⟨fT, hfT, hvT⟩ := h0.sts
  have hdn := h0.dl
  have hn := h0.nl
  show fR l κ mX8_whyNotDone 0 [(0, .ref (ad 254)), (1, .int (nI (98))), (2, .int (nI (k))), (3, .int (b))] [] M 0 0 _
  refine r_iload_n dX8_whyNotDone_0 rfl ?_
  refine r_lookup (off := 60) (tgt := 61) dX8_whyNotDone_1 (by decide) (by decide) (by decide) ?_
  refine r_aload_n dX8_whyNotDone_61 rfl ?_
  refine r_get (k := 0) dX8_whyNotDone_62 hX rfl rfl (by decide) kX8_10F ?_
  refine r_iload_n dX8_whyNotDone_65 rfl ?_
  refine r_iload_n dX8_whyNotDone_66 rfl ?_
  refine r_callV (As := [.int (nI (k)), .int (b)]) dX8_whyNotDone_67 (tX2_whyNotLaid h0 hI) rfl h0.lab rfl rfl oX2_whyNotLaid rfl kX8_69M nX2_whyNotLaid eX2_whyNotLaid (by unfold fRoom; decide) (Nat.le_of_ble_eq_true rfl) rfl (bc' := 0) (bs' := 0) rfl rfl ?_
  show fR _ _ _ 70 _ (.int ((pLaid g n (nI k) b)) :: _) _ _ _ _
  exact fR_iret dX8_whyNotDone_70 rfl (isI_of (by exact stops_98 (by omega) hk e0 e1))
theorem tX8_whyNotDone_110 {l : Launch} {κ : KP} {M : Mem} {ad : Nat → Nat} {g u : Nat → Int32} {dn n : Nat} {π : Nat → Nat} (hA : aInj ad) (hX : M (ad 254) = some (.inl (7, [.ref (ad 0), .ref (ad 252), .ref (ad 248)]))) (h0 : LabAt M ad 0 g dn n π) (hI : BI g dn n) {nd k : Nat} (hnd : nd < 3) (hk : k < 8) (e0 : u 0 = nI nd) (e1 : u 1 = nI k) : fM l κ mX8_whyNotDone [.ref (ad 254), .int (nI (110)), .int (nI (nd)), .int (nI (k))] M (isI (pStops g dn n 110 u) M) := by
  refine fM_of rfl (by decide +kernel) (Nat.le_of_ble_eq_true rfl) ?_
  obtain ⟨fD, hfD, hvD⟩ := h0.drs
  obtain ⟨fS, hfS, hvS⟩ := h0.sps
  obtain ⟨fN, hfN, hvN⟩ := h0.nds
  obtain ⟨fG, hfG, hvG⟩ := h0.dgs
  obtain ⟨fT, hfT, hvT⟩ := h0.sts
  have hdn := h0.dl
  have hn := h0.nl
  show fR l κ mX8_whyNotDone 0 [(0, .ref (ad 254)), (1, .int (nI (110))), (2, .int (nI (nd))), (3, .int (nI (k)))] [] M 0 0 _
  refine r_iload_n dX8_whyNotDone_0 rfl ?_
  refine r_lookup (off := 70) (tgt := 71) dX8_whyNotDone_1 (by decide) (by decide) (by decide) ?_
  refine r_aload_n dX8_whyNotDone_71 rfl ?_
  refine r_get (k := 0) dX8_whyNotDone_72 hX rfl rfl (by decide) kX8_10F ?_
  refine r_iload_n dX8_whyNotDone_75 rfl ?_
  refine r_callV (As := [.int (nI (k))]) dX8_whyNotDone_76 (tX2_hasSample h0 hI) rfl h0.lab rfl rfl oX2_hasSample rfl kX8_277M nX2_hasSample eX2_hasSample (by unfold fRoom; decide) (Nat.le_of_ble_eq_true rfl) rfl (bc' := 0) (bs' := 0) rfl rfl ?_
  show fR _ _ _ 79 _ (.int (bI (pNo (nI k) n)) :: _) _ _ _ _
  refine r_if_eqB (tgt := 94) dX8_whyNotDone_79 (by decide) (fun c1 => ?_) (fun c1 => ?_)
  · skip
    refine r_bipush (v := nI 13) dX8_whyNotDone_94 (by decide) ?_
    exact fR_iret dX8_whyNotDone_96 rfl (isI_of (stops_110f hk e1 (fun z => absurd ((pNo_n (by omega) (by omega)).trans (decide_eq_true z)) (bne_of (by assumption)))))
  · skip
    refine r_aload_n dX8_whyNotDone_82 rfl ?_
    refine r_get (k := 0) dX8_whyNotDone_83 hX rfl rfl (by decide) kX8_10F ?_
    refine r_iload_n dX8_whyNotDone_86 rfl ?_
    refine r_iload_n dX8_whyNotDone_87 rfl ?_
    have hkn : k < n := of_decide_eq_true ((pNo_n (by omega) (by omega)).symm.trans (by assumption))
    refine r_callV (As := [.int (nI (nd)), .int (nI (k))]) dX8_whyNotDone_88 (tX2_whyNotSunk h0 hI hnd hkn) rfl h0.lab rfl rfl oX2_whyNotSunk rfl kX8_87M nX2_whyNotSunk eX2_whyNotSunk (by unfold fRoom; decide) (Nat.le_of_ble_eq_true rfl) rfl (bc' := 0) (bs' := 0) rfl rfl ?_
    show fR _ _ _ 91 _ (.int (pWhyNot g nd k) :: _) _ _ _ _
    refine r_goto (tgt := 96) dX8_whyNotDone_91 (by decide) ?_
    exact fR_iret dX8_whyNotDone_96 rfl (isI_of (stops_110t hnd hk e0 e1 hkn))
theorem tX8_whyNotDone_111 {l : Launch} {κ : KP} {M : Mem} {ad : Nat → Nat} {g u : Nat → Int32} {dn n : Nat} {π : Nat → Nat} (hA : aInj ad) (hX : M (ad 254) = some (.inl (7, [.ref (ad 0), .ref (ad 252), .ref (ad 248)]))) (h0 : LabAt M ad 0 g dn n π) (hI : BI g dn n) {k : Nat} (hk : k < 8) (e0 : u 0 = nI k) {y : Int32} : fM l κ mX8_whyNotDone [.ref (ad 254), .int (nI (111)), .int (nI (k)), .int (y)] M (isI (pStops g dn n 111 u) M) := by
  refine fM_of rfl (by decide +kernel) (Nat.le_of_ble_eq_true rfl) ?_
  obtain ⟨fD, hfD, hvD⟩ := h0.drs
  obtain ⟨fS, hfS, hvS⟩ := h0.sps
  obtain ⟨fN, hfN, hvN⟩ := h0.nds
  obtain ⟨fG, hfG, hvG⟩ := h0.dgs
  obtain ⟨fT, hfT, hvT⟩ := h0.sts
  have hdn := h0.dl
  have hn := h0.nl
  show fR l κ mX8_whyNotDone 0 [(0, .ref (ad 254)), (1, .int (nI (111))), (2, .int (nI (k))), (3, .int (y))] [] M 0 0 _
  refine r_iload_n dX8_whyNotDone_0 rfl ?_
  refine r_lookup (off := 96) (tgt := 97) dX8_whyNotDone_1 (by decide) (by decide) (by decide) ?_
  refine r_aload_n dX8_whyNotDone_97 rfl ?_
  refine r_get (k := 0) dX8_whyNotDone_98 hX rfl rfl (by decide) kX8_10F ?_
  refine r_iload_n dX8_whyNotDone_101 rfl ?_
  refine r_callV (As := [.int (nI (k))]) dX8_whyNotDone_102 (tX2_whyNotSoftened h0 hI) rfl h0.lab rfl rfl oX2_whyNotSoftened rfl kX8_106M nX2_whyNotSoftened eX2_whyNotSoftened (by unfold fRoom; decide) (Nat.le_of_ble_eq_true rfl) rfl (bc' := 0) (bs' := 0) rfl rfl ?_
  show fR _ _ _ 105 _ (.int ((pSoftd g n (nI k))) :: _) _ _ _ _
  exact fR_iret dX8_whyNotDone_105 rfl (isI_of (by exact stops_111 (by omega) hk e0))
theorem tX8_whyNotDone_115 {l : Launch} {κ : KP} {M : Mem} {ad : Nat → Nat} {g u : Nat → Int32} {dn n : Nat} {π : Nat → Nat} (hA : aInj ad) (hX : M (ad 254) = some (.inl (7, [.ref (ad 0), .ref (ad 252), .ref (ad 248)]))) (h0 : LabAt M ad 0 g dn n π) (hI : BI g dn n) {d : Nat} (hd : d < 6) (e0 : u 0 = nI d) {y : Int32} : fM l κ mX8_whyNotDone [.ref (ad 254), .int (nI (115)), .int (nI (d)), .int (y)] M (isI (pStops g dn n 115 u) M) := by
  refine fM_of rfl (by decide +kernel) (Nat.le_of_ble_eq_true rfl) ?_
  obtain ⟨fD, hfD, hvD⟩ := h0.drs
  obtain ⟨fS, hfS, hvS⟩ := h0.sps
  obtain ⟨fN, hfN, hvN⟩ := h0.nds
  obtain ⟨fG, hfG, hvG⟩ := h0.dgs
  obtain ⟨fT, hfT, hvT⟩ := h0.sts
  have hdn := h0.dl
  have hn := h0.nl
  show fR l κ mX8_whyNotDone 0 [(0, .ref (ad 254)), (1, .int (nI (115))), (2, .int (nI (d))), (3, .int (y))] [] M 0 0 _
  refine r_iload_n dX8_whyNotDone_0 rfl ?_
  refine r_lookup (off := 51) (tgt := 52) dX8_whyNotDone_1 (by decide) (by decide) (by decide) ?_
  refine r_aload_n dX8_whyNotDone_52 rfl ?_
  refine r_get (k := 0) dX8_whyNotDone_53 hX rfl rfl (by decide) kX8_10F ?_
  refine r_iload_n dX8_whyNotDone_56 rfl ?_
  refine r_callV (As := [.int (nI (d))]) dX8_whyNotDone_57 (tX2_whyNotTaken h0 hI) rfl h0.lab rfl rfl oX2_whyNotTaken rfl kX8_53M nX2_whyNotTaken eX2_whyNotTaken (by unfold fRoom; decide) (Nat.le_of_ble_eq_true rfl) rfl (bc' := 0) (bs' := 0) rfl rfl ?_
  show fR _ _ _ 60 _ (.int ((pTaken dn n (nI d))) :: _) _ _ _ _
  exact fR_iret dX8_whyNotDone_60 rfl (isI_of (by exact stops_115 (by omega) hd e0))
theorem tX8_whyNotDone_43 {l : Launch} {κ : KP} {M : Mem} {ad : Nat → Nat} {g u : Nat → Int32} {dn n : Nat} {π : Nat → Nat} (hA : aInj ad) (hX : M (ad 254) = some (.inl (7, [.ref (ad 0), .ref (ad 252), .ref (ad 248)]))) (h0 : LabAt M ad 0 g dn n π) (hI : BI g dn n) {q : Nat} (hq : q ≤ 99) (e0 : u 0 = nI q) {y : Int32} : fM l κ mX8_whyNotDone [.ref (ad 254), .int (nI (43)), .int (nI (q)), .int (y)] M (isI (pStops g dn n 43 u) M) := by
  refine fM_of rfl (by decide +kernel) (Nat.le_of_ble_eq_true rfl) ?_
  obtain ⟨fD, hfD, hvD⟩ := h0.drs
  obtain ⟨fS, hfS, hvS⟩ := h0.sps
  obtain ⟨fN, hfN, hvN⟩ := h0.nds
  obtain ⟨fG, hfG, hvG⟩ := h0.dgs
  obtain ⟨fT, hfT, hvT⟩ := h0.sts
  have hdn := h0.dl
  have hn := h0.nl
  show fR l κ mX8_whyNotDone 0 [(0, .ref (ad 254)), (1, .int (nI (43))), (2, .int (nI (q))), (3, .int (y))] [] M 0 0 _
  refine r_iload_n dX8_whyNotDone_0 rfl ?_
  refine r_lookup (off := 114) (tgt := 115) dX8_whyNotDone_1 (by decide) (by decide) (by decide) ?_
  refine r_iconst (v := nI 0) dX8_whyNotDone_115 (by decide) ?_
  exact fR_iret dX8_whyNotDone_116 rfl (isI_of (by rfl))
theorem tX8_doPart_36 {l : Launch} {κ : KP} {M : Mem} {ad : Nat → Nat} {g u : Nat → Int32} {dn n : Nat} {π : Nat → Nat} (hA : aInj ad) (hX : M (ad 254) = some (.inl (7, [.ref (ad 0), .ref (ad 252), .ref (ad 248)]))) (h0 : LabAt M ad 0 g dn n π) (hI : BI g dn n) {d : Nat} (hd : d < 6) (e0 : u 0 = nI d) {j : Nat} {sl tk : Int32} {f : Nat → Int32} (hp : M (ad 250) = some (.inl (5, [.int (nI 36), .ref (kK κ j), .int sl, .int tk, .ref (ad 251)]))) (hf : M (ad 251) = some (.inr (0, 6, .inl f))) (f0 : f 0 = nI d) : fM l κ mX8_doPart [.ref (ad 254), .ref (ad 250)] M (dPost ad M g dn n 36 u) := by
  refine fM_of rfl (by decide +kernel) (Nat.le_of_ble_eq_true rfl) ?_
  obtain ⟨fD, hfD, hvD⟩ := h0.drs
  obtain ⟨fS, hfS, hvS⟩ := h0.sps
  obtain ⟨fN, hfN, hvN⟩ := h0.nds
  obtain ⟨fG, hfG, hvG⟩ := h0.dgs
  obtain ⟨fT, hfT, hvT⟩ := h0.sts
  have hdn := h0.dl
  have hn := h0.nl
  show fR l κ mX8_doPart 0 [(0, .ref (ad 254)), (1, .ref (ad 250))] [] M 0 0 _
  refine r_aload_n dX8_doPart_0 rfl ?_
  refine r_get (k := 4) dX8_doPart_1 hp rfl rfl (by decide) kX8_265F ?_
  refine r_iconst (v := nI 0) dX8_doPart_4 (by decide) ?_
  refine r_ialdN dX8_doPart_5 hf (by omega) (by decide) rfl ?_
  refine r_top (y := (nI (d))) f0 ?_
  refine r_istore_n (lv' := [(2, .int (nI (d))), (0, .ref (ad 254)), (1, .ref (ad 250))]) dX8_doPart_6 (by decide) rfl ?_
  refine r_aload_n dX8_doPart_7 rfl ?_
  refine r_get (k := 4) dX8_doPart_8 hp rfl rfl (by decide) kX8_265F ?_
  refine r_iconst (v := nI 1) dX8_doPart_11 (by decide) ?_
  refine r_ialdN dX8_doPart_12 hf (by omega) (by decide) rfl ?_
  refine r_istore_n (lv' := [(3, .int (f (1))), (2, .int (nI (d))), (0, .ref (ad 254)), (1, .ref (ad 250))]) dX8_doPart_13 (by decide) rfl ?_
  refine r_aload_n dX8_doPart_14 rfl ?_
  refine r_aload_n dX8_doPart_15 rfl ?_
  refine r_get (k := 0) dX8_doPart_16 hp rfl rfl (by decide) kX8_270F ?_
  refine r_iload_n dX8_doPart_19 rfl ?_
  refine r_iload_n dX8_doPart_20 rfl ?_
  refine r_callV (As := [.int (nI (36)), .int (nI (d)), .int (f (1))]) dX8_doPart_21 (tX8_whyNotDone_36 hA hX h0 hI hd e0) rfl hX rfl rfl oX8_whyNotDone rfl kX8_273M nX8_whyNotDone eX8_whyNotDone (by unfold fRoom; decide) (Nat.le_of_ble_eq_true rfl) rfl (bc' := 0) (bs' := 0) rfl rfl ?_
  show fR _ _ _ 24 _ (.int ((pStops g dn n 36 u)) :: _) _ _ _ _
  refine r_istore (lv' := [(4, .int ((pStops g dn n 36 u))), (3, .int (f (1))), (2, .int (nI (d))), (0, .ref (ad 254)), (1, .ref (ad 250))]) dX8_doPart_24 (by decide) rfl ?_
  refine r_iload dX8_doPart_26 rfl ?_
  refine r_if_eq (tgt := 34) dX8_doPart_28 (by decide) (fun c1 => ?_) (fun c1 => ?_)
  · skip
    have hst : pStops g dn n 36 u ≤ 0 := pStops_z.mpr (by assumption)
    have hsh := pStops_h hI hst
    have hsd := hsh.1 rfl
    rw [e0, show cN (nI d) = d from nI_clamp (by omega)] at hsd
    have hnum := pWhyS_0 hsd.2
    have hm : ¬ pMean g n d true = -1 := by rcases pMean_nI (d := d) (q := true) hI with ⟨a, -⟩ | ⟨y, hy, -, e⟩; omega; rw [if_pos rfl] at hy; rw [e]; exact nI_m1 (by omega)
    refine r_aload_n dX8_doPart_34 rfl ?_
    refine r_get (k := 0) dX8_doPart_35 hp rfl rfl (by decide) kX8_270F ?_
    refine r_lookup (off := 116) (tgt := 154) dX8_doPart_38 (by decide) (by decide) (by decide) ?_
    refine r_aload_n dX8_doPart_154 rfl ?_
    refine r_get (k := 0) dX8_doPart_155 hX rfl rfl (by decide) kX8_10F ?_
    refine r_iload_n dX8_doPart_158 rfl ?_
    refine r_callSP (As := [.ref (ad 0), .int (nI (d))]) dX8_doPart_159 (tX7_close hA (by omega) h0 hI hsd.1 hm) rfl oX7_close rfl kX8_124M sX7_close (by unfold fRoom; decide) (Nat.le_of_ble_eq_true rfl) rfl (bc' := 0) (bs' := 0) rfl rfl (fun E M9 h => by cases h.1) (fun v M2 hq => ?_)
    obtain ⟨hv2, hL2, hO2⟩ := hq
    cases hv2
    show fR _ _ _ 162 _ (.int ((pMean g n d true / nI 20)) :: _) _ _ _ _
    refine r_pop dX8_doPart_162 rfl ?_
    refine r_goto (tgt := 174) dX8_doPart_163 (by decide) ?_
    refine r_iconst (v := nI 0) dX8_doPart_174 (by decide) ?_
    have eD : pDoes g n 36 u = pSell g n d := by show pSell g n (cN (u 0)) = _; rw [e0, show cN (nI d) = d from nI_clamp (by omega)]
    exact fR_iret dX8_doPart_175 rfl (Or.inl ⟨hst, rfl, ⟨π, by rw [eD]; exact hL2⟩, hO2⟩)
  · skip
    refine r_iload dX8_doPart_31 rfl ?_
    exact fR_iret dX8_doPart_33 rfl (Or.inr ⟨fun z => by have := pStops_z.mp z; contradiction, rfl, rfl⟩)
theorem tX8_doPart_98 {l : Launch} {κ : KP} {M : Mem} {ad : Nat → Nat} {g u : Nat → Int32} {dn n : Nat} {π : Nat → Nat} (hA : aInj ad) (hX : M (ad 254) = some (.inl (7, [.ref (ad 0), .ref (ad 252), .ref (ad 248)]))) (h0 : LabAt M ad 0 g dn n π) (hI : BI g dn n) {k : Nat} {b : Int32} (hk : k < 8) (e0 : u 0 = nI k) (e1 : u 1 = b) {j : Nat} {sl tk : Int32} {f : Nat → Int32} (hp : M (ad 250) = some (.inl (5, [.int (nI 98), .ref (kK κ j), .int sl, .int tk, .ref (ad 251)]))) (hf : M (ad 251) = some (.inr (0, 6, .inl f))) (f0 : f 0 = nI k) (f1 : f 1 = b) : fM l κ mX8_doPart [.ref (ad 254), .ref (ad 250)] M (dPost ad M g dn n 98 u) := by
  refine fM_of rfl (by decide +kernel) (Nat.le_of_ble_eq_true rfl) ?_
  obtain ⟨fD, hfD, hvD⟩ := h0.drs
  obtain ⟨fS, hfS, hvS⟩ := h0.sps
  obtain ⟨fN, hfN, hvN⟩ := h0.nds
  obtain ⟨fG, hfG, hvG⟩ := h0.dgs
  obtain ⟨fT, hfT, hvT⟩ := h0.sts
  have hdn := h0.dl
  have hn := h0.nl
  show fR l κ mX8_doPart 0 [(0, .ref (ad 254)), (1, .ref (ad 250))] [] M 0 0 _
  refine r_aload_n dX8_doPart_0 rfl ?_
  refine r_get (k := 4) dX8_doPart_1 hp rfl rfl (by decide) kX8_265F ?_
  refine r_iconst (v := nI 0) dX8_doPart_4 (by decide) ?_
  refine r_ialdN dX8_doPart_5 hf (by omega) (by decide) rfl ?_
  refine r_top (y := (nI (k))) f0 ?_
  refine r_istore_n (lv' := [(2, .int (nI (k))), (0, .ref (ad 254)), (1, .ref (ad 250))]) dX8_doPart_6 (by decide) rfl ?_
  refine r_aload_n dX8_doPart_7 rfl ?_
  refine r_get (k := 4) dX8_doPart_8 hp rfl rfl (by decide) kX8_265F ?_
  refine r_iconst (v := nI 1) dX8_doPart_11 (by decide) ?_
  refine r_ialdN dX8_doPart_12 hf (by omega) (by decide) rfl ?_
  refine r_top (y := (b)) f1 ?_
  refine r_istore_n (lv' := [(3, .int (b)), (2, .int (nI (k))), (0, .ref (ad 254)), (1, .ref (ad 250))]) dX8_doPart_13 (by decide) rfl ?_
  refine r_aload_n dX8_doPart_14 rfl ?_
  refine r_aload_n dX8_doPart_15 rfl ?_
  refine r_get (k := 0) dX8_doPart_16 hp rfl rfl (by decide) kX8_270F ?_
  refine r_iload_n dX8_doPart_19 rfl ?_
  refine r_iload_n dX8_doPart_20 rfl ?_
  refine r_callV (As := [.int (nI (98)), .int (nI (k)), .int (b)]) dX8_doPart_21 (tX8_whyNotDone_98 hA hX h0 hI hk e0 e1) rfl hX rfl rfl oX8_whyNotDone rfl kX8_273M nX8_whyNotDone eX8_whyNotDone (by unfold fRoom; decide) (Nat.le_of_ble_eq_true rfl) rfl (bc' := 0) (bs' := 0) rfl rfl ?_
  show fR _ _ _ 24 _ (.int ((pStops g dn n 98 u)) :: _) _ _ _ _
  refine r_istore (lv' := [(4, .int ((pStops g dn n 98 u))), (3, .int (b)), (2, .int (nI (k))), (0, .ref (ad 254)), (1, .ref (ad 250))]) dX8_doPart_24 (by decide) rfl ?_
  refine r_iload dX8_doPart_26 rfl ?_
  refine r_if_eq (tgt := 34) dX8_doPart_28 (by decide) (fun c1 => ?_) (fun c1 => ?_)
  · skip
    have hst : pStops g dn n 98 u ≤ 0 := pStops_z.mpr (by assumption)
    have hsh := pStops_h hI hst
    have hkn := hsh.2.1 rfl
    rw [e0, show cN (nI k) = k from nI_clamp (by omega)] at hkn
    refine r_aload_n dX8_doPart_34 rfl ?_
    refine r_get (k := 0) dX8_doPart_35 hp rfl rfl (by decide) kX8_270F ?_
    refine r_lookup (off := 62) (tgt := 100) dX8_doPart_38 (by decide) (by decide) (by decide) ?_
    refine r_aload_n dX8_doPart_100 rfl ?_
    refine r_get (k := 0) dX8_doPart_101 hX rfl rfl (by decide) kX8_10F ?_
    refine r_iload_n dX8_doPart_104 rfl ?_
    refine r_iload_n dX8_doPart_105 rfl ?_
    refine r_callVP (As := [.int (nI (k)), .int (b)]) dX8_doPart_106 (tX2_lay hA (by omega) h0 hI hkn) rfl h0.lab rfl rfl oX2_lay rfl kX8_73M nX2_lay eX2_lay (by unfold fRoom; decide) (Nat.le_of_ble_eq_true rfl) rfl (bc' := 0) (bs' := 0) rfl rfl (fun E M9 h => by cases h.1) (fun v M2 hq => ?_)
    obtain ⟨hv2, hL2, hO2⟩ := hq
    cases hv2
    show fR _ _ _ 109 _ (.int (pOf g k 3) :: _) _ _ _ _
    refine r_pop dX8_doPart_109 rfl ?_
    refine r_goto (tgt := 174) dX8_doPart_110 (by decide) ?_
    refine r_iconst (v := nI 0) dX8_doPart_174 (by decide) ?_
    have eD : pDoes g n 98 u = upd g (40 + 42 * k + 3) b := by show upd g (40 + 42 * cN (u 0) + 3) (u 1) = _; rw [e0, e1, show cN (nI k) = k from nI_clamp (by omega)]
    exact fR_iret dX8_doPart_175 rfl (Or.inl ⟨hst, rfl, ⟨π, by rw [eD]; exact hL2⟩, hO2⟩)
  · skip
    refine r_iload dX8_doPart_31 rfl ?_
    exact fR_iret dX8_doPart_33 rfl (Or.inr ⟨fun z => by have := pStops_z.mp z; contradiction, rfl, rfl⟩)
theorem tX8_doPart_110 {l : Launch} {κ : KP} {M : Mem} {ad : Nat → Nat} {g u : Nat → Int32} {dn n : Nat} {π : Nat → Nat} (hA : aInj ad) (hX : M (ad 254) = some (.inl (7, [.ref (ad 0), .ref (ad 252), .ref (ad 248)]))) (h0 : LabAt M ad 0 g dn n π) (hI : BI g dn n) {nd k : Nat} (hnd : nd < 3) (hk : k < 8) (e0 : u 0 = nI nd) (e1 : u 1 = nI k) {j : Nat} {sl tk : Int32} {f : Nat → Int32} (hp : M (ad 250) = some (.inl (5, [.int (nI 110), .ref (kK κ j), .int sl, .int tk, .ref (ad 251)]))) (hf : M (ad 251) = some (.inr (0, 6, .inl f))) {w s : Nat} (hw : w ≤ 200) (hs : s ≤ 60) (e2 : u 2 = nI w) (e3 : u 3 = nI s) (f0 : f 0 = nI nd) (f1 : f 1 = nI k) (f3 : f 3 = nI w) (f5 : f 5 = nI s) : fM l κ mX8_doPart [.ref (ad 254), .ref (ad 250)] M (dPost ad M g dn n 110 u) := by
  refine fM_of rfl (by decide +kernel) (Nat.le_of_ble_eq_true rfl) ?_
  obtain ⟨fD, hfD, hvD⟩ := h0.drs
  obtain ⟨fS, hfS, hvS⟩ := h0.sps
  obtain ⟨fN, hfN, hvN⟩ := h0.nds
  obtain ⟨fG, hfG, hvG⟩ := h0.dgs
  obtain ⟨fT, hfT, hvT⟩ := h0.sts
  have hdn := h0.dl
  have hn := h0.nl
  show fR l κ mX8_doPart 0 [(0, .ref (ad 254)), (1, .ref (ad 250))] [] M 0 0 _
  refine r_aload_n dX8_doPart_0 rfl ?_
  refine r_get (k := 4) dX8_doPart_1 hp rfl rfl (by decide) kX8_265F ?_
  refine r_iconst (v := nI 0) dX8_doPart_4 (by decide) ?_
  refine r_ialdN dX8_doPart_5 hf (by omega) (by decide) rfl ?_
  refine r_top (y := (nI (nd))) f0 ?_
  refine r_istore_n (lv' := [(2, .int (nI (nd))), (0, .ref (ad 254)), (1, .ref (ad 250))]) dX8_doPart_6 (by decide) rfl ?_
  refine r_aload_n dX8_doPart_7 rfl ?_
  refine r_get (k := 4) dX8_doPart_8 hp rfl rfl (by decide) kX8_265F ?_
  refine r_iconst (v := nI 1) dX8_doPart_11 (by decide) ?_
  refine r_ialdN dX8_doPart_12 hf (by omega) (by decide) rfl ?_
  refine r_top (y := (nI (k))) f1 ?_
  refine r_istore_n (lv' := [(3, .int (nI (k))), (2, .int (nI (nd))), (0, .ref (ad 254)), (1, .ref (ad 250))]) dX8_doPart_13 (by decide) rfl ?_
  refine r_aload_n dX8_doPart_14 rfl ?_
  refine r_aload_n dX8_doPart_15 rfl ?_
  refine r_get (k := 0) dX8_doPart_16 hp rfl rfl (by decide) kX8_270F ?_
  refine r_iload_n dX8_doPart_19 rfl ?_
  refine r_iload_n dX8_doPart_20 rfl ?_
  refine r_callV (As := [.int (nI (110)), .int (nI (nd)), .int (nI (k))]) dX8_doPart_21 (tX8_whyNotDone_110 hA hX h0 hI hnd hk e0 e1) rfl hX rfl rfl oX8_whyNotDone rfl kX8_273M nX8_whyNotDone eX8_whyNotDone (by unfold fRoom; decide) (Nat.le_of_ble_eq_true rfl) rfl (bc' := 0) (bs' := 0) rfl rfl ?_
  show fR _ _ _ 24 _ (.int ((pStops g dn n 110 u)) :: _) _ _ _ _
  refine r_istore (lv' := [(4, .int ((pStops g dn n 110 u))), (3, .int (nI (k))), (2, .int (nI (nd))), (0, .ref (ad 254)), (1, .ref (ad 250))]) dX8_doPart_24 (by decide) rfl ?_
  refine r_iload dX8_doPart_26 rfl ?_
  refine r_if_eq (tgt := 34) dX8_doPart_28 (by decide) (fun c1 => ?_) (fun c1 => ?_)
  · skip
    have hst : pStops g dn n 110 u ≤ 0 := pStops_z.mpr (by assumption)
    have hsh := pStops_h hI hst
    have hsd := hsh.2.2.1 rfl
    rw [e1, show cN (nI k) = k from nI_clamp (by omega)] at hsd
    obtain ⟨hkn, h9⟩ := hsd
    refine r_aload_n dX8_doPart_34 rfl ?_
    refine r_get (k := 0) dX8_doPart_35 hp rfl rfl (by decide) kX8_270F ?_
    refine r_lookup (off := 75) (tgt := 113) dX8_doPart_38 (by decide) (by decide) (by decide) ?_
    refine r_aload_n dX8_doPart_113 rfl ?_
    refine r_get (k := 0) dX8_doPart_114 hX rfl rfl (by decide) kX8_10F ?_
    refine r_iload_n dX8_doPart_117 rfl ?_
    refine r_iload_n dX8_doPart_118 rfl ?_
    refine r_aload_n dX8_doPart_119 rfl ?_
    refine r_get (k := 4) dX8_doPart_120 hp rfl rfl (by decide) kX8_265F ?_
    refine r_iconst (v := nI 3) dX8_doPart_123 (by decide) ?_
    refine r_ialdN dX8_doPart_124 hf (by omega) (by decide) rfl ?_
    refine r_top (y := (nI (w))) f3 ?_
    refine r_aload_n dX8_doPart_125 rfl ?_
    refine r_get (k := 4) dX8_doPart_126 hp rfl rfl (by decide) kX8_265F ?_
    refine r_iconst (v := nI 5) dX8_doPart_129 (by decide) ?_
    refine r_ialdN dX8_doPart_130 hf (by omega) (by decide) rfl ?_
    refine r_top (y := (nI (s))) f5 ?_
    refine r_callVP (As := [.int (nI (nd)), .int (nI (k)), .int (nI (w)), .int (nI (s))]) dX8_doPart_131 (tX2_read hA (by omega) h0 hI hnd hkn h9 hw hs) rfl h0.lab rfl rfl oX2_read rfl kX8_90M nX2_read eX2_read (by unfold fRoom; decide) (Nat.le_of_ble_eq_true rfl) rfl (bc' := 0) (bs' := 0) rfl rfl (fun E M9 h => by cases h.1) (fun v M2 hq => ?_)
    obtain ⟨hv2, hL2, hO2⟩ := hq
    cases hv2
    show fR _ _ _ 134 _ (.int (pDep g nd k (nI w) (nI s)) :: _) _ _ _ _
    refine r_pop dX8_doPart_134 rfl ?_
    refine r_goto (tgt := 174) dX8_doPart_135 (by decide) ?_
    refine r_iconst (v := nI 0) dX8_doPart_174 (by decide) ?_
    have eD : pDoes g n 110 u = pSink g nd k (nI w) (nI s) := by show pSink g (cN (u 0)) (cN (u 1)) (u 2) (u 3) = _; rw [e0, e1, e2, e3, show cN (nI k) = k from nI_clamp (by omega), show cN (nI nd) = nd from nI_clamp (by omega)]
    exact fR_iret dX8_doPart_175 rfl (Or.inl ⟨hst, rfl, ⟨π, by rw [eD]; exact hL2⟩, hO2⟩)
  · skip
    refine r_iload dX8_doPart_31 rfl ?_
    exact fR_iret dX8_doPart_33 rfl (Or.inr ⟨fun z => by have := pStops_z.mp z; contradiction, rfl, rfl⟩)
theorem tX8_doPart_111 {l : Launch} {κ : KP} {M : Mem} {ad : Nat → Nat} {g u : Nat → Int32} {dn n : Nat} {π : Nat → Nat} (hA : aInj ad) (hX : M (ad 254) = some (.inl (7, [.ref (ad 0), .ref (ad 252), .ref (ad 248)]))) (h0 : LabAt M ad 0 g dn n π) (hI : BI g dn n) {k : Nat} (hk : k < 8) (e0 : u 0 = nI k) {j : Nat} {sl tk : Int32} {f : Nat → Int32} (hp : M (ad 250) = some (.inl (5, [.int (nI 111), .ref (kK κ j), .int sl, .int tk, .ref (ad 251)]))) (hf : M (ad 251) = some (.inr (0, 6, .inl f))) (f0 : f 0 = nI k) : fM l κ mX8_doPart [.ref (ad 254), .ref (ad 250)] M (dPost ad M g dn n 111 u) := by
  refine fM_of rfl (by decide +kernel) (Nat.le_of_ble_eq_true rfl) ?_
  obtain ⟨fD, hfD, hvD⟩ := h0.drs
  obtain ⟨fS, hfS, hvS⟩ := h0.sps
  obtain ⟨fN, hfN, hvN⟩ := h0.nds
  obtain ⟨fG, hfG, hvG⟩ := h0.dgs
  obtain ⟨fT, hfT, hvT⟩ := h0.sts
  have hdn := h0.dl
  have hn := h0.nl
  show fR l κ mX8_doPart 0 [(0, .ref (ad 254)), (1, .ref (ad 250))] [] M 0 0 _
  refine r_aload_n dX8_doPart_0 rfl ?_
  refine r_get (k := 4) dX8_doPart_1 hp rfl rfl (by decide) kX8_265F ?_
  refine r_iconst (v := nI 0) dX8_doPart_4 (by decide) ?_
  refine r_ialdN dX8_doPart_5 hf (by omega) (by decide) rfl ?_
  refine r_top (y := (nI (k))) f0 ?_
  refine r_istore_n (lv' := [(2, .int (nI (k))), (0, .ref (ad 254)), (1, .ref (ad 250))]) dX8_doPart_6 (by decide) rfl ?_
  refine r_aload_n dX8_doPart_7 rfl ?_
  refine r_get (k := 4) dX8_doPart_8 hp rfl rfl (by decide) kX8_265F ?_
  refine r_iconst (v := nI 1) dX8_doPart_11 (by decide) ?_
  refine r_ialdN dX8_doPart_12 hf (by omega) (by decide) rfl ?_
  refine r_istore_n (lv' := [(3, .int (f (1))), (2, .int (nI (k))), (0, .ref (ad 254)), (1, .ref (ad 250))]) dX8_doPart_13 (by decide) rfl ?_
  refine r_aload_n dX8_doPart_14 rfl ?_
  refine r_aload_n dX8_doPart_15 rfl ?_
  refine r_get (k := 0) dX8_doPart_16 hp rfl rfl (by decide) kX8_270F ?_
  refine r_iload_n dX8_doPart_19 rfl ?_
  refine r_iload_n dX8_doPart_20 rfl ?_
  refine r_callV (As := [.int (nI (111)), .int (nI (k)), .int (f (1))]) dX8_doPart_21 (tX8_whyNotDone_111 hA hX h0 hI hk e0) rfl hX rfl rfl oX8_whyNotDone rfl kX8_273M nX8_whyNotDone eX8_whyNotDone (by unfold fRoom; decide) (Nat.le_of_ble_eq_true rfl) rfl (bc' := 0) (bs' := 0) rfl rfl ?_
  show fR _ _ _ 24 _ (.int ((pStops g dn n 111 u)) :: _) _ _ _ _
  refine r_istore (lv' := [(4, .int ((pStops g dn n 111 u))), (3, .int (f (1))), (2, .int (nI (k))), (0, .ref (ad 254)), (1, .ref (ad 250))]) dX8_doPart_24 (by decide) rfl ?_
  refine r_iload dX8_doPart_26 rfl ?_
  refine r_if_eq (tgt := 34) dX8_doPart_28 (by decide) (fun c1 => ?_) (fun c1 => ?_)
  · skip
    have hst : pStops g dn n 111 u ≤ 0 := pStops_z.mpr (by assumption)
    have hsh := pStops_h hI hst
    have hkn := hsh.2.2.2.1 rfl
    rw [e0, show cN (nI k) = k from nI_clamp (by omega)] at hkn
    refine r_aload_n dX8_doPart_34 rfl ?_
    refine r_get (k := 0) dX8_doPart_35 hp rfl rfl (by decide) kX8_270F ?_
    refine r_lookup (off := 100) (tgt := 138) dX8_doPart_38 (by decide) (by decide) (by decide) ?_
    refine r_aload_n dX8_doPart_138 rfl ?_
    refine r_get (k := 0) dX8_doPart_139 hX rfl rfl (by decide) kX8_10F ?_
    refine r_get (k := 1) dX8_doPart_142 h0.lab rfl rfl (by decide) kX8_109F ?_
    refine r_iload_n dX8_doPart_145 rfl ?_
    refine r_aldqN dX8_doPart_146 hfS rfl (by omega) (by decide) (hvS _ (by omega)) ?_
    by_cases c2 : pOf g k 4 = -1
    · skip
      obtain ⟨e1, f9, e2, e3⟩ := h0.sp k hkn
      obtain ⟨hd, hhd, ehd⟩ := (hI.spok hkn).1
      have e5 := (hI.spok hkn).m5
      rw [ehd, e5] at e1
      have hL2 := W_soft hA (by omega) h0 hI hkn (b := cRing (nI hd) (nI (pMany g k)))
      rw [ehd, e5] at hL2
      have er : cRing (nI hd) (nI (pMany g k)) = pRingV g k := by rw [← ehd, ← e5]; exact cRing_eq
      have h4 : pOf g k 4 = -1 := c2
      refine r_callV (As := []) dX8_doPart_147 (tX6_soften_0 e1 h4) rfl e1 rfl rfl oX6_soften rfl kX8_113M nX6_soften eX6_soften (by unfold fRoom; decide) (Nat.le_of_ble_eq_true rfl) rfl (bc' := 0) (bs' := 0) rfl rfl ?_
      show fR _ _ _ 150 _ (.int (cRing (nI hd) (nI (pMany g k))) :: _) _ _ _ _
      refine r_pop dX8_doPart_150 rfl ?_
      refine r_goto (tgt := 174) dX8_doPart_151 (by decide) ?_
      refine r_iconst (v := nI 0) dX8_doPart_174 (by decide) ?_
      have eD : pDoes g n 111 u = pRing g k := by show pRing g (cN (u 0)) = _; rw [e0, show cN (nI k) = k from nI_clamp (by omega)]
      have eR : pRing g k = upd g (40 + 42 * k + 4) (cRing (nI hd) (nI (pMany g k))) := by rw [er]; exact if_pos h4
      rw [← eR, ← eD] at hL2
      have hp := h0.pl k (by omega)
      exact fR_iret dX8_doPart_175 rfl (Or.inl ⟨hst, rfl, ⟨π, hL2⟩, Off.upE (t := 12 + π k) (by omega) (by omega)⟩)
    · skip
      obtain ⟨e1, f9, e2, e3⟩ := h0.sp k hkn
      obtain ⟨hd, hhd, ehd⟩ := (hI.spok hkn).1
      have e5 := (hI.spok hkn).m5
      rw [ehd, e5] at e1
      have h4 : ¬ pOf g k 4 = -1 := c2
      refine r_callV (As := []) dX8_doPart_147 (tX6_soften_1 e1 h4) rfl e1 rfl rfl oX6_soften rfl kX8_113M nX6_soften eX6_soften (by unfold fRoom; decide) (Nat.le_of_ble_eq_true rfl) rfl (bc' := 0) (bs' := 0) rfl rfl ?_
      show fR _ _ _ 150 _ (.int (pOf g k 4) :: _) _ _ _ _
      refine r_pop dX8_doPart_150 rfl ?_
      refine r_goto (tgt := 174) dX8_doPart_151 (by decide) ?_
      refine r_iconst (v := nI 0) dX8_doPart_174 (by decide) ?_
      have eD : pDoes g n 111 u = pRing g k := by show pRing g (cN (u 0)) = _; rw [e0, show cN (nI k) = k from nI_clamp (by omega)]
      have eR : pRing g k = g := if_neg h4
      exact fR_iret dX8_doPart_175 rfl (Or.inl ⟨hst, rfl, ⟨π, by rw [eD, eR]; exact h0⟩, Off.refl⟩)
  · skip
    refine r_iload dX8_doPart_31 rfl ?_
    exact fR_iret dX8_doPart_33 rfl (Or.inr ⟨fun z => by have := pStops_z.mp z; contradiction, rfl, rfl⟩)
theorem tX8_doPart_115 {l : Launch} {κ : KP} {M : Mem} {ad : Nat → Nat} {g u : Nat → Int32} {dn n : Nat} {π : Nat → Nat} (hA : aInj ad) (hX : M (ad 254) = some (.inl (7, [.ref (ad 0), .ref (ad 252), .ref (ad 248)]))) (h0 : LabAt M ad 0 g dn n π) (hI : BI g dn n) {d : Nat} (hd : d < 6) (e0 : u 0 = nI d) {j : Nat} {sl tk : Int32} {f : Nat → Int32} (hp : M (ad 250) = some (.inl (5, [.int (nI 115), .ref (kK κ j), .int sl, .int tk, .ref (ad 251)]))) (hf : M (ad 251) = some (.inr (0, 6, .inl f))) (f0 : f 0 = nI d) : fM l κ mX8_doPart [.ref (ad 254), .ref (ad 250)] M (dPost ad M g dn n 115 u) := by
  refine fM_of rfl (by decide +kernel) (Nat.le_of_ble_eq_true rfl) ?_
  obtain ⟨fD, hfD, hvD⟩ := h0.drs
  obtain ⟨fS, hfS, hvS⟩ := h0.sps
  obtain ⟨fN, hfN, hvN⟩ := h0.nds
  obtain ⟨fG, hfG, hvG⟩ := h0.dgs
  obtain ⟨fT, hfT, hvT⟩ := h0.sts
  have hdn := h0.dl
  have hn := h0.nl
  show fR l κ mX8_doPart 0 [(0, .ref (ad 254)), (1, .ref (ad 250))] [] M 0 0 _
  refine r_aload_n dX8_doPart_0 rfl ?_
  refine r_get (k := 4) dX8_doPart_1 hp rfl rfl (by decide) kX8_265F ?_
  refine r_iconst (v := nI 0) dX8_doPart_4 (by decide) ?_
  refine r_ialdN dX8_doPart_5 hf (by omega) (by decide) rfl ?_
  refine r_top (y := (nI (d))) f0 ?_
  refine r_istore_n (lv' := [(2, .int (nI (d))), (0, .ref (ad 254)), (1, .ref (ad 250))]) dX8_doPart_6 (by decide) rfl ?_
  refine r_aload_n dX8_doPart_7 rfl ?_
  refine r_get (k := 4) dX8_doPart_8 hp rfl rfl (by decide) kX8_265F ?_
  refine r_iconst (v := nI 1) dX8_doPart_11 (by decide) ?_
  refine r_ialdN dX8_doPart_12 hf (by omega) (by decide) rfl ?_
  refine r_istore_n (lv' := [(3, .int (f (1))), (2, .int (nI (d))), (0, .ref (ad 254)), (1, .ref (ad 250))]) dX8_doPart_13 (by decide) rfl ?_
  refine r_aload_n dX8_doPart_14 rfl ?_
  refine r_aload_n dX8_doPart_15 rfl ?_
  refine r_get (k := 0) dX8_doPart_16 hp rfl rfl (by decide) kX8_270F ?_
  refine r_iload_n dX8_doPart_19 rfl ?_
  refine r_iload_n dX8_doPart_20 rfl ?_
  refine r_callV (As := [.int (nI (115)), .int (nI (d)), .int (f (1))]) dX8_doPart_21 (tX8_whyNotDone_115 hA hX h0 hI hd e0) rfl hX rfl rfl oX8_whyNotDone rfl kX8_273M nX8_whyNotDone eX8_whyNotDone (by unfold fRoom; decide) (Nat.le_of_ble_eq_true rfl) rfl (bc' := 0) (bs' := 0) rfl rfl ?_
  show fR _ _ _ 24 _ (.int ((pStops g dn n 115 u)) :: _) _ _ _ _
  refine r_istore (lv' := [(4, .int ((pStops g dn n 115 u))), (3, .int (f (1))), (2, .int (nI (d))), (0, .ref (ad 254)), (1, .ref (ad 250))]) dX8_doPart_24 (by decide) rfl ?_
  refine r_iload dX8_doPart_26 rfl ?_
  refine r_if_eq (tgt := 34) dX8_doPart_28 (by decide) (fun c1 => ?_) (fun c1 => ?_)
  · skip
    have hst : pStops g dn n 115 u ≤ 0 := pStops_z.mpr (by assumption)
    have hsh := pStops_h hI hst
    have hsd := hsh.2.2.2.2 rfl
    rw [e0, show cN (nI d) = d from nI_clamp (by omega)] at hsd
    refine r_aload_n dX8_doPart_34 rfl ?_
    refine r_get (k := 0) dX8_doPart_35 hp rfl rfl (by decide) kX8_270F ?_
    refine r_lookup (off := 50) (tgt := 88) dX8_doPart_38 (by decide) (by decide) (by decide) ?_
    refine r_aload_n dX8_doPart_88 rfl ?_
    refine r_get (k := 0) dX8_doPart_89 hX rfl rfl (by decide) kX8_10F ?_
    refine r_iload_n dX8_doPart_92 rfl ?_
    refine r_callVP (As := [.int (nI (d))]) dX8_doPart_93 (tX2_take hA (by omega) h0 hI hsd.2 hsd.1) rfl h0.lab rfl rfl oX2_take rfl kX8_56M nX2_take eX2_take (by unfold fRoom; decide) (Nat.le_of_ble_eq_true rfl) rfl (bc' := 0) (bs' := 0) rfl rfl (fun E M9 h => by cases h.1) (fun v M2 hq => ?_)
    obtain ⟨hv2, hL2, hO2⟩ := hq
    cases hv2
    show fR _ _ _ 96 _ (.int (nI (n)) :: _) _ _ _ _
    refine r_pop dX8_doPart_96 rfl ?_
    refine r_goto (tgt := 174) dX8_doPart_97 (by decide) ?_
    refine r_iconst (v := nI 0) dX8_doPart_174 (by decide) ?_
    have eD : pDoes g n 115 u = pTake g n d := by show pTake g n (cN (u 0)) = _; rw [e0, show cN (nI d) = d from nI_clamp (by omega)]
    exact fR_iret dX8_doPart_175 rfl (Or.inl ⟨hst, rfl, ⟨π, by rw [eD]; exact hL2⟩, hO2⟩)
  · skip
    refine r_iload dX8_doPart_31 rfl ?_
    exact fR_iret dX8_doPart_33 rfl (Or.inr ⟨fun z => by have := pStops_z.mp z; contradiction, rfl, rfl⟩)
theorem tX8_doPart_43 {l : Launch} {κ : KP} {M : Mem} {ad : Nat → Nat} {g u : Nat → Int32} {dn n : Nat} {π : Nat → Nat} (hA : aInj ad) (hX : M (ad 254) = some (.inl (7, [.ref (ad 0), .ref (ad 252), .ref (ad 248)]))) (h0 : LabAt M ad 0 g dn n π) (hI : BI g dn n) {q : Nat} (hq : q ≤ 99) (e0 : u 0 = nI q) {j : Nat} {sl tk : Int32} {f : Nat → Int32} (hp : M (ad 250) = some (.inl (5, [.int (nI 43), .ref (kK κ j), .int sl, .int tk, .ref (ad 251)]))) (hf : M (ad 251) = some (.inr (0, 6, .inl f))) (f0 : f 0 = nI q) : fM l κ mX8_doPart [.ref (ad 254), .ref (ad 250)] M (dPost ad M g dn n 43 u) := by
  refine fM_of rfl (by decide +kernel) (Nat.le_of_ble_eq_true rfl) ?_
  obtain ⟨fD, hfD, hvD⟩ := h0.drs
  obtain ⟨fS, hfS, hvS⟩ := h0.sps
  obtain ⟨fN, hfN, hvN⟩ := h0.nds
  obtain ⟨fG, hfG, hvG⟩ := h0.dgs
  obtain ⟨fT, hfT, hvT⟩ := h0.sts
  have hdn := h0.dl
  have hn := h0.nl
  show fR l κ mX8_doPart 0 [(0, .ref (ad 254)), (1, .ref (ad 250))] [] M 0 0 _
  refine r_aload_n dX8_doPart_0 rfl ?_
  refine r_get (k := 4) dX8_doPart_1 hp rfl rfl (by decide) kX8_265F ?_
  refine r_iconst (v := nI 0) dX8_doPart_4 (by decide) ?_
  refine r_ialdN dX8_doPart_5 hf (by omega) (by decide) rfl ?_
  refine r_top (y := (nI (q))) f0 ?_
  refine r_istore_n (lv' := [(2, .int (nI (q))), (0, .ref (ad 254)), (1, .ref (ad 250))]) dX8_doPart_6 (by decide) rfl ?_
  refine r_aload_n dX8_doPart_7 rfl ?_
  refine r_get (k := 4) dX8_doPart_8 hp rfl rfl (by decide) kX8_265F ?_
  refine r_iconst (v := nI 1) dX8_doPart_11 (by decide) ?_
  refine r_ialdN dX8_doPart_12 hf (by omega) (by decide) rfl ?_
  refine r_istore_n (lv' := [(3, .int (f (1))), (2, .int (nI (q))), (0, .ref (ad 254)), (1, .ref (ad 250))]) dX8_doPart_13 (by decide) rfl ?_
  refine r_aload_n dX8_doPart_14 rfl ?_
  refine r_aload_n dX8_doPart_15 rfl ?_
  refine r_get (k := 0) dX8_doPart_16 hp rfl rfl (by decide) kX8_270F ?_
  refine r_iload_n dX8_doPart_19 rfl ?_
  refine r_iload_n dX8_doPart_20 rfl ?_
  refine r_callV (As := [.int (nI (43)), .int (nI (q)), .int (f (1))]) dX8_doPart_21 (tX8_whyNotDone_43 hA hX h0 hI hq e0) rfl hX rfl rfl oX8_whyNotDone rfl kX8_273M nX8_whyNotDone eX8_whyNotDone (by unfold fRoom; decide) (Nat.le_of_ble_eq_true rfl) rfl (bc' := 0) (bs' := 0) rfl rfl ?_
  show fR _ _ _ 24 _ (.int ((pStops g dn n 43 u)) :: _) _ _ _ _
  refine r_istore (lv' := [(4, .int ((pStops g dn n 43 u))), (3, .int (f (1))), (2, .int (nI (q))), (0, .ref (ad 254)), (1, .ref (ad 250))]) dX8_doPart_24 (by decide) rfl ?_
  refine r_iload dX8_doPart_26 rfl ?_
  refine r_if_eq (tgt := 34) dX8_doPart_28 (by decide) (fun c1 => ?_) (fun c1 => ?_)
  · skip
    have hst : pStops g dn n 43 u ≤ 0 := pStops_z.mpr (by assumption)
    have hsh := pStops_h hI hst
    refine r_aload_n dX8_doPart_34 rfl ?_
    refine r_get (k := 0) dX8_doPart_35 hp rfl rfl (by decide) kX8_270F ?_
    refine r_lookup (off := 128) (tgt := 166) dX8_doPart_38 (by decide) (by decide) (by decide) ?_
    refine r_aload_n dX8_doPart_166 rfl ?_
    refine r_get (k := 0) dX8_doPart_167 hX rfl rfl (by decide) kX8_10F ?_
    refine r_iload_n dX8_doPart_170 rfl ?_
    refine r_callVP (As := [.int (nI (q))]) dX8_doPart_171 (tX2_pass hA (by omega) h0 hI hq) rfl h0.lab rfl rfl oX2_passMinutes rfl kX8_80M nX2_passMinutes eX2_passMinutes (by unfold fRoom; decide) (Nat.le_of_ble_eq_true rfl) rfl (bc' := 0) (bs' := 0) rfl rfl (fun E M9 h => by cases h.1) (fun v M2 hq => ?_)
    obtain ⟨hv2, hL2, hO2⟩ := hq
    cases hv2
    show fR _ _ _ 174 _ _ _ _ _ _
    refine r_iconst (v := nI 0) dX8_doPart_174 (by decide) ?_
    have eD : pDoes g n 43 u = pPassT g n q := by show pPassT g n (cN (u 0)) = _; rw [e0, show cN (nI q) = q from nI_clamp (by omega)]
    exact fR_iret dX8_doPart_175 rfl (Or.inl ⟨hst, rfl, ⟨π, by rw [eD]; exact hL2⟩, hO2⟩)
  · skip
    refine r_iload dX8_doPart_31 rfl ?_
    exact fR_iret dX8_doPart_33 rfl (Or.inr ⟨fun z => by have := pStops_z.mp z; contradiction, rfl, rfl⟩)
