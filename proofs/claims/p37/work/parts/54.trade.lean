/-! WHAT IS RECKONED OF A DRUM -/
theorem pPen_m1 {g : Nat → Int32} {k : Nat} (hO : SpOk g k) : pPen g k = -1 ↔ ¬ pWhy g k = 0 := by
  constructor
  · intro h h0
    have h3 := pWhy_many (pWhy_pos.2.mpr h0)
    have h9 := hO.m9
    have hy : ∀ a, a < 3 → ∃ y, y ≤ 400 ∧ pLat g k a 1 = nI y := fun a ha => (hO.2.2.2.2 (pMany g k - 1 - a) (by omega)).2
    obtain ⟨y0, l0, q0⟩ := hy 0 (by omega)
    obtain ⟨y1, l1, q1⟩ := hy 1 (by omega)
    obtain ⟨y2, l2, q2⟩ := hy 2 (by omega)
    unfold pPen at h
    rw [if_neg (fun q => pWhy_pos.1.mp q h0), q0, q1, q2, nI_add, nI_add, pk_div (by omega) (by omega) (by omega)] at h
    exact nI_m1 (by omega) h
  · intro h
    unfold pPen
    rw [if_pos (pWhy_pos.1.mpr h)]
theorem pPen_eq2 {g : Nat → Int32} {k : Nat} (hO : SpOk g k) (h : pWhy g k = 0) : pDiv (nI 0 + pOf g k (6 + ((pMany g k - 1) * 4 + 1)) + pOf g k (6 + ((pMany g k - (1 + 1)) * 4 + 1)) + pOf g k (6 + ((pMany g k - (1 + 1 + 1)) * 4 + 1))) (nI 3) = pPen g k := by
  rw [← pPen_eq hO h]
  have h3 := pWhy_many (pWhy_pos.2.mpr h)
  congr 1
  rw [show pMany g k - 3 + 1 + 1 = pMany g k - 1 by omega, show pMany g k - 3 + 1 = pMany g k - (1 + 1) by omega, show pMany g k - (1 + 1 + 1) = pMany g k - 3 by omega]
  ac_rfl
theorem pIs_v {g : Nat → Int32} {k d : Nat} : (if pOf g k 0 = nI d then pPen g k else -1) = -1 ↔ ¬ pIs g d true k := by
  by_cases h : pOf g k 0 = nI d
  · rw [if_pos h]
    constructor
    · intro h1 h2; exact h2.2 h1
    · intro h1
      by_cases h2 : pPen g k = -1
      · exact h2
      · exact absurd ⟨h, h2⟩ h1
  · rw [if_neg h]
    exact ⟨fun _ h2 => h h2.1, fun _ => rfl⟩
theorem pIs_st {g : Nat → Int32} {k d : Nat} (h1 : pOf g k 0 = nI d) (h2 : ¬ pOf g k 4 = -1) : pIs g d false k := ⟨h1, h2⟩
theorem pIs_sf1 {g : Nat → Int32} {k d : Nat} {q : Bool} (h1 : ¬ pOf g k 0 = nI d) : ¬ pIs g d q k := fun h => h1 h.1
theorem pIs_sf2 {g : Nat → Int32} {k d : Nat} (h1 : pOf g k 4 = -1) : ¬ pIs g d false k := fun h => h.2 h1
theorem pIs_pt {g : Nat → Int32} {k d : Nat} (hO : SpOk g k) (h1 : pOf g k 0 = nI d) (h2 : pWhy g k = 0) : pIs g d true k := ⟨h1, fun h => (pPen_m1 hO).mp h h2⟩
theorem pIs_pf {g : Nat → Int32} {k d : Nat} (hO : SpOk g k) (h2 : ¬ pWhy g k = 0) : ¬ pIs g d true k := fun h => h.2 ((pPen_m1 hO).mpr h2)
theorem pSum_t {g : Nat → Int32} {k d : Nat} {q : Bool} {v : Int32} (h : pIs g d q k) (hv : v = pTold g k q) : pSum g d q k + v = pSum g d q (k + 1) := by
  show _ = pSum g d q k + (if _ then _ else _)
  rw [if_pos h, hv]
theorem pSum_f {g : Nat → Int32} {k d : Nat} {q : Bool} (h : ¬ pIs g d q k) : pSum g d q k = pSum g d q (k + 1) := by
  show _ = pSum g d q k + (if _ then _ else _)
  rw [if_neg h]; exact (Int32.add_zero _).symm
theorem pNum_t {g : Nat → Int32} {k d : Nat} {q : Bool} (h : pIs g d q k) : pNum g d q k + 1 = pNum g d q (k + 1) := pCnt_t h
theorem pNum_f {g : Nat → Int32} {k d : Nat} {q : Bool} (h : ¬ pIs g d q k) : pNum g d q k = pNum g d q (k + 1) := pCnt_f h
theorem lX7_samplesOf {l : Launch} {κ : KP} {M : Mem} {ad : Nat → Nat} {c : Nat} {g : Nat → Int32} {dn n : Nat} {π : Nat → Nat} (hL : LabAt M ad c g dn n π) (hI : BI g dn n) {d : Nat} : ∀ (N k : Nat), n < N + k → k ≤ n → fR l κ mX7_samplesOf 4 [(3, .int (nI (k))), (2, .int (nI (pSamplesOf g d k))), (0, .ref (ad c)), (1, .int (nI (d)))] [] M 0 0 (isI (nI (pSamplesOf g d n)) M) := by
  obtain ⟨fD, hfD, hvD⟩ := hL.drs
  obtain ⟨fS, hfS, hvS⟩ := hL.sps
  obtain ⟨fN, hfN, hvN⟩ := hL.nds
  obtain ⟨fG, hfG, hvG⟩ := hL.dgs
  obtain ⟨fT, hfT, hvT⟩ := hL.sts
  have hdn := hL.dl
  have hn := hL.nl
  intro N
  induction N with
  | zero => intro k h1 h2; omega
  | succ N ih =>
    intro k h1 h2
    have hle : pSamplesOf g d k ≤ k := pCnt_le _ k
    refine r_iload_n dX7_samplesOf_4 rfl ?_
    refine r_aload_n dX7_samplesOf_5 rfl ?_
    refine r_get (k := 6) dX7_samplesOf_6 hL.lab rfl rfl (by decide) kX7_9F ?_
    refine r_icmp_geN (tgt := 34) dX7_samplesOf_9 (by decide) (by omega) (by omega) (fun c1 => ?_) (fun c1 => ?_)
    · skip
      have e : k = n := by omega
      rw [e]
      refine r_iload_n dX7_samplesOf_34 rfl ?_
      exact fR_iret dX7_samplesOf_35 rfl (isI_of (by rfl))
    · skip
      refine r_aload_n dX7_samplesOf_12 rfl ?_
      refine r_get (k := 1) dX7_samplesOf_13 hL.lab rfl rfl (by decide) kX7_15F ?_
      refine r_iload_n dX7_samplesOf_16 rfl ?_
      refine r_aldqN dX7_samplesOf_17 hfS rfl (by omega) (by decide) (hvS _ (by omega)) ?_
      refine r_get (k := 0) dX7_samplesOf_18 (hL.sp _ (by omega)).1 rfl rfl (by decide) kX7_19F ?_
      refine r_iload_n dX7_samplesOf_21 rfl ?_
      refine r_icmp_ne (tgt := 28) dX7_samplesOf_22 (by decide) (fun c2 => ?_) (fun c2 => ?_)
      · skip
        refine r_iinc (v := (nI (k + 1))) (lv' := [(3, .int (nI (k + 1))), (2, .int (nI (pSamplesOf g d k))), (0, .ref (ad c)), (1, .int (nI (d)))]) dX7_samplesOf_28 rfl (nI_inc _) (by decide) rfl ?_
        refine r_goto (tgt := 4) dX7_samplesOf_31 (by decide) ?_
        first | rw [show pSamplesOf g d k + 1 = pSamplesOf g d (k + 1) from pCnt_t (by assumption)] | rw [show pSamplesOf g d k = pSamplesOf g d (k + 1) from pCnt_f (by assumption)]
        exact ih (k + 1) (by omega) (by omega)
      · skip
        refine r_iinc (v := (nI (pSamplesOf g d k + 1))) (lv' := [(2, .int (nI (pSamplesOf g d k + 1))), (3, .int (nI (k))), (0, .ref (ad c)), (1, .int (nI (d)))]) dX7_samplesOf_25 rfl (nI_inc _) (by decide) rfl ?_
        refine r_iinc (v := (nI (k + 1))) (lv' := [(3, .int (nI (k + 1))), (2, .int (nI (pSamplesOf g d k + 1))), (0, .ref (ad c)), (1, .int (nI (d)))]) dX7_samplesOf_28 rfl (nI_inc _) (by decide) rfl ?_
        refine r_goto (tgt := 4) dX7_samplesOf_31 (by decide) ?_
        first | rw [show pSamplesOf g d k + 1 = pSamplesOf g d (k + 1) from pCnt_t (by assumption)] | rw [show pSamplesOf g d k = pSamplesOf g d (k + 1) from pCnt_f (by assumption)]
        exact ih (k + 1) (by omega) (by omega)
theorem tX7_samplesOf {l : Launch} {κ : KP} {M : Mem} {ad : Nat → Nat} {c : Nat} {g : Nat → Int32} {dn n : Nat} {π : Nat → Nat} (hL : LabAt M ad c g dn n π) (hI : BI g dn n) {d : Nat} : fM l κ mX7_samplesOf [.ref (ad c), .int (nI (d))] M (isI (nI (pSamplesOf g d n)) M) := by
  refine fM_of rfl (by decide +kernel) (Nat.le_of_ble_eq_true rfl) ?_
  obtain ⟨fD, hfD, hvD⟩ := hL.drs
  obtain ⟨fS, hfS, hvS⟩ := hL.sps
  obtain ⟨fN, hfN, hvN⟩ := hL.nds
  obtain ⟨fG, hfG, hvG⟩ := hL.dgs
  obtain ⟨fT, hfT, hvT⟩ := hL.sts
  have hdn := hL.dl
  have hn := hL.nl
  show fR l κ mX7_samplesOf 0 [(0, .ref (ad c)), (1, .int (nI (d)))] [] M 0 0 _
  refine r_iconst (v := nI 0) dX7_samplesOf_0 (by decide) ?_
  refine r_istore_n (lv' := [(2, .int (nI (0))), (0, .ref (ad c)), (1, .int (nI (d)))]) dX7_samplesOf_1 (by decide) rfl ?_
  refine r_iconst (v := nI 0) dX7_samplesOf_2 (by decide) ?_
  refine r_istore_n (lv' := [(3, .int (nI (0))), (2, .int (nI (0))), (0, .ref (ad c)), (1, .int (nI (d)))]) dX7_samplesOf_3 (by decide) rfl ?_
  exact lX7_samplesOf hL hI (n + 1) 0 (by omega) (by omega)
theorem lX7_meanPen {l : Launch} {κ : KP} {M : Mem} {ad : Nat → Nat} {c : Nat} {g : Nat → Int32} {dn n : Nat} {π : Nat → Nat} (hL : LabAt M ad c g dn n π) (hI : BI g dn n) {d : Nat} : ∀ (N k : Nat), n < N + k → k ≤ n → fR l κ mX7_meanPenetration 7 [(4, .int (nI (k))), (3, .int (nI (pNum g d true k))), (2, .int (pSum g d true k)), (0, .ref (ad c)), (1, .int (nI (d)))] [] M 0 0 (isI (pMean g n d true) M) := by
  obtain ⟨fD, hfD, hvD⟩ := hL.drs
  obtain ⟨fS, hfS, hvS⟩ := hL.sps
  obtain ⟨fN, hfN, hvN⟩ := hL.nds
  obtain ⟨fG, hfG, hvG⟩ := hL.dgs
  obtain ⟨fT, hfT, hvT⟩ := hL.sts
  have hdn := hL.dl
  have hn := hL.nl
  intro N
  induction N with
  | zero => intro k h1 h2; omega
  | succ N ih =>
    intro k h1 h2
    have hle : pNum g d true k ≤ k := pNum_le
    have hle2 : pNum g d true n ≤ n := pNum_le
    refine r_iload dX7_meanPenetration_7 rfl ?_
    refine r_aload_n dX7_meanPenetration_9 rfl ?_
    refine r_get (k := 6) dX7_meanPenetration_10 hL.lab rfl rfl (by decide) kX7_9F ?_
    refine r_icmp_geN (tgt := 71) dX7_meanPenetration_13 (by decide) (by omega) (by omega) (fun c1 => ?_) (fun c1 => ?_)
    · skip
      have e : k = n := by omega
      rw [e]
      obtain ⟨S, hS, eS⟩ := pSum_nI (d := d) (q := true) hI n (Nat.le_refl _)
      have hS : S ≤ 2100 * pNum g d true n := Nat.le_trans hS (Nat.mul_le_mul_right _ (by decide))
      rw [eS]
      refine r_iload_n dX7_meanPenetration_71 rfl ?_
      refine r_if_neN (tgt := 79) dX7_meanPenetration_72 (by decide) (by omega) (fun c2 => ?_) (fun c2 => ?_)
      · skip
        refine r_iload_n dX7_meanPenetration_79 rfl ?_
        refine r_iload_n dX7_meanPenetration_80 rfl ?_
        refine r_callSN (As := [.int (nI (S)), .int (nI (pNum g d true n))]) dX7_meanPenetration_81 (tX8_divided (by omega) (by omega) (by omega)) rfl oX8_divided rfl kX7_32M sX8_divided (by unfold fRoom; decide) (Nat.le_of_ble_eq_true rfl) (bc' := 0) (bs' := 0) rfl rfl ?_
        show fR _ _ _ 84 _ (.int (nI ((S / pNum g d true n))) :: _) _ _ _ _
        exact fR_iret dX7_meanPenetration_84 rfl (isI_of (by unfold pMean; first | rw [if_pos (by omega)] | (rw [if_neg (by omega), eS, pk_div (by omega) (by omega) (by omega)])))
      · skip
        refine r_iconst (v := (-1)) dX7_meanPenetration_75 (by decide) ?_
        refine r_goto (tgt := 84) dX7_meanPenetration_76 (by decide) ?_
        exact fR_iret dX7_meanPenetration_84 rfl (isI_of (by unfold pMean; first | rw [if_pos (by omega)] | (rw [if_neg (by omega), eS, pk_div (by omega) (by omega) (by omega)])))
    · skip
      refine r_aload_n dX7_meanPenetration_16 rfl ?_
      refine r_get (k := 1) dX7_meanPenetration_17 hL.lab rfl rfl (by decide) kX7_15F ?_
      refine r_iload dX7_meanPenetration_20 rfl ?_
      refine r_aldqN dX7_meanPenetration_22 hfS rfl (by omega) (by decide) (hvS _ (by omega)) ?_
      refine r_astore (lv' := [(5, .ref (ad (c + 12 + π (k)))), (4, .int (nI (k))), (3, .int (nI (pNum g d true k))), (2, .int (pSum g d true k)), (0, .ref (ad c)), (1, .int (nI (d)))]) dX7_meanPenetration_23 (by decide) rfl ?_
      have hJ3 : fR l κ mX7_meanPenetration 49 [(5, .ref (ad (c + 12 + π (k)))), (4, .int (nI (k))), (3, .int (nI (pNum g d true k))), (2, .int (pSum g d true k)), (0, .ref (ad c)), (1, .int (nI (d)))] [.int ((if pOf g k 0 = nI d then pPen g k else -1))] M 0 0 (isI (pMean g n d true) M) := by
        refine r_istore (lv' := [(6, .int ((if pOf g k 0 = nI d then pPen g k else -1))), (5, .ref (ad (c + 12 + π (k)))), (4, .int (nI (k))), (3, .int (nI (pNum g d true k))), (2, .int (pSum g d true k)), (0, .ref (ad c)), (1, .int (nI (d)))]) dX7_meanPenetration_49 (by decide) rfl ?_
        refine r_iload dX7_meanPenetration_51 rfl ?_
        refine r_iconst (v := (-1)) dX7_meanPenetration_53 (by decide) ?_
        refine r_icmp_eq (tgt := 65) dX7_meanPenetration_54 (by decide) (fun c4 => ?_) (fun c4 => ?_)
        · skip
          refine r_iinc (v := (nI (k + 1))) (lv' := [(4, .int (nI (k + 1))), (6, .int ((if pOf g k 0 = nI d then pPen g k else -1))), (5, .ref (ad (c + 12 + π (k)))), (3, .int (nI (pNum g d true k))), (2, .int (pSum g d true k)), (0, .ref (ad c)), (1, .int (nI (d)))]) dX7_meanPenetration_65 rfl (nI_inc _) (by decide) rfl ?_
          refine r_goto (tgt := 7) dX7_meanPenetration_68 (by decide) ?_
          refine r_lv (lv' := [(4, .int (nI (k + 1))), (3, .int (nI (pNum g d true k))), (2, .int (pSum g d true k)), (0, .ref (ad c)), (1, .int (nI (d)))]) (by simp) ?_
          first | rw [pSum_t (Decidable.not_not.mp (fun h => absurd (pIs_v.mpr h) (by assumption))) (show (if pOf g k 0 = nI d then pPen g k else -1) = pTold g k true from if_pos (Decidable.not_not.mp (fun h => absurd (pIs_v.mpr h) (by assumption))).1), pNum_t (Decidable.not_not.mp (fun h => absurd (pIs_v.mpr h) (by assumption)))] | rw [pSum_f (pIs_v.mp (by assumption)), pNum_f (pIs_v.mp (by assumption))]
          exact ih (k + 1) (by omega) (by omega)
        · skip
          refine r_iload_n dX7_meanPenetration_57 rfl ?_
          refine r_iload dX7_meanPenetration_58 rfl ?_
          refine r_iadd dX7_meanPenetration_60 ?_
          refine r_istore_n (lv' := [(2, .int (((pSum g d true k) + ((if pOf g k 0 = nI d then pPen g k else -1))))), (6, .int ((if pOf g k 0 = nI d then pPen g k else -1))), (5, .ref (ad (c + 12 + π (k)))), (4, .int (nI (k))), (3, .int (nI (pNum g d true k))), (0, .ref (ad c)), (1, .int (nI (d)))]) dX7_meanPenetration_61 (by decide) rfl ?_
          refine r_iinc (v := (nI (pNum g d true k + 1))) (lv' := [(3, .int (nI (pNum g d true k + 1))), (2, .int (((pSum g d true k) + ((if pOf g k 0 = nI d then pPen g k else -1))))), (6, .int ((if pOf g k 0 = nI d then pPen g k else -1))), (5, .ref (ad (c + 12 + π (k)))), (4, .int (nI (k))), (0, .ref (ad c)), (1, .int (nI (d)))]) dX7_meanPenetration_62 rfl (nI_inc _) (by decide) rfl ?_
          refine r_iinc (v := (nI (k + 1))) (lv' := [(4, .int (nI (k + 1))), (3, .int (nI (pNum g d true k + 1))), (2, .int (((pSum g d true k) + ((if pOf g k 0 = nI d then pPen g k else -1))))), (6, .int ((if pOf g k 0 = nI d then pPen g k else -1))), (5, .ref (ad (c + 12 + π (k)))), (0, .ref (ad c)), (1, .int (nI (d)))]) dX7_meanPenetration_65 rfl (nI_inc _) (by decide) rfl ?_
          refine r_goto (tgt := 7) dX7_meanPenetration_68 (by decide) ?_
          refine r_lv (lv' := [(4, .int (nI (k + 1))), (3, .int (nI (pNum g d true k + 1))), (2, .int (((pSum g d true k) + ((if pOf g k 0 = nI d then pPen g k else -1))))), (0, .ref (ad c)), (1, .int (nI (d)))]) (by simp) ?_
          first | rw [pSum_t (Decidable.not_not.mp (fun h => absurd (pIs_v.mpr h) (by assumption))) (show (if pOf g k 0 = nI d then pPen g k else -1) = pTold g k true from if_pos (Decidable.not_not.mp (fun h => absurd (pIs_v.mpr h) (by assumption))).1), pNum_t (Decidable.not_not.mp (fun h => absurd (pIs_v.mpr h) (by assumption)))] | rw [pSum_f (pIs_v.mp (by assumption)), pNum_f (pIs_v.mp (by assumption))]
          exact ih (k + 1) (by omega) (by omega)
      refine r_aload dX7_meanPenetration_25 rfl ?_
      refine r_get (k := 0) dX7_meanPenetration_27 (hL.sp _ (by omega)).1 rfl rfl (by decide) kX7_19F ?_
      refine r_iload_n dX7_meanPenetration_30 rfl ?_
      refine r_icmp_ne (tgt := 48) dX7_meanPenetration_31 (by decide) (fun c5 => ?_) (fun c5 => ?_)
      · skip
        refine r_iconst (v := (-1)) dX7_meanPenetration_48 (by decide) ?_
        exact r_top (by first | exact (if_pos (by assumption)).symm | exact (if_neg (by assumption)).symm) hJ3
      · skip
        refine r_aload dX7_meanPenetration_34 rfl ?_
        refine r_aload_n dX7_meanPenetration_36 rfl ?_
        refine r_get (k := 4) dX7_meanPenetration_37 hL.lab rfl rfl (by decide) kX7_24F ?_
        refine r_iconst (v := nI 1) dX7_meanPenetration_40 (by decide) ?_
        refine r_ialdN dX7_meanPenetration_41 hfT (by omega) (by decide) (hvT _ (by omega)) ?_
        refine r_callV (As := [.int (g (5 + (1)))]) dX7_meanPenetration_42 (tX6_pen (hL.sp _ (by omega)) (hI.spok (by omega)) rfl) rfl (hL.sp _ (by omega)).1 rfl rfl oX6_penetration rfl kX7_28M nX6_penetration eX6_penetration (by unfold fRoom; decide) (Nat.le_of_ble_eq_true rfl) rfl (bc' := 0) (bs' := 0) rfl rfl ?_
        show fR _ _ _ 45 _ (.int (pPen g k) :: _) _ _ _ _
        refine r_goto (tgt := 49) dX7_meanPenetration_45 (by decide) ?_
        exact r_top (by first | exact (if_pos (by assumption)).symm | exact (if_neg (by assumption)).symm) hJ3
theorem tX7_meanPen {l : Launch} {κ : KP} {M : Mem} {ad : Nat → Nat} {c : Nat} {g : Nat → Int32} {dn n : Nat} {π : Nat → Nat} (hL : LabAt M ad c g dn n π) (hI : BI g dn n) {d : Nat} : fM l κ mX7_meanPenetration [.ref (ad c), .int (nI (d))] M (isI (pMean g n d true) M) := by
  refine fM_of rfl (by decide +kernel) (Nat.le_of_ble_eq_true rfl) ?_
  obtain ⟨fD, hfD, hvD⟩ := hL.drs
  obtain ⟨fS, hfS, hvS⟩ := hL.sps
  obtain ⟨fN, hfN, hvN⟩ := hL.nds
  obtain ⟨fG, hfG, hvG⟩ := hL.dgs
  obtain ⟨fT, hfT, hvT⟩ := hL.sts
  have hdn := hL.dl
  have hn := hL.nl
  show fR l κ mX7_meanPenetration 0 [(0, .ref (ad c)), (1, .int (nI (d)))] [] M 0 0 _
  refine r_iconst (v := nI 0) dX7_meanPenetration_0 (by decide) ?_
  refine r_istore_n (lv' := [(2, .int (nI (0))), (0, .ref (ad c)), (1, .int (nI (d)))]) dX7_meanPenetration_1 (by decide) rfl ?_
  refine r_iconst (v := nI 0) dX7_meanPenetration_2 (by decide) ?_
  refine r_istore_n (lv' := [(3, .int (nI (0))), (2, .int (nI (0))), (0, .ref (ad c)), (1, .int (nI (d)))]) dX7_meanPenetration_3 (by decide) rfl ?_
  refine r_iconst (v := nI 0) dX7_meanPenetration_4 (by decide) ?_
  refine r_istore (lv' := [(4, .int (nI (0))), (3, .int (nI (0))), (2, .int (nI (0))), (0, .ref (ad c)), (1, .int (nI (d)))]) dX7_meanPenetration_5 (by decide) rfl ?_
  exact lX7_meanPen hL hI (n + 1) 0 (by omega) (by omega)
theorem lX7_meanSoft {l : Launch} {κ : KP} {M : Mem} {ad : Nat → Nat} {c : Nat} {g : Nat → Int32} {dn n : Nat} {π : Nat → Nat} (hL : LabAt M ad c g dn n π) (hI : BI g dn n) {d : Nat} : ∀ (N k : Nat), n < N + k → k ≤ n → fR l κ mX7_meanSoftening 7 [(4, .int (nI (k))), (3, .int (nI (pNum g d false k))), (2, .int (pSum g d false k)), (0, .ref (ad c)), (1, .int (nI (d)))] [] M 0 0 (isI (pMean g n d false) M) := by
  obtain ⟨fD, hfD, hvD⟩ := hL.drs
  obtain ⟨fS, hfS, hvS⟩ := hL.sps
  obtain ⟨fN, hfN, hvN⟩ := hL.nds
  obtain ⟨fG, hfG, hvG⟩ := hL.dgs
  obtain ⟨fT, hfT, hvT⟩ := hL.sts
  have hdn := hL.dl
  have hn := hL.nl
  intro N
  induction N with
  | zero => intro k h1 h2; omega
  | succ N ih =>
    intro k h1 h2
    have hle : pNum g d false k ≤ k := pNum_le
    have hle2 : pNum g d false n ≤ n := pNum_le
    refine r_iload dX7_meanSoftening_7 rfl ?_
    refine r_aload_n dX7_meanSoftening_9 rfl ?_
    refine r_get (k := 6) dX7_meanSoftening_10 hL.lab rfl rfl (by decide) kX7_9F ?_
    refine r_icmp_geN (tgt := 60) dX7_meanSoftening_13 (by decide) (by omega) (by omega) (fun c1 => ?_) (fun c1 => ?_)
    · skip
      have e : k = n := by omega
      rw [e]
      obtain ⟨S, hS, eS⟩ := pSum_nI (d := d) (q := false) hI n (Nat.le_refl _)
      have hS : S ≤ 2100 * pNum g d false n := Nat.le_trans hS (Nat.mul_le_mul_right _ (by decide))
      rw [eS]
      refine r_iload_n dX7_meanSoftening_60 rfl ?_
      refine r_if_neN (tgt := 68) dX7_meanSoftening_61 (by decide) (by omega) (fun c2 => ?_) (fun c2 => ?_)
      · skip
        refine r_iload_n dX7_meanSoftening_68 rfl ?_
        refine r_iload_n dX7_meanSoftening_69 rfl ?_
        refine r_callSN (As := [.int (nI (S)), .int (nI (pNum g d false n))]) dX7_meanSoftening_70 (tX8_divided (by omega) (by omega) (by omega)) rfl oX8_divided rfl kX7_32M sX8_divided (by unfold fRoom; decide) (Nat.le_of_ble_eq_true rfl) (bc' := 0) (bs' := 0) rfl rfl ?_
        show fR _ _ _ 73 _ (.int (nI ((S / pNum g d false n))) :: _) _ _ _ _
        exact fR_iret dX7_meanSoftening_73 rfl (isI_of (by unfold pMean; first | rw [if_pos (by omega)] | (rw [if_neg (by omega), eS, pk_div (by omega) (by omega) (by omega)])))
      · skip
        refine r_iconst (v := (-1)) dX7_meanSoftening_64 (by decide) ?_
        refine r_goto (tgt := 73) dX7_meanSoftening_65 (by decide) ?_
        exact fR_iret dX7_meanSoftening_73 rfl (isI_of (by unfold pMean; first | rw [if_pos (by omega)] | (rw [if_neg (by omega), eS, pk_div (by omega) (by omega) (by omega)])))
    · skip
      refine r_aload_n dX7_meanSoftening_16 rfl ?_
      refine r_get (k := 1) dX7_meanSoftening_17 hL.lab rfl rfl (by decide) kX7_15F ?_
      refine r_iload dX7_meanSoftening_20 rfl ?_
      refine r_aldqN dX7_meanSoftening_22 hfS rfl (by omega) (by decide) (hvS _ (by omega)) ?_
      refine r_astore (lv' := [(5, .ref (ad (c + 12 + π (k)))), (4, .int (nI (k))), (3, .int (nI (pNum g d false k))), (2, .int (pSum g d false k)), (0, .ref (ad c)), (1, .int (nI (d)))]) dX7_meanSoftening_23 (by decide) rfl ?_
      refine r_aload dX7_meanSoftening_25 rfl ?_
      refine r_get (k := 0) dX7_meanSoftening_27 (hL.sp _ (by omega)).1 rfl rfl (by decide) kX7_19F ?_
      refine r_iload_n dX7_meanSoftening_30 rfl ?_
      refine r_icmp_ne (tgt := 54) dX7_meanSoftening_31 (by decide) (fun c3 => ?_) (fun c3 => ?_)
      · skip
        refine r_iinc (v := (nI (k + 1))) (lv' := [(4, .int (nI (k + 1))), (5, .ref (ad (c + 12 + π (k)))), (3, .int (nI (pNum g d false k))), (2, .int (pSum g d false k)), (0, .ref (ad c)), (1, .int (nI (d)))]) dX7_meanSoftening_54 rfl (nI_inc _) (by decide) rfl ?_
        refine r_goto (tgt := 7) dX7_meanSoftening_57 (by decide) ?_
        refine r_lv (lv' := [(4, .int (nI (k + 1))), (3, .int (nI (pNum g d false k))), (2, .int (pSum g d false k)), (0, .ref (ad c)), (1, .int (nI (d)))]) (by simp) ?_
        have hp : ¬ pIs g d false k := pIs_sf1 (by assumption)
        rw [pSum_f hp, pNum_f hp]
        exact ih (k + 1) (by omega) (by omega)
      · skip
        refine r_aload dX7_meanSoftening_34 rfl ?_
        refine r_get (k := 4) dX7_meanSoftening_36 (hL.sp _ (by omega)).1 rfl rfl (by decide) kX7_36F ?_
        refine r_iconst (v := (-1)) dX7_meanSoftening_39 (by decide) ?_
        refine r_icmp_eq (tgt := 54) dX7_meanSoftening_40 (by decide) (fun c4 => ?_) (fun c4 => ?_)
        · skip
          refine r_iinc (v := (nI (k + 1))) (lv' := [(4, .int (nI (k + 1))), (5, .ref (ad (c + 12 + π (k)))), (3, .int (nI (pNum g d false k))), (2, .int (pSum g d false k)), (0, .ref (ad c)), (1, .int (nI (d)))]) dX7_meanSoftening_54 rfl (nI_inc _) (by decide) rfl ?_
          refine r_goto (tgt := 7) dX7_meanSoftening_57 (by decide) ?_
          refine r_lv (lv' := [(4, .int (nI (k + 1))), (3, .int (nI (pNum g d false k))), (2, .int (pSum g d false k)), (0, .ref (ad c)), (1, .int (nI (d)))]) (by simp) ?_
          have hp : ¬ pIs g d false k := pIs_sf2 (by assumption)
          rw [pSum_f hp, pNum_f hp]
          exact ih (k + 1) (by omega) (by omega)
        · skip
          refine r_iload_n dX7_meanSoftening_43 rfl ?_
          refine r_aload dX7_meanSoftening_44 rfl ?_
          refine r_get (k := 4) dX7_meanSoftening_46 (hL.sp _ (by omega)).1 rfl rfl (by decide) kX7_36F ?_
          refine r_iadd dX7_meanSoftening_49 ?_
          refine r_istore_n (lv' := [(2, .int (((pSum g d false k) + (pOf g (k) 4)))), (5, .ref (ad (c + 12 + π (k)))), (4, .int (nI (k))), (3, .int (nI (pNum g d false k))), (0, .ref (ad c)), (1, .int (nI (d)))]) dX7_meanSoftening_50 (by decide) rfl ?_
          refine r_iinc (v := (nI (pNum g d false k + 1))) (lv' := [(3, .int (nI (pNum g d false k + 1))), (2, .int (((pSum g d false k) + (pOf g (k) 4)))), (5, .ref (ad (c + 12 + π (k)))), (4, .int (nI (k))), (0, .ref (ad c)), (1, .int (nI (d)))]) dX7_meanSoftening_51 rfl (nI_inc _) (by decide) rfl ?_
          refine r_iinc (v := (nI (k + 1))) (lv' := [(4, .int (nI (k + 1))), (3, .int (nI (pNum g d false k + 1))), (2, .int (((pSum g d false k) + (pOf g (k) 4)))), (5, .ref (ad (c + 12 + π (k)))), (0, .ref (ad c)), (1, .int (nI (d)))]) dX7_meanSoftening_54 rfl (nI_inc _) (by decide) rfl ?_
          refine r_goto (tgt := 7) dX7_meanSoftening_57 (by decide) ?_
          refine r_lv (lv' := [(4, .int (nI (k + 1))), (3, .int (nI (pNum g d false k + 1))), (2, .int (((pSum g d false k) + (pOf g (k) 4)))), (0, .ref (ad c)), (1, .int (nI (d)))]) (by simp) ?_
          have hp : pIs g d false k := pIs_st (by assumption) (by assumption)
          rw [pSum_t (v := pOf g k 4) hp rfl, pNum_t hp]
          exact ih (k + 1) (by omega) (by omega)
theorem tX7_meanSoft {l : Launch} {κ : KP} {M : Mem} {ad : Nat → Nat} {c : Nat} {g : Nat → Int32} {dn n : Nat} {π : Nat → Nat} (hL : LabAt M ad c g dn n π) (hI : BI g dn n) {d : Nat} : fM l κ mX7_meanSoftening [.ref (ad c), .int (nI (d))] M (isI (pMean g n d false) M) := by
  refine fM_of rfl (by decide +kernel) (Nat.le_of_ble_eq_true rfl) ?_
  obtain ⟨fD, hfD, hvD⟩ := hL.drs
  obtain ⟨fS, hfS, hvS⟩ := hL.sps
  obtain ⟨fN, hfN, hvN⟩ := hL.nds
  obtain ⟨fG, hfG, hvG⟩ := hL.dgs
  obtain ⟨fT, hfT, hvT⟩ := hL.sts
  have hdn := hL.dl
  have hn := hL.nl
  show fR l κ mX7_meanSoftening 0 [(0, .ref (ad c)), (1, .int (nI (d)))] [] M 0 0 _
  refine r_iconst (v := nI 0) dX7_meanSoftening_0 (by decide) ?_
  refine r_istore_n (lv' := [(2, .int (nI (0))), (0, .ref (ad c)), (1, .int (nI (d)))]) dX7_meanSoftening_1 (by decide) rfl ?_
  refine r_iconst (v := nI 0) dX7_meanSoftening_2 (by decide) ?_
  refine r_istore_n (lv' := [(3, .int (nI (0))), (2, .int (nI (0))), (0, .ref (ad c)), (1, .int (nI (d)))]) dX7_meanSoftening_3 (by decide) rfl ?_
  refine r_iconst (v := nI 0) dX7_meanSoftening_4 (by decide) ?_
  refine r_istore (lv' := [(4, .int (nI (0))), (3, .int (nI (0))), (2, .int (nI (0))), (0, .ref (ad c)), (1, .int (nI (d)))]) dX7_meanSoftening_5 (by decide) rfl ?_
  exact lX7_meanSoft hL hI (n + 1) 0 (by omega) (by omega)
theorem lX7_meanBy {l : Launch} {κ : KP} {M : Mem} {ad : Nat → Nat} {c : Nat} {g : Nat → Int32} {dn n : Nat} {π : Nat → Nat} (hL : LabAt M ad c g dn n π) (hI : BI g dn n) {d : Nat} : ∀ (N k : Nat), n < N + k → k ≤ n → fR l κ mX7_meanByReadings 7 [(4, .int (nI (k))), (3, .int (nI (pNum g d true k))), (2, .int (pSum g d true k)), (0, .ref (ad c)), (1, .int (nI (d)))] [] M 0 0 (isI (pMean g n d true) M) := by
  obtain ⟨fD, hfD, hvD⟩ := hL.drs
  obtain ⟨fS, hfS, hvS⟩ := hL.sps
  obtain ⟨fN, hfN, hvN⟩ := hL.nds
  obtain ⟨fG, hfG, hvG⟩ := hL.dgs
  obtain ⟨fT, hfT, hvT⟩ := hL.sts
  have hdn := hL.dl
  have hn := hL.nl
  intro N
  induction N with
  | zero => intro k h1 h2; omega
  | succ N ih =>
    intro k h1 h2
    have hle : pNum g d true k ≤ k := pNum_le
    have hle2 : pNum g d true n ≤ n := pNum_le
    refine r_iload dX7_meanByReadings_7 rfl ?_
    refine r_aload_n dX7_meanByReadings_9 rfl ?_
    refine r_get (k := 6) dX7_meanByReadings_10 hL.lab rfl rfl (by decide) kX7_9F ?_
    refine r_icmp_geN (tgt := 106) dX7_meanByReadings_13 (by decide) (by omega) (by omega) (fun c1 => ?_) (fun c1 => ?_)
    · skip
      have e : k = n := by omega
      rw [e]
      obtain ⟨S, hS, eS⟩ := pSum_nI (d := d) (q := true) hI n (Nat.le_refl _)
      have hS : S ≤ 2100 * pNum g d true n := Nat.le_trans hS (Nat.mul_le_mul_right _ (by decide))
      rw [eS]
      refine r_iload_n dX7_meanByReadings_106 rfl ?_
      refine r_if_neN (tgt := 114) dX7_meanByReadings_107 (by decide) (by omega) (fun c2 => ?_) (fun c2 => ?_)
      · skip
        refine r_iload_n dX7_meanByReadings_114 rfl ?_
        refine r_iload_n dX7_meanByReadings_115 rfl ?_
        refine r_callSN (As := [.int (nI (S)), .int (nI (pNum g d true n))]) dX7_meanByReadings_116 (tX8_divided (by omega) (by omega) (by omega)) rfl oX8_divided rfl kX7_32M sX8_divided (by unfold fRoom; decide) (Nat.le_of_ble_eq_true rfl) (bc' := 0) (bs' := 0) rfl rfl ?_
        show fR _ _ _ 119 _ (.int (nI ((S / pNum g d true n))) :: _) _ _ _ _
        exact fR_iret dX7_meanByReadings_119 rfl (isI_of (by unfold pMean; first | rw [if_pos (by omega)] | (rw [if_neg (by omega), eS, pk_div (by omega) (by omega) (by omega)])))
      · skip
        refine r_iconst (v := (-1)) dX7_meanByReadings_110 (by decide) ?_
        refine r_goto (tgt := 119) dX7_meanByReadings_111 (by decide) ?_
        exact fR_iret dX7_meanByReadings_119 rfl (isI_of (by unfold pMean; first | rw [if_pos (by omega)] | (rw [if_neg (by omega), eS, pk_div (by omega) (by omega) (by omega)])))
    · skip
      refine r_aload_n dX7_meanByReadings_16 rfl ?_
      refine r_get (k := 1) dX7_meanByReadings_17 hL.lab rfl rfl (by decide) kX7_15F ?_
      refine r_iload dX7_meanByReadings_20 rfl ?_
      refine r_aldqN dX7_meanByReadings_22 hfS rfl (by omega) (by decide) (hvS _ (by omega)) ?_
      refine r_astore (lv' := [(5, .ref (ad (c + 12 + π (k)))), (4, .int (nI (k))), (3, .int (nI (pNum g d true k))), (2, .int (pSum g d true k)), (0, .ref (ad c)), (1, .int (nI (d)))]) dX7_meanByReadings_23 (by decide) rfl ?_
      refine r_aload dX7_meanByReadings_25 rfl ?_
      refine r_get (k := 0) dX7_meanByReadings_27 (hL.sp _ (by omega)).1 rfl rfl (by decide) kX7_19F ?_
      refine r_iload_n dX7_meanByReadings_30 rfl ?_
      refine r_icmp_ne (tgt := 100) dX7_meanByReadings_31 (by decide) (fun c3 => ?_) (fun c3 => ?_)
      · skip
        refine r_iinc (v := (nI (k + 1))) (lv' := [(4, .int (nI (k + 1))), (5, .ref (ad (c + 12 + π (k)))), (3, .int (nI (pNum g d true k))), (2, .int (pSum g d true k)), (0, .ref (ad c)), (1, .int (nI (d)))]) dX7_meanByReadings_100 rfl (nI_inc _) (by decide) rfl ?_
        refine r_goto (tgt := 7) dX7_meanByReadings_103 (by decide) ?_
        refine r_lv (lv' := [(4, .int (nI (k + 1))), (3, .int (nI (pNum g d true k))), (2, .int (pSum g d true k)), (0, .ref (ad c)), (1, .int (nI (d)))]) (by simp) ?_
        have hp : ¬ pIs g d true k := pIs_sf1 (by assumption)
        rw [pSum_f hp, pNum_f hp]
        exact ih (k + 1) (by omega) (by omega)
      · skip
        refine r_aload dX7_meanByReadings_34 rfl ?_
        refine r_aload_n dX7_meanByReadings_36 rfl ?_
        refine r_get (k := 4) dX7_meanByReadings_37 hL.lab rfl rfl (by decide) kX7_24F ?_
        refine r_iconst (v := nI 1) dX7_meanByReadings_40 (by decide) ?_
        refine r_ialdN dX7_meanByReadings_41 hfT (by omega) (by decide) (hvT _ (by omega)) ?_
        refine r_callV (As := [.int (g (5 + (1)))]) dX7_meanByReadings_42 (tX6_why (hL.sp _ (by omega)) (hI.spok (by omega)) rfl) rfl (hL.sp _ (by omega)).1 rfl rfl oX6_whyNoPenetration rfl kX7_39M nX6_whyNoPenetration eX6_whyNoPenetration (by unfold fRoom; decide) (Nat.le_of_ble_eq_true rfl) rfl (bc' := 0) (bs' := 0) rfl rfl ?_
        show fR _ _ _ 45 _ (.int (pWhy g k) :: _) _ _ _ _
        refine r_if_eq (tgt := 51) dX7_meanByReadings_45 (by decide) (fun c4 => ?_) (fun c4 => ?_)
        · skip
          have h3 := pWhy_many (pWhy_pos.2.mpr (by assumption))
          have h5 := (hI.spok (show k < n by omega)).m5
          have h9 := (hI.spok (show k < n by omega)).m9
          refine r_iconst (v := nI 0) dX7_meanByReadings_51 (by decide) ?_
          refine r_istore (lv' := [(6, .int (nI (0))), (5, .ref (ad (c + 12 + π (k)))), (4, .int (nI (k))), (3, .int (nI (pNum g d true k))), (2, .int (pSum g d true k)), (0, .ref (ad c)), (1, .int (nI (d)))]) dX7_meanByReadings_52 (by decide) rfl ?_
          refine r_iconst (v := nI 1) dX7_meanByReadings_54 (by decide) ?_
          refine r_istore (lv' := [(7, .int (nI (1))), (6, .int (nI (0))), (5, .ref (ad (c + 12 + π (k)))), (4, .int (nI (k))), (3, .int (nI (pNum g d true k))), (2, .int (pSum g d true k)), (0, .ref (ad c)), (1, .int (nI (d)))]) dX7_meanByReadings_55 (by decide) rfl ?_
          refine r_iload dX7_meanByReadings_57 rfl ?_
          refine r_iconst (v := nI 3) dX7_meanByReadings_59 (by decide) ?_
          refine r_icmp_gtN (tgt := 88) dX7_meanByReadings_60 (by decide) (by omega) (by omega) (fun c5 => absurd c5 (by omega)) (fun c5 => ?_)
          refine r_iload dX7_meanByReadings_63 rfl ?_
          refine r_aload dX7_meanByReadings_65 rfl ?_
          refine r_aload dX7_meanByReadings_67 rfl ?_
          refine r_get (k := 5) dX7_meanByReadings_69 (hL.sp _ (by omega)).1 rfl rfl (by decide) kX7_42F ?_
          refine r_top (y := (nI (pMany g k))) h5 ?_
          refine r_iload dX7_meanByReadings_72 rfl ?_
          refine r_isubN dX7_meanByReadings_74 (by omega) ?_
          refine r_iconst (v := nI 1) dX7_meanByReadings_75 (by decide) ?_
          refine r_callV (As := [.int (nI ((pMany g k - 1))), .int (nI (1))]) dX7_meanByReadings_76 (tX6_mark (hL.sp _ (by omega)) (hI.spok (by omega)) (by omega) (by omega)) rfl (hL.sp _ (by omega)).1 rfl rfl oX6_mark rfl kX7_45M nX6_mark eX6_mark (by unfold fRoom; decide) (Nat.le_of_ble_eq_true rfl) rfl (bc' := 0) (bs' := 0) rfl rfl ?_
          show fR _ _ _ 79 _ (.int (pOf g k (6 + (((pMany g k - 1)) * 4 + 1))) :: _) _ _ _ _
          refine r_iadd dX7_meanByReadings_79 ?_
          refine r_istore (lv' := [(6, .int (((nI (0)) + (pOf g k (6 + (((pMany g k - 1)) * 4 + 1)))))), (7, .int (nI (1))), (5, .ref (ad (c + 12 + π (k)))), (4, .int (nI (k))), (3, .int (nI (pNum g d true k))), (2, .int (pSum g d true k)), (0, .ref (ad c)), (1, .int (nI (d)))]) dX7_meanByReadings_80 (by decide) rfl ?_
          refine r_iinc (v := (nI (1 + 1))) (lv' := [(7, .int (nI (1 + 1))), (6, .int (((nI (0)) + (pOf g k (6 + (((pMany g k - 1)) * 4 + 1)))))), (5, .ref (ad (c + 12 + π (k)))), (4, .int (nI (k))), (3, .int (nI (pNum g d true k))), (2, .int (pSum g d true k)), (0, .ref (ad c)), (1, .int (nI (d)))]) dX7_meanByReadings_82 rfl (nI_inc _) (by decide) rfl ?_
          refine r_goto (tgt := 57) dX7_meanByReadings_85 (by decide) ?_
          refine r_iload dX7_meanByReadings_57 rfl ?_
          refine r_iconst (v := nI 3) dX7_meanByReadings_59 (by decide) ?_
          refine r_icmp_gtN (tgt := 88) dX7_meanByReadings_60 (by decide) (by omega) (by omega) (fun c6 => absurd c6 (by omega)) (fun c6 => ?_)
          refine r_iload dX7_meanByReadings_63 rfl ?_
          refine r_aload dX7_meanByReadings_65 rfl ?_
          refine r_aload dX7_meanByReadings_67 rfl ?_
          refine r_get (k := 5) dX7_meanByReadings_69 (hL.sp _ (by omega)).1 rfl rfl (by decide) kX7_42F ?_
          refine r_top (y := (nI (pMany g k))) h5 ?_
          refine r_iload dX7_meanByReadings_72 rfl ?_
          refine r_isubN dX7_meanByReadings_74 (by omega) ?_
          refine r_iconst (v := nI 1) dX7_meanByReadings_75 (by decide) ?_
          refine r_callV (As := [.int (nI ((pMany g k - (1 + 1)))), .int (nI (1))]) dX7_meanByReadings_76 (tX6_mark (hL.sp _ (by omega)) (hI.spok (by omega)) (by omega) (by omega)) rfl (hL.sp _ (by omega)).1 rfl rfl oX6_mark rfl kX7_45M nX6_mark eX6_mark (by unfold fRoom; decide) (Nat.le_of_ble_eq_true rfl) rfl (bc' := 0) (bs' := 0) rfl rfl ?_
          show fR _ _ _ 79 _ (.int (pOf g k (6 + (((pMany g k - (1 + 1))) * 4 + 1))) :: _) _ _ _ _
          refine r_iadd dX7_meanByReadings_79 ?_
          refine r_istore (lv' := [(6, .int (((((nI (0)) + (pOf g k (6 + (((pMany g k - 1)) * 4 + 1))))) + (pOf g k (6 + (((pMany g k - (1 + 1))) * 4 + 1)))))), (7, .int (nI (1 + 1))), (5, .ref (ad (c + 12 + π (k)))), (4, .int (nI (k))), (3, .int (nI (pNum g d true k))), (2, .int (pSum g d true k)), (0, .ref (ad c)), (1, .int (nI (d)))]) dX7_meanByReadings_80 (by decide) rfl ?_
          refine r_iinc (v := (nI (1 + 1 + 1))) (lv' := [(7, .int (nI (1 + 1 + 1))), (6, .int (((((nI (0)) + (pOf g k (6 + (((pMany g k - 1)) * 4 + 1))))) + (pOf g k (6 + (((pMany g k - (1 + 1))) * 4 + 1)))))), (5, .ref (ad (c + 12 + π (k)))), (4, .int (nI (k))), (3, .int (nI (pNum g d true k))), (2, .int (pSum g d true k)), (0, .ref (ad c)), (1, .int (nI (d)))]) dX7_meanByReadings_82 rfl (nI_inc _) (by decide) rfl ?_
          refine r_goto (tgt := 57) dX7_meanByReadings_85 (by decide) ?_
          refine r_iload dX7_meanByReadings_57 rfl ?_
          refine r_iconst (v := nI 3) dX7_meanByReadings_59 (by decide) ?_
          refine r_icmp_gtN (tgt := 88) dX7_meanByReadings_60 (by decide) (by omega) (by omega) (fun c7 => absurd c7 (by omega)) (fun c7 => ?_)
          refine r_iload dX7_meanByReadings_63 rfl ?_
          refine r_aload dX7_meanByReadings_65 rfl ?_
          refine r_aload dX7_meanByReadings_67 rfl ?_
          refine r_get (k := 5) dX7_meanByReadings_69 (hL.sp _ (by omega)).1 rfl rfl (by decide) kX7_42F ?_
          refine r_top (y := (nI (pMany g k))) h5 ?_
          refine r_iload dX7_meanByReadings_72 rfl ?_
          refine r_isubN dX7_meanByReadings_74 (by omega) ?_
          refine r_iconst (v := nI 1) dX7_meanByReadings_75 (by decide) ?_
          refine r_callV (As := [.int (nI ((pMany g k - (1 + 1 + 1)))), .int (nI (1))]) dX7_meanByReadings_76 (tX6_mark (hL.sp _ (by omega)) (hI.spok (by omega)) (by omega) (by omega)) rfl (hL.sp _ (by omega)).1 rfl rfl oX6_mark rfl kX7_45M nX6_mark eX6_mark (by unfold fRoom; decide) (Nat.le_of_ble_eq_true rfl) rfl (bc' := 0) (bs' := 0) rfl rfl ?_
          show fR _ _ _ 79 _ (.int (pOf g k (6 + (((pMany g k - (1 + 1 + 1))) * 4 + 1))) :: _) _ _ _ _
          refine r_iadd dX7_meanByReadings_79 ?_
          refine r_istore (lv' := [(6, .int (((((((nI (0)) + (pOf g k (6 + (((pMany g k - 1)) * 4 + 1))))) + (pOf g k (6 + (((pMany g k - (1 + 1))) * 4 + 1))))) + (pOf g k (6 + (((pMany g k - (1 + 1 + 1))) * 4 + 1)))))), (7, .int (nI (1 + 1 + 1))), (5, .ref (ad (c + 12 + π (k)))), (4, .int (nI (k))), (3, .int (nI (pNum g d true k))), (2, .int (pSum g d true k)), (0, .ref (ad c)), (1, .int (nI (d)))]) dX7_meanByReadings_80 (by decide) rfl ?_
          refine r_iinc (v := (nI (1 + 1 + 1 + 1))) (lv' := [(7, .int (nI (1 + 1 + 1 + 1))), (6, .int (((((((nI (0)) + (pOf g k (6 + (((pMany g k - 1)) * 4 + 1))))) + (pOf g k (6 + (((pMany g k - (1 + 1))) * 4 + 1))))) + (pOf g k (6 + (((pMany g k - (1 + 1 + 1))) * 4 + 1)))))), (5, .ref (ad (c + 12 + π (k)))), (4, .int (nI (k))), (3, .int (nI (pNum g d true k))), (2, .int (pSum g d true k)), (0, .ref (ad c)), (1, .int (nI (d)))]) dX7_meanByReadings_82 rfl (nI_inc _) (by decide) rfl ?_
          refine r_goto (tgt := 57) dX7_meanByReadings_85 (by decide) ?_
          refine r_iload dX7_meanByReadings_57 rfl ?_
          refine r_iconst (v := nI 3) dX7_meanByReadings_59 (by decide) ?_
          refine r_icmp_gtN (tgt := 88) dX7_meanByReadings_60 (by decide) (by omega) (by omega) (fun c8 => ?_) (fun c8 => absurd c8 (by omega))
          refine r_iload_n dX7_meanByReadings_88 rfl ?_
          refine r_iload dX7_meanByReadings_89 rfl ?_
          refine r_iconst (v := nI 3) dX7_meanByReadings_91 (by decide) ?_
          refine r_callS (As := [.int (((((((nI (0)) + (pOf g k (6 + (((pMany g k - 1)) * 4 + 1))))) + (pOf g k (6 + (((pMany g k - (1 + 1))) * 4 + 1))))) + (pOf g k (6 + (((pMany g k - (1 + 1 + 1))) * 4 + 1))))), .int (nI (3))]) dX7_meanByReadings_92 (tJ9_floorDiv (by omega) (by omega)) rfl oJ9_floorDiv_7cf53 rfl kX7_48M sJ9_floorDiv_7cf53 (by unfold fRoom; decide) (Nat.le_of_ble_eq_true rfl) rfl (bc' := 0) (bs' := 0) rfl rfl ?_
          show fR _ _ _ 95 _ (.int (pDiv (((((((nI (0)) + (pOf g k (6 + (((pMany g k - 1)) * 4 + 1))))) + (pOf g k (6 + (((pMany g k - (1 + 1))) * 4 + 1))))) + (pOf g k (6 + (((pMany g k - (1 + 1 + 1))) * 4 + 1))))) (nI (3))) :: _) _ _ _ _
          refine r_top (y := (pPen g k)) (pPen_eq2 (hI.spok (by omega)) (by assumption)) ?_
          refine r_iadd dX7_meanByReadings_95 ?_
          refine r_istore_n (lv' := [(2, .int (((pSum g d true k) + (pPen g k)))), (7, .int (nI (1 + 1 + 1 + 1))), (6, .int (((((((nI (0)) + (pOf g k (6 + (((pMany g k - 1)) * 4 + 1))))) + (pOf g k (6 + (((pMany g k - (1 + 1))) * 4 + 1))))) + (pOf g k (6 + (((pMany g k - (1 + 1 + 1))) * 4 + 1)))))), (5, .ref (ad (c + 12 + π (k)))), (4, .int (nI (k))), (3, .int (nI (pNum g d true k))), (0, .ref (ad c)), (1, .int (nI (d)))]) dX7_meanByReadings_96 (by decide) rfl ?_
          refine r_iinc (v := (nI (pNum g d true k + 1))) (lv' := [(3, .int (nI (pNum g d true k + 1))), (2, .int (((pSum g d true k) + (pPen g k)))), (7, .int (nI (1 + 1 + 1 + 1))), (6, .int (((((((nI (0)) + (pOf g k (6 + (((pMany g k - 1)) * 4 + 1))))) + (pOf g k (6 + (((pMany g k - (1 + 1))) * 4 + 1))))) + (pOf g k (6 + (((pMany g k - (1 + 1 + 1))) * 4 + 1)))))), (5, .ref (ad (c + 12 + π (k)))), (4, .int (nI (k))), (0, .ref (ad c)), (1, .int (nI (d)))]) dX7_meanByReadings_97 rfl (nI_inc _) (by decide) rfl ?_
          refine r_iinc (v := (nI (k + 1))) (lv' := [(4, .int (nI (k + 1))), (3, .int (nI (pNum g d true k + 1))), (2, .int (((pSum g d true k) + (pPen g k)))), (7, .int (nI (1 + 1 + 1 + 1))), (6, .int (((((((nI (0)) + (pOf g k (6 + (((pMany g k - 1)) * 4 + 1))))) + (pOf g k (6 + (((pMany g k - (1 + 1))) * 4 + 1))))) + (pOf g k (6 + (((pMany g k - (1 + 1 + 1))) * 4 + 1)))))), (5, .ref (ad (c + 12 + π (k)))), (0, .ref (ad c)), (1, .int (nI (d)))]) dX7_meanByReadings_100 rfl (nI_inc _) (by decide) rfl ?_
          refine r_goto (tgt := 7) dX7_meanByReadings_103 (by decide) ?_
          refine r_lv (lv' := [(4, .int (nI (k + 1))), (3, .int (nI (pNum g d true k + 1))), (2, .int (((pSum g d true k) + (pPen g k)))), (0, .ref (ad c)), (1, .int (nI (d)))]) (by simp) ?_
          have hp : pIs g d true k := pIs_pt (hI.spok (show k < n by omega)) (by assumption) (by assumption)
          rw [pSum_t (v := pPen g k) hp rfl, pNum_t hp]
          exact ih (k + 1) (by omega) (by omega)
        · skip
          refine r_goto (tgt := 100) dX7_meanByReadings_48 (by decide) ?_
          refine r_iinc (v := (nI (k + 1))) (lv' := [(4, .int (nI (k + 1))), (5, .ref (ad (c + 12 + π (k)))), (3, .int (nI (pNum g d true k))), (2, .int (pSum g d true k)), (0, .ref (ad c)), (1, .int (nI (d)))]) dX7_meanByReadings_100 rfl (nI_inc _) (by decide) rfl ?_
          refine r_goto (tgt := 7) dX7_meanByReadings_103 (by decide) ?_
          refine r_lv (lv' := [(4, .int (nI (k + 1))), (3, .int (nI (pNum g d true k))), (2, .int (pSum g d true k)), (0, .ref (ad c)), (1, .int (nI (d)))]) (by simp) ?_
          have hp : ¬ pIs g d true k := pIs_pf (hI.spok (show k < n by omega)) (by assumption)
          rw [pSum_f hp, pNum_f hp]
          exact ih (k + 1) (by omega) (by omega)
theorem tX7_meanBy {l : Launch} {κ : KP} {M : Mem} {ad : Nat → Nat} {c : Nat} {g : Nat → Int32} {dn n : Nat} {π : Nat → Nat} (hL : LabAt M ad c g dn n π) (hI : BI g dn n) {d : Nat} : fM l κ mX7_meanByReadings [.ref (ad c), .int (nI (d))] M (isI (pMean g n d true) M) := by
  refine fM_of rfl (by decide +kernel) (Nat.le_of_ble_eq_true rfl) ?_
  obtain ⟨fD, hfD, hvD⟩ := hL.drs
  obtain ⟨fS, hfS, hvS⟩ := hL.sps
  obtain ⟨fN, hfN, hvN⟩ := hL.nds
  obtain ⟨fG, hfG, hvG⟩ := hL.dgs
  obtain ⟨fT, hfT, hvT⟩ := hL.sts
  have hdn := hL.dl
  have hn := hL.nl
  show fR l κ mX7_meanByReadings 0 [(0, .ref (ad c)), (1, .int (nI (d)))] [] M 0 0 _
  refine r_iconst (v := nI 0) dX7_meanByReadings_0 (by decide) ?_
  refine r_istore_n (lv' := [(2, .int (nI (0))), (0, .ref (ad c)), (1, .int (nI (d)))]) dX7_meanByReadings_1 (by decide) rfl ?_
  refine r_iconst (v := nI 0) dX7_meanByReadings_2 (by decide) ?_
  refine r_istore_n (lv' := [(3, .int (nI (0))), (2, .int (nI (0))), (0, .ref (ad c)), (1, .int (nI (d)))]) dX7_meanByReadings_3 (by decide) rfl ?_
  refine r_iconst (v := nI 0) dX7_meanByReadings_4 (by decide) ?_
  refine r_istore (lv' := [(4, .int (nI (0))), (3, .int (nI (0))), (2, .int (nI (0))), (0, .ref (ad c)), (1, .int (nI (d)))]) dX7_meanByReadings_5 (by decide) rfl ?_
  exact lX7_meanBy hL hI (n + 1) 0 (by omega) (by omega)
theorem tX7_index {l : Launch} {κ : KP} {M : Mem} {p s x : Int32} : fM l κ mX7_index [.int (p), .int (s), .int (x)] M (isI (pDiv p (nI 10) + pDiv (s - nI 450) (nI 10) - x) M) := by
  refine fM_of rfl (by decide +kernel) (Nat.le_of_ble_eq_true rfl) ?_
  show fR l κ mX7_index 0 [(0, .int (p)), (1, .int (s)), (2, .int (x))] [] M 0 0 _
  refine r_iload_n dX7_index_0 rfl ?_
  refine r_bipush (v := nI 10) dX7_index_1 (by decide) ?_
  refine r_callS (As := [.int (p), .int (nI (10))]) dX7_index_3 (tJ9_floorDiv (by omega) (by omega)) rfl oJ9_floorDiv_7cf53 rfl kX7_48M sJ9_floorDiv_7cf53 (by unfold fRoom; decide) (Nat.le_of_ble_eq_true rfl) rfl (bc' := 0) (bs' := 0) rfl rfl ?_
  show fR _ _ _ 6 _ (.int (pDiv (p) (nI (10))) :: _) _ _ _ _
  refine r_iload_n dX7_index_6 rfl ?_
  refine r_sipush (v := nI 450) dX7_index_7 (by decide) ?_
  refine r_isub dX7_index_10 ?_
  refine r_bipush (v := nI 10) dX7_index_11 (by decide) ?_
  refine r_callS (As := [.int (((s) - (nI (450)))), .int (nI (10))]) dX7_index_13 (tJ9_floorDiv (by omega) (by omega)) rfl oJ9_floorDiv_7cf53 rfl kX7_48M sJ9_floorDiv_7cf53 (by unfold fRoom; decide) (Nat.le_of_ble_eq_true rfl) rfl (bc' := 0) (bs' := 0) rfl rfl ?_
  show fR _ _ _ 16 _ (.int (pDiv (((s) - (nI (450)))) (nI (10))) :: _) _ _ _ _
  refine r_iadd dX7_index_16 ?_
  refine r_iload_n dX7_index_17 rfl ?_
  refine r_isub dX7_index_18 ?_
  exact fR_iret dX7_index_19 rfl (isI_of (by rfl))
theorem pMean_d {g : Nat → Int32} {dn n d : Nat} {q : Bool} (hI : BI g dn n) (h : ¬ pMean g n d q = -1) : ∃ y, y ≤ (if q = true then 400 else 2100) ∧ pMean g n d q = nI y := by
  rcases pMean_nI (d := d) (q := q) hI with ⟨-, h1⟩ | ⟨y, h1, -, h2⟩
  · exact absurd h1 h
  · exact ⟨y, h1, h2⟩
theorem pIndex_eq {g : Nat → Int32} {dn n d : Nat} (hI : BI g dn n) (h1 : ¬ pMean g n d true = -1) (h2 : ¬ pMean g n d false = -1) : pDiv (pMean g n d true) (nI 10) + pDiv (pMean g n d false - nI 450) (nI 10) - g (5 + 2) + nI 1000 = pIndex g n d := by
  obtain ⟨y, hy, ey⟩ := pMean_d hI h1
  rw [if_pos rfl] at hy
  unfold pIndex
  rw [if_neg h1, if_neg h2, ey, pDiv_n (by omega) (by omega) (by omega), pk_div (by omega) (by omega) (by omega)]
  generalize pDiv (pMean g n d false - nI 450) (nI 10) = z
  show nI (y / 10) + z - g 7 + nI 1000 = nI 1000 + nI (y / 10) + z - g 7
  rw [Int32.sub_eq_add_neg, Int32.sub_eq_add_neg]
  ac_rfl
theorem tX7_shown {l : Launch} {κ : KP} {M : Mem} {ad : Nat → Nat} {c : Nat} {g : Nat → Int32} {dn n : Nat} {π : Nat → Nat} (hL : LabAt M ad c g dn n π) (hI : BI g dn n) {d : Nat} : fM l κ mX7_shownIndex [.ref (ad c), .int (nI (d)), .int (pMean g n d true)] M (isI (pIndex g n d) M) := by
  refine fM_of rfl (by decide +kernel) (Nat.le_of_ble_eq_true rfl) ?_
  obtain ⟨fD, hfD, hvD⟩ := hL.drs
  obtain ⟨fS, hfS, hvS⟩ := hL.sps
  obtain ⟨fN, hfN, hvN⟩ := hL.nds
  obtain ⟨fG, hfG, hvG⟩ := hL.dgs
  obtain ⟨fT, hfT, hvT⟩ := hL.sts
  have hdn := hL.dl
  have hn := hL.nl
  show fR l κ mX7_shownIndex 0 [(0, .ref (ad c)), (1, .int (nI (d))), (2, .int (pMean g n d true))] [] M 0 0 _
  refine r_aload_n dX7_shownIndex_0 rfl ?_
  refine r_iload_n dX7_shownIndex_1 rfl ?_
  refine r_callS (As := [.ref (ad c), .int (nI (d))]) dX7_shownIndex_2 (tX7_meanSoft hL hI) rfl oX7_meanSoftening rfl kX7_53M sX7_meanSoftening (by unfold fRoom; decide) (Nat.le_of_ble_eq_true rfl) rfl (bc' := 0) (bs' := 0) rfl rfl ?_
  show fR _ _ _ 5 _ (.int (pMean g n d false) :: _) _ _ _ _
  refine r_istore_n (lv' := [(3, .int (pMean g n d false)), (0, .ref (ad c)), (1, .int (nI (d))), (2, .int (pMean g n d true))]) dX7_shownIndex_5 (by decide) rfl ?_
  refine r_iload_n dX7_shownIndex_6 rfl ?_
  refine r_iconst (v := (-1)) dX7_shownIndex_7 (by decide) ?_
  refine r_icmp_eq (tgt := 16) dX7_shownIndex_8 (by decide) (fun c1 => ?_) (fun c1 => ?_)
  · skip
    refine r_iconst (v := (-1)) dX7_shownIndex_16 (by decide) ?_
    exact fR_iret dX7_shownIndex_17 rfl (isI_of (if_pos (by assumption)).symm)
  · skip
    refine r_iload_n dX7_shownIndex_11 rfl ?_
    refine r_iconst (v := (-1)) dX7_shownIndex_12 (by decide) ?_
    refine r_icmp_ne (tgt := 18) dX7_shownIndex_13 (by decide) (fun c2 => ?_) (fun c2 => ?_)
    · skip
      refine r_iload_n dX7_shownIndex_18 rfl ?_
      refine r_iload_n dX7_shownIndex_19 rfl ?_
      refine r_aload_n dX7_shownIndex_20 rfl ?_
      refine r_get (k := 4) dX7_shownIndex_21 hL.lab rfl rfl (by decide) kX7_24F ?_
      refine r_iconst (v := nI 2) dX7_shownIndex_24 (by decide) ?_
      refine r_ialdN dX7_shownIndex_25 hfT (by omega) (by decide) (hvT _ (by omega)) ?_
      refine r_callS (As := [.int (pMean g n d true), .int (pMean g n d false), .int (g (5 + (2)))]) dX7_shownIndex_26 tX7_index rfl oX7_index rfl kX7_59M sX7_index (by unfold fRoom; decide) (Nat.le_of_ble_eq_true rfl) rfl (bc' := 0) (bs' := 0) rfl rfl ?_
      show fR _ _ _ 29 _ (.int ((pDiv (pMean g n d true) (nI 10) + pDiv ((pMean g n d false) - nI 450) (nI 10) - (g (5 + (2))))) :: _) _ _ _ _
      refine r_sipush (v := nI 1000) dX7_shownIndex_29 (by decide) ?_
      refine r_iadd dX7_shownIndex_32 ?_
      exact fR_iret dX7_shownIndex_33 rfl (isI_of (pIndex_eq hI (by assumption) (by assumption)))
    · skip
      refine r_iconst (v := (-1)) dX7_shownIndex_16 (by decide) ?_
      exact fR_iret dX7_shownIndex_17 rfl (isI_of ((if_neg (by assumption)).trans (if_pos (by assumption))).symm)
theorem lX7_num {l : Launch} {κ : KP} {M : Mem} {ad : Nat → Nat} {c : Nat} {g : Nat → Int32} {dn n : Nat} {π : Nat → Nat} (hL : LabAt M ad c g dn n π) (hI : BI g dn n) {d : Nat} : ∀ (N k : Nat), n < N + k → k ≤ n → fR l κ mX7_samplesWithPenetration 4 [(3, .int (nI (k))), (2, .int (nI (pNum g d true k))), (0, .ref (ad c)), (1, .int (nI (d)))] [] M 0 0 (isI (nI (pNum g d true n)) M) := by
  obtain ⟨fD, hfD, hvD⟩ := hL.drs
  obtain ⟨fS, hfS, hvS⟩ := hL.sps
  obtain ⟨fN, hfN, hvN⟩ := hL.nds
  obtain ⟨fG, hfG, hvG⟩ := hL.dgs
  obtain ⟨fT, hfT, hvT⟩ := hL.sts
  have hdn := hL.dl
  have hn := hL.nl
  intro N
  induction N with
  | zero => intro k h1 h2; omega
  | succ N ih =>
    intro k h1 h2
    have hle : pNum g d true k ≤ k := pNum_le
    refine r_iload_n dX7_samplesWithPenetration_4 rfl ?_
    refine r_aload_n dX7_samplesWithPenetration_5 rfl ?_
    refine r_get (k := 6) dX7_samplesWithPenetration_6 hL.lab rfl rfl (by decide) kX7_9F ?_
    refine r_icmp_geN (tgt := 52) dX7_samplesWithPenetration_9 (by decide) (by omega) (by omega) (fun c1 => ?_) (fun c1 => ?_)
    · skip
      have e : k = n := by omega
      rw [e]
      refine r_iload_n dX7_samplesWithPenetration_52 rfl ?_
      exact fR_iret dX7_samplesWithPenetration_53 rfl (isI_of (by rfl))
    · skip
      refine r_aload_n dX7_samplesWithPenetration_12 rfl ?_
      refine r_get (k := 1) dX7_samplesWithPenetration_13 hL.lab rfl rfl (by decide) kX7_15F ?_
      refine r_iload_n dX7_samplesWithPenetration_16 rfl ?_
      refine r_aldqN dX7_samplesWithPenetration_17 hfS rfl (by omega) (by decide) (hvS _ (by omega)) ?_
      refine r_astore (lv' := [(4, .ref (ad (c + 12 + π (k)))), (3, .int (nI (k))), (2, .int (nI (pNum g d true k))), (0, .ref (ad c)), (1, .int (nI (d)))]) dX7_samplesWithPenetration_18 (by decide) rfl ?_
      refine r_aload dX7_samplesWithPenetration_20 rfl ?_
      refine r_get (k := 0) dX7_samplesWithPenetration_22 (hL.sp _ (by omega)).1 rfl rfl (by decide) kX7_19F ?_
      refine r_iload_n dX7_samplesWithPenetration_25 rfl ?_
      refine r_icmp_ne (tgt := 46) dX7_samplesWithPenetration_26 (by decide) (fun c2 => ?_) (fun c2 => ?_)
      · skip
        refine r_iinc (v := (nI (k + 1))) (lv' := [(3, .int (nI (k + 1))), (4, .ref (ad (c + 12 + π (k)))), (2, .int (nI (pNum g d true k))), (0, .ref (ad c)), (1, .int (nI (d)))]) dX7_samplesWithPenetration_46 rfl (nI_inc _) (by decide) rfl ?_
        refine r_goto (tgt := 4) dX7_samplesWithPenetration_49 (by decide) ?_
        refine r_lv (lv' := [(3, .int (nI (k + 1))), (2, .int (nI (pNum g d true k))), (0, .ref (ad c)), (1, .int (nI (d)))]) (by simp) ?_
        have hp : ¬ pIs g d true k := pIs_sf1 (by assumption)
        rw [pNum_f hp]
        exact ih (k + 1) (by omega) (by omega)
      · skip
        refine r_aload dX7_samplesWithPenetration_29 rfl ?_
        refine r_aload_n dX7_samplesWithPenetration_31 rfl ?_
        refine r_get (k := 4) dX7_samplesWithPenetration_32 hL.lab rfl rfl (by decide) kX7_24F ?_
        refine r_iconst (v := nI 1) dX7_samplesWithPenetration_35 (by decide) ?_
        refine r_ialdN dX7_samplesWithPenetration_36 hfT (by omega) (by decide) (hvT _ (by omega)) ?_
        refine r_callV (As := [.int (g (5 + (1)))]) dX7_samplesWithPenetration_37 (tX6_why (hL.sp _ (by omega)) (hI.spok (by omega)) rfl) rfl (hL.sp _ (by omega)).1 rfl rfl oX6_whyNoPenetration rfl kX7_39M nX6_whyNoPenetration eX6_whyNoPenetration (by unfold fRoom; decide) (Nat.le_of_ble_eq_true rfl) rfl (bc' := 0) (bs' := 0) rfl rfl ?_
        show fR _ _ _ 40 _ (.int (pWhy g k) :: _) _ _ _ _
        refine r_if_ne (tgt := 46) dX7_samplesWithPenetration_40 (by decide) (fun c3 => ?_) (fun c3 => ?_)
        · skip
          refine r_iinc (v := (nI (k + 1))) (lv' := [(3, .int (nI (k + 1))), (4, .ref (ad (c + 12 + π (k)))), (2, .int (nI (pNum g d true k))), (0, .ref (ad c)), (1, .int (nI (d)))]) dX7_samplesWithPenetration_46 rfl (nI_inc _) (by decide) rfl ?_
          refine r_goto (tgt := 4) dX7_samplesWithPenetration_49 (by decide) ?_
          refine r_lv (lv' := [(3, .int (nI (k + 1))), (2, .int (nI (pNum g d true k))), (0, .ref (ad c)), (1, .int (nI (d)))]) (by simp) ?_
          have hp : ¬ pIs g d true k := pIs_pf (hI.spok (show k < n by omega)) (by assumption)
          rw [pNum_f hp]
          exact ih (k + 1) (by omega) (by omega)
        · skip
          refine r_iinc (v := (nI (pNum g d true k + 1))) (lv' := [(2, .int (nI (pNum g d true k + 1))), (4, .ref (ad (c + 12 + π (k)))), (3, .int (nI (k))), (0, .ref (ad c)), (1, .int (nI (d)))]) dX7_samplesWithPenetration_43 rfl (nI_inc _) (by decide) rfl ?_
          refine r_iinc (v := (nI (k + 1))) (lv' := [(3, .int (nI (k + 1))), (2, .int (nI (pNum g d true k + 1))), (4, .ref (ad (c + 12 + π (k)))), (0, .ref (ad c)), (1, .int (nI (d)))]) dX7_samplesWithPenetration_46 rfl (nI_inc _) (by decide) rfl ?_
          refine r_goto (tgt := 4) dX7_samplesWithPenetration_49 (by decide) ?_
          refine r_lv (lv' := [(3, .int (nI (k + 1))), (2, .int (nI (pNum g d true k + 1))), (0, .ref (ad c)), (1, .int (nI (d)))]) (by simp) ?_
          have hp : pIs g d true k := pIs_pt (hI.spok (show k < n by omega)) (by assumption) (by assumption)
          rw [pNum_t hp]
          exact ih (k + 1) (by omega) (by omega)
theorem tX7_num {l : Launch} {κ : KP} {M : Mem} {ad : Nat → Nat} {c : Nat} {g : Nat → Int32} {dn n : Nat} {π : Nat → Nat} (hL : LabAt M ad c g dn n π) (hI : BI g dn n) {d : Nat} : fM l κ mX7_samplesWithPenetration [.ref (ad c), .int (nI (d))] M (isI (nI (pNum g d true n)) M) := by
  refine fM_of rfl (by decide +kernel) (Nat.le_of_ble_eq_true rfl) ?_
  obtain ⟨fD, hfD, hvD⟩ := hL.drs
  obtain ⟨fS, hfS, hvS⟩ := hL.sps
  obtain ⟨fN, hfN, hvN⟩ := hL.nds
  obtain ⟨fG, hfG, hvG⟩ := hL.dgs
  obtain ⟨fT, hfT, hvT⟩ := hL.sts
  have hdn := hL.dl
  have hn := hL.nl
  show fR l κ mX7_samplesWithPenetration 0 [(0, .ref (ad c)), (1, .int (nI (d)))] [] M 0 0 _
  refine r_iconst (v := nI 0) dX7_samplesWithPenetration_0 (by decide) ?_
  refine r_istore_n (lv' := [(2, .int (nI (0))), (0, .ref (ad c)), (1, .int (nI (d)))]) dX7_samplesWithPenetration_1 (by decide) rfl ?_
  refine r_iconst (v := nI 0) dX7_samplesWithPenetration_2 (by decide) ?_
  refine r_istore_n (lv' := [(3, .int (nI (0))), (2, .int (nI (0))), (0, .ref (ad c)), (1, .int (nI (d)))]) dX7_samplesWithPenetration_3 (by decide) rfl ?_
  exact lX7_num hL hI (n + 1) 0 (by omega) (by omega)
theorem pDM_t {g : Nat → Int32} {k d : Nat} (h : pIs g d true k) : pDMask g d k ||| pNeed g k = pDMask g d (k + 1) := by
  show _ = pDMask g d k ||| (if _ then _ else _)
  rw [if_pos h]
theorem pDM_f {g : Nat → Int32} {k d : Nat} (h : ¬ pIs g d true k) : pDMask g d k = pDMask g d (k + 1) := by
  show _ = pDMask g d k ||| (if _ then _ else _)
  rw [if_neg h]; exact (Int32.or_zero).symm
theorem lX7_needles {l : Launch} {κ : KP} {M : Mem} {ad : Nat → Nat} {c : Nat} {g : Nat → Int32} {dn n : Nat} {π : Nat → Nat} (hL : LabAt M ad c g dn n π) (hI : BI g dn n) {d : Nat} : ∀ (N k : Nat), n < N + k → k ≤ n → fR l κ mX7_needlesRead 4 [(3, .int (nI (k))), (2, .int (pDMask g d k)), (0, .ref (ad c)), (1, .int (nI (d)))] [] M 0 0 (isI (bcF (pDMask g d n)) M) := by
  obtain ⟨fD, hfD, hvD⟩ := hL.drs
  obtain ⟨fS, hfS, hvS⟩ := hL.sps
  obtain ⟨fN, hfN, hvN⟩ := hL.nds
  obtain ⟨fG, hfG, hvG⟩ := hL.dgs
  obtain ⟨fT, hfT, hvT⟩ := hL.sts
  have hdn := hL.dl
  have hn := hL.nl
  intro N
  induction N with
  | zero => intro k h1 h2; omega
  | succ N ih =>
    intro k h1 h2
    refine r_iload_n dX7_needlesRead_4 rfl ?_
    refine r_aload_n dX7_needlesRead_5 rfl ?_
    refine r_get (k := 6) dX7_needlesRead_6 hL.lab rfl rfl (by decide) kX7_9F ?_
    refine r_icmp_geN (tgt := 57) dX7_needlesRead_9 (by decide) (by omega) (by omega) (fun c1 => ?_) (fun c1 => ?_)
    · skip
      have e : k = n := by omega
      rw [e]
      refine r_iload_n dX7_needlesRead_57 rfl ?_
      refine r_callS (As := [.int (pDMask g d n)]) dX7_needlesRead_58 tJ6_bitCount rfl oJ6_bitCount_0f7a4 rfl kX7_67M sJ6_bitCount_0f7a4 (by unfold fRoom; decide) (Nat.le_of_ble_eq_true rfl) rfl (bc' := 0) (bs' := 0) rfl rfl ?_
      show fR _ _ _ 61 _ (.int (bcF (pDMask g d n)) :: _) _ _ _ _
      exact fR_iret dX7_needlesRead_61 rfl (isI_of (by rfl))
    · skip
      refine r_aload_n dX7_needlesRead_12 rfl ?_
      refine r_get (k := 1) dX7_needlesRead_13 hL.lab rfl rfl (by decide) kX7_15F ?_
      refine r_iload_n dX7_needlesRead_16 rfl ?_
      refine r_aldqN dX7_needlesRead_17 hfS rfl (by omega) (by decide) (hvS _ (by omega)) ?_
      refine r_astore (lv' := [(4, .ref (ad (c + 12 + π (k)))), (3, .int (nI (k))), (2, .int (pDMask g d k)), (0, .ref (ad c)), (1, .int (nI (d)))]) dX7_needlesRead_18 (by decide) rfl ?_
      refine r_aload dX7_needlesRead_20 rfl ?_
      refine r_get (k := 0) dX7_needlesRead_22 (hL.sp _ (by omega)).1 rfl rfl (by decide) kX7_19F ?_
      refine r_iload_n dX7_needlesRead_25 rfl ?_
      refine r_icmp_ne (tgt := 51) dX7_needlesRead_26 (by decide) (fun c2 => ?_) (fun c2 => ?_)
      · skip
        refine r_iinc (v := (nI (k + 1))) (lv' := [(3, .int (nI (k + 1))), (4, .ref (ad (c + 12 + π (k)))), (2, .int (pDMask g d k)), (0, .ref (ad c)), (1, .int (nI (d)))]) dX7_needlesRead_51 rfl (nI_inc _) (by decide) rfl ?_
        refine r_goto (tgt := 4) dX7_needlesRead_54 (by decide) ?_
        refine r_lv (lv' := [(3, .int (nI (k + 1))), (2, .int (pDMask g d k)), (0, .ref (ad c)), (1, .int (nI (d)))]) (by simp) ?_
        have hp : ¬ pIs g d true k := pIs_sf1 (by assumption)
        rw [pDM_f hp]
        exact ih (k + 1) (by omega) (by omega)
      · skip
        refine r_aload dX7_needlesRead_29 rfl ?_
        refine r_aload_n dX7_needlesRead_31 rfl ?_
        refine r_get (k := 4) dX7_needlesRead_32 hL.lab rfl rfl (by decide) kX7_24F ?_
        refine r_iconst (v := nI 1) dX7_needlesRead_35 (by decide) ?_
        refine r_ialdN dX7_needlesRead_36 hfT (by omega) (by decide) (hvT _ (by omega)) ?_
        refine r_callV (As := [.int (g (5 + (1)))]) dX7_needlesRead_37 (tX6_why (hL.sp _ (by omega)) (hI.spok (by omega)) rfl) rfl (hL.sp _ (by omega)).1 rfl rfl oX6_whyNoPenetration rfl kX7_39M nX6_whyNoPenetration eX6_whyNoPenetration (by unfold fRoom; decide) (Nat.le_of_ble_eq_true rfl) rfl (bc' := 0) (bs' := 0) rfl rfl ?_
        show fR _ _ _ 40 _ (.int (pWhy g k) :: _) _ _ _ _
        refine r_if_ne (tgt := 51) dX7_needlesRead_40 (by decide) (fun c3 => ?_) (fun c3 => ?_)
        · skip
          refine r_iinc (v := (nI (k + 1))) (lv' := [(3, .int (nI (k + 1))), (4, .ref (ad (c + 12 + π (k)))), (2, .int (pDMask g d k)), (0, .ref (ad c)), (1, .int (nI (d)))]) dX7_needlesRead_51 rfl (nI_inc _) (by decide) rfl ?_
          refine r_goto (tgt := 4) dX7_needlesRead_54 (by decide) ?_
          refine r_lv (lv' := [(3, .int (nI (k + 1))), (2, .int (pDMask g d k)), (0, .ref (ad c)), (1, .int (nI (d)))]) (by simp) ?_
          have hp : ¬ pIs g d true k := pIs_pf (hI.spok (show k < n by omega)) (by assumption)
          rw [pDM_f hp]
          exact ih (k + 1) (by omega) (by omega)
        · skip
          refine r_iload_n dX7_needlesRead_43 rfl ?_
          refine r_aload dX7_needlesRead_44 rfl ?_
          refine r_callV (As := []) dX7_needlesRead_46 (tX6_need (hL.sp _ (by omega)) (hI.spok (by omega))) rfl (hL.sp _ (by omega)).1 rfl rfl oX6_latestNeedles rfl kX7_63M nX6_latestNeedles eX6_latestNeedles (by unfold fRoom; decide) (Nat.le_of_ble_eq_true rfl) rfl (bc' := 0) (bs' := 0) rfl rfl ?_
          show fR _ _ _ 49 _ (.int (pNeed g k) :: _) _ _ _ _
          refine r_ior dX7_needlesRead_49 ?_
          refine r_istore_n (lv' := [(2, .int (((pDMask g d k) ||| (pNeed g k)))), (4, .ref (ad (c + 12 + π (k)))), (3, .int (nI (k))), (0, .ref (ad c)), (1, .int (nI (d)))]) dX7_needlesRead_50 (by decide) rfl ?_
          refine r_iinc (v := (nI (k + 1))) (lv' := [(3, .int (nI (k + 1))), (2, .int (((pDMask g d k) ||| (pNeed g k)))), (4, .ref (ad (c + 12 + π (k)))), (0, .ref (ad c)), (1, .int (nI (d)))]) dX7_needlesRead_51 rfl (nI_inc _) (by decide) rfl ?_
          refine r_goto (tgt := 4) dX7_needlesRead_54 (by decide) ?_
          refine r_lv (lv' := [(3, .int (nI (k + 1))), (2, .int (((pDMask g d k) ||| (pNeed g k)))), (0, .ref (ad c)), (1, .int (nI (d)))]) (by simp) ?_
          have hp : pIs g d true k := pIs_pt (hI.spok (show k < n by omega)) (by assumption) (by assumption)
          rw [pDM_t hp]
          exact ih (k + 1) (by omega) (by omega)
theorem tX7_needles {l : Launch} {κ : KP} {M : Mem} {ad : Nat → Nat} {c : Nat} {g : Nat → Int32} {dn n : Nat} {π : Nat → Nat} (hL : LabAt M ad c g dn n π) (hI : BI g dn n) {d : Nat} : fM l κ mX7_needlesRead [.ref (ad c), .int (nI (d))] M (isI (bcF (pDMask g d n)) M) := by
  refine fM_of rfl (by decide +kernel) (Nat.le_of_ble_eq_true rfl) ?_
  obtain ⟨fD, hfD, hvD⟩ := hL.drs
  obtain ⟨fS, hfS, hvS⟩ := hL.sps
  obtain ⟨fN, hfN, hvN⟩ := hL.nds
  obtain ⟨fG, hfG, hvG⟩ := hL.dgs
  obtain ⟨fT, hfT, hvT⟩ := hL.sts
  have hdn := hL.dl
  have hn := hL.nl
  show fR l κ mX7_needlesRead 0 [(0, .ref (ad c)), (1, .int (nI (d)))] [] M 0 0 _
  refine r_iconst (v := nI 0) dX7_needlesRead_0 (by decide) ?_
  refine r_istore_n (lv' := [(2, .int (nI (0))), (0, .ref (ad c)), (1, .int (nI (d)))]) dX7_needlesRead_1 (by decide) rfl ?_
  refine r_iconst (v := nI 0) dX7_needlesRead_2 (by decide) ?_
  refine r_istore_n (lv' := [(3, .int (nI (0))), (2, .int (nI (0))), (0, .ref (ad c)), (1, .int (nI (d)))]) dX7_needlesRead_3 (by decide) rfl ?_
  exact lX7_needles hL hI (n + 1) 0 (by omega) (by omega)
theorem or8 : ∀ a, a < 8 → ∀ b, b < 8 → nI a ||| nI b = nI (a ||| b) ∧ (a ||| b) < 8 ∧ ((a ||| b) = 0 → a = 0 ∧ b = 0) := by decide
theorem sh3 {x : Nat} (h : x < 3) : ∃ b, 0 < b ∧ b < 8 ∧ nI 1 <<< (nI x &&& 31) = nI b := by
  have hx : x = 0 ∨ x = 1 ∨ x = 2 := by omega
  rcases hx with rfl | rfl | rfl
  · exact ⟨1, by omega, by omega, by decide⟩
  · exact ⟨2, by omega, by omega, by decide⟩
  · exact ⟨4, by omega, by omega, by decide⟩
theorem pMask_nI {g : Nat → Int32} {k : Nat} (hO : SpOk g k) : ∀ a, a ≤ pMany g k → ∃ m, m < 8 ∧ pMask g k a = nI m ∧ (m = 0 → a = 0)
  | 0, _ => ⟨0, by omega, rfl, fun _ => rfl⟩
  | a + 1, h => by
    obtain ⟨m, h1, h2, -⟩ := pMask_nI hO a (by omega)
    obtain ⟨x, hx, ex⟩ := (hO.2.2.2.2 (pMany g k - 1 - a) (by omega)).1
    obtain ⟨b, hb0, hb, eb⟩ := sh3 hx
    have hq := or8 m h1 b hb
    refine ⟨m ||| b, hq.2.1, ?_, fun h => ?_⟩
    · show pMask g k a ||| (nI 1 <<< (pLat g k a 0 &&& 31)) = _
      rw [h2, show pLat g k a 0 = nI x from ex, eb, hq.1]
    · have := (hq.2.2 h).2; omega
theorem pDMask_nI {g : Nat → Int32} {dn n d : Nat} (hI : BI g dn n) : ∀ k, k ≤ n → ∃ m, m < 8 ∧ pDMask g d k = nI m ∧ (m = 0 → pNum g d true k = 0)
  | 0, _ => ⟨0, by omega, rfl, fun _ => rfl⟩
  | k + 1, h => by
    obtain ⟨m, h1, h2, h3⟩ := pDMask_nI hI k (by omega)
    by_cases hp : pIs g d true k
    · have hO := hI.spok (show k < n by omega)
      have hw : pWhy g k = 0 := Decidable.not_not.mp (fun q => hp.2 ((pPen_m1 hO).mpr q))
      have hm := pWhy_many (pWhy_pos.2.mpr hw)
      obtain ⟨b, hb, eb, hb0⟩ := pMask_nI hO (min 3 (pMany g k)) (Nat.min_le_right _ _)
      have hq := or8 m h1 b hb
      refine ⟨m ||| b, hq.2.1, ?_, fun h => ?_⟩
      · rw [← pDM_t hp, h2, show pNeed g k = nI b from eb, hq.1]
      · have := hb0 (hq.2.2 h).2; omega
    · refine ⟨m, h1, ?_, fun h => ?_⟩
      · rw [← pDM_f hp, h2]
      · rw [← pNum_f hp]; exact h3 h
/-- fewer than two needles, told in two ways -/
theorem few_needles {g : Nat → Int32} {dn n d : Nat} (hI : BI g dn n) (h2 : ¬ pNum g d true n < 2) : bcF (pDMask g d n) < nI 2 ↔ (pDMask g d n = nI 1 ∨ pDMask g d n = nI 2 ∨ pDMask g d n = nI 4) := by
  obtain ⟨m, h1, e, h0⟩ := pDMask_nI (d := d) hI n (Nat.le_refl _)
  rw [e, bcF_lt h1, nI_eq (by omega) (by omega), nI_eq (by omega) (by omega), nI_eq (by omega) (by omega)]
  constructor
  · rintro (h | h | h | h)
    · have := h0 h; omega
    · exact Or.inl h
    · exact Or.inr (Or.inl h)
    · exact Or.inr (Or.inr h)
  · rintro (h | h | h)
    · exact Or.inr (Or.inl h)
    · exact Or.inr (Or.inr (Or.inl h))
    · exact Or.inr (Or.inr (Or.inr h))
theorem pWhyS_3 {g : Nat → Int32} {n d : Nat} (h1 : g (10 + 3 * d + 2) = -1) (h2 : ¬ pNum g d true n < 2) (h3 : pDMask g d n = nI 1 ∨ pDMask g d n = nI 2 ∨ pDMask g d n = nI 4) : pWhyS g n d = nI 10 := by
  unfold pWhyS
  rw [if_neg (not_not_intro h1), if_neg h2]
  rcases h3 with h | h | h
  · rw [if_pos h]
  · rw [if_neg (by rw [h]; decide), if_pos h]
  · rw [if_neg (by rw [h]; decide), if_neg (by rw [h]; decide), if_pos h]
theorem pWhyS_4 {g : Nat → Int32} {n d : Nat} (h1 : g (10 + 3 * d + 2) = -1) (h2 : ¬ pNum g d true n < 2) (h3 : ¬ (pDMask g d n = nI 1 ∨ pDMask g d n = nI 2 ∨ pDMask g d n = nI 4)) : pWhyS g n d = (if pMean g n d false = -1 then nI 11 else if pIn (pIndex g n d) (nI 980) (nI 1020) = true then nI 0 else nI 12) := by
  unfold pWhyS
  rw [if_neg (not_not_intro h1), if_neg h2, if_neg (fun h => h3 (Or.inl h)), if_neg (fun h => h3 (Or.inr (Or.inl h))), if_neg (fun h => h3 (Or.inr (Or.inr h)))]
theorem idx_lo {x : Int32} {i : Int} (h : x.toInt = i) (h1 : -2000 ≤ i) (h2 : i ≤ 2000) : (x < -20 ∨ nI 20 < x) ↔ ¬ pIn (nI 1000 + x) (nI 980) (nI 1020) = true := by
  have e : (nI 1000 + x).toInt = 1000 + i := i32_add (by rw [h]; rfl) (by omega) (by omega)
  have e1 : (nI 980).toInt = 980 := rfl
  have e2 : (nI 1020).toInt = 1020 := rfl
  have e3 : (-20 : Int32).toInt = -20 := rfl
  have e4 : (nI 20).toInt = 20 := rfl
  unfold pIn
  rw [Bool.and_eq_true, decide_eq_true_eq, decide_eq_true_eq, i32_lt, i32_lt, i32_le, i32_le, e, e1, e2, e3, e4, h]
  omega
theorem idx_eq {g : Nat → Int32} {dn n d : Nat} (hI : BI g dn n) (h0 : 2 ≤ pNum g d true n) (h2 : ¬ pMean g n d false = -1) : (pDiv (pMean g n d true) (nI 10) + pDiv (pMean g n d false - nI 450) (nI 10) - g (5 + 2) < -20 ∨ nI 20 < pDiv (pMean g n d true) (nI 10) + pDiv (pMean g n d false - nI 450) (nI 10) - g (5 + 2)) ↔ ¬ pIn (pIndex g n d) (nI 980) (nI 1020) = true := by
  have h1 : ¬ pMean g n d true = -1 := by
    rcases pMean_nI (d := d) (q := true) hI with ⟨a, -⟩ | ⟨y, hy, -, e⟩
    · omega
    · rw [if_pos rfl] at hy; rw [e]; exact nI_m1 (by omega)
  obtain ⟨y, hy, ey⟩ := pMean_d hI h1
  obtain ⟨s, hs, es⟩ := pMean_d hI h2
  obtain ⟨x, hx, ex⟩ := hI.st.2.2
  rw [if_pos rfl] at hy
  rw [if_neg (by decide)] at hs
  have a1 : (pDiv (pMean g n d true) (nI 10)).toInt = (y : Int) / 10 := by rw [pDiv_toInt (by decide) (by decide), ey, nI_toInt (by omega)]; rfl
  have a2 : (pDiv (pMean g n d false - nI 450) (nI 10)).toInt = ((s : Int) - 450) / 10 := by rw [pDiv_toInt (by decide) (by decide), es, pk_sub_toInt (by omega) (by omega)]; rfl
  have a3 : (g (5 + 2)).toInt = (x : Int) := by rw [show g (5 + 2) = nI x from ex, nI_toInt (by omega)]
  have a4 : (pDiv (pMean g n d true) (nI 10) + pDiv (pMean g n d false - nI 450) (nI 10)).toInt = (y : Int) / 10 + ((s : Int) - 450) / 10 := i32_add (by rw [a1, a2]) (by omega) (by omega)
  have a5 : (pDiv (pMean g n d true) (nI 10) + pDiv (pMean g n d false - nI 450) (nI 10) - g (5 + 2)).toInt = (y : Int) / 10 + ((s : Int) - 450) / 10 - x := i32_sub (by rw [a4, a3]) (by omega) (by omega)
  rw [idx_lo a5 (by omega) (by omega), ← pIndex_eq hI h1 h2, Int32.add_comm]
def pSoldv (g : Nat → Int32) (dn n : Nat) (v : Int32) : Int32 := if pNo v dn = true then pWhyS g n (cN v) else nI 13
theorem tX7_whyNotSold {l : Launch} {κ : KP} {M : Mem} {ad : Nat → Nat} {c : Nat} {g : Nat → Int32} {dn n : Nat} {π : Nat → Nat} (hL : LabAt M ad c g dn n π) (hI : BI g dn n) {v : Int32} : fM l κ mX7_whyNotSold [.ref (ad c), .int (v)] M (isI (pSoldv g dn n v) M) := by
  refine fM_of rfl (by decide +kernel) (Nat.le_of_ble_eq_true rfl) ?_
  obtain ⟨fD, hfD, hvD⟩ := hL.drs
  obtain ⟨fS, hfS, hvS⟩ := hL.sps
  obtain ⟨fN, hfN, hvN⟩ := hL.nds
  obtain ⟨fG, hfG, hvG⟩ := hL.dgs
  obtain ⟨fT, hfT, hvT⟩ := hL.sts
  have hdn := hL.dl
  have hn := hL.nl
  show fR l κ mX7_whyNotSold 0 [(0, .ref (ad c)), (1, .int (v))] [] M 0 0 _
  refine r_aload_n dX7_whyNotSold_0 rfl ?_
  refine r_iload_n dX7_whyNotSold_1 rfl ?_
  refine r_callV (As := [.int (v)]) dX7_whyNotSold_2 (tX2_hasDrum hL hI) rfl hL.lab rfl rfl oX2_hasDrum rfl kX7_72M nX2_hasDrum eX2_hasDrum (by unfold fRoom; decide) (Nat.le_of_ble_eq_true rfl) rfl (bc' := 0) (bs' := 0) rfl rfl ?_
  show fR _ _ _ 5 _ (.int (bI (pNo (v) dn)) :: _) _ _ _ _
  refine r_if_neB (tgt := 11) dX7_whyNotSold_5 (by decide) (fun c1 => ?_) (fun c1 => ?_)
  · skip
    obtain ⟨d, hd, ed⟩ := pNo_t c1 (by omega)
    subst ed
    have cd : cN (nI d) = d := nI_clamp (by omega)
    have hle2 : pNum g d true n ≤ n := pNum_le
    refine r_aload_n dX7_whyNotSold_11 rfl ?_
    refine r_get (k := 0) dX7_whyNotSold_12 hL.lab rfl rfl (by decide) kX7_76F ?_
    refine r_iload_n dX7_whyNotSold_15 rfl ?_
    refine r_aldqN dX7_whyNotSold_16 hfD rfl (by omega) (by decide) (hvD _ (by omega)) ?_
    refine r_get (k := 2) dX7_whyNotSold_17 (hL.dr _ (by omega)) rfl rfl (by decide) kX7_80F ?_
    refine r_iconst (v := (-1)) dX7_whyNotSold_20 (by decide) ?_
    refine r_icmp_eq (tgt := 27) dX7_whyNotSold_21 (by decide) (fun c2 => ?_) (fun c2 => ?_)
    · skip
      refine r_aload_n dX7_whyNotSold_27 rfl ?_
      refine r_iload_n dX7_whyNotSold_28 rfl ?_
      refine r_callS (As := [.ref (ad c), .int (nI (d))]) dX7_whyNotSold_29 (tX7_num hL hI) rfl oX7_samplesWithPenetration rfl kX7_85M sX7_samplesWithPenetration (by unfold fRoom; decide) (Nat.le_of_ble_eq_true rfl) rfl (bc' := 0) (bs' := 0) rfl rfl ?_
      show fR _ _ _ 32 _ (.int (nI (pNum g d true n)) :: _) _ _ _ _
      refine r_iconst (v := nI 2) dX7_whyNotSold_32 (by decide) ?_
      refine r_icmp_geN (tgt := 39) dX7_whyNotSold_33 (by decide) (by omega) (by omega) (fun c3 => ?_) (fun c3 => ?_)
      · skip
        refine r_aload_n dX7_whyNotSold_39 rfl ?_
        refine r_iload_n dX7_whyNotSold_40 rfl ?_
        refine r_callS (As := [.ref (ad c), .int (nI (d))]) dX7_whyNotSold_41 (tX7_needles hL hI) rfl oX7_needlesRead rfl kX7_88M sX7_needlesRead (by unfold fRoom; decide) (Nat.le_of_ble_eq_true rfl) rfl (bc' := 0) (bs' := 0) rfl rfl ?_
        show fR _ _ _ 44 _ (.int (bcF (pDMask g d n)) :: _) _ _ _ _
        refine r_iconst (v := nI 2) dX7_whyNotSold_44 (by decide) ?_
        refine r_icmp_ge (tgt := 51) dX7_whyNotSold_45 (by decide) (fun c4 => ?_) (fun c4 => ?_)
        · skip
          refine r_aload_n dX7_whyNotSold_51 rfl ?_
          refine r_iload_n dX7_whyNotSold_52 rfl ?_
          refine r_callS (As := [.ref (ad c), .int (nI (d))]) dX7_whyNotSold_53 (tX7_meanSoft hL hI) rfl oX7_meanSoftening rfl kX7_53M sX7_meanSoftening (by unfold fRoom; decide) (Nat.le_of_ble_eq_true rfl) rfl (bc' := 0) (bs' := 0) rfl rfl ?_
          show fR _ _ _ 56 _ (.int (pMean g n d false) :: _) _ _ _ _
          refine r_istore_n (lv' := [(2, .int (pMean g n d false)), (0, .ref (ad c)), (1, .int (nI (d)))]) dX7_whyNotSold_56 (by decide) rfl ?_
          refine r_iload_n dX7_whyNotSold_57 rfl ?_
          refine r_iconst (v := (-1)) dX7_whyNotSold_58 (by decide) ?_
          refine r_icmp_ne (tgt := 65) dX7_whyNotSold_59 (by decide) (fun c5 => ?_) (fun c5 => ?_)
          · skip
            refine r_aload_n dX7_whyNotSold_65 rfl ?_
            refine r_iload_n dX7_whyNotSold_66 rfl ?_
            refine r_callS (As := [.ref (ad c), .int (nI (d))]) dX7_whyNotSold_67 (tX7_meanPen hL hI) rfl oX7_meanPenetration rfl kX7_91M sX7_meanPenetration (by unfold fRoom; decide) (Nat.le_of_ble_eq_true rfl) rfl (bc' := 0) (bs' := 0) rfl rfl ?_
            show fR _ _ _ 70 _ (.int (pMean g n d true) :: _) _ _ _ _
            refine r_iload_n dX7_whyNotSold_70 rfl ?_
            refine r_aload_n dX7_whyNotSold_71 rfl ?_
            refine r_get (k := 4) dX7_whyNotSold_72 hL.lab rfl rfl (by decide) kX7_24F ?_
            refine r_iconst (v := nI 2) dX7_whyNotSold_75 (by decide) ?_
            refine r_ialdN dX7_whyNotSold_76 hfT (by omega) (by decide) (hvT _ (by omega)) ?_
            refine r_callS (As := [.int (pMean g n d true), .int (pMean g n d false), .int (g (5 + (2)))]) dX7_whyNotSold_77 tX7_index rfl oX7_index rfl kX7_59M sX7_index (by unfold fRoom; decide) (Nat.le_of_ble_eq_true rfl) rfl (bc' := 0) (bs' := 0) rfl rfl ?_
            show fR _ _ _ 80 _ (.int ((pDiv (pMean g n d true) (nI 10) + pDiv ((pMean g n d false) - nI 450) (nI 10) - (g (5 + (2))))) :: _) _ _ _ _
            refine r_istore_n (lv' := [(3, .int ((pDiv (pMean g n d true) (nI 10) + pDiv ((pMean g n d false) - nI 450) (nI 10) - (g (5 + (2)))))), (2, .int (pMean g n d false)), (0, .ref (ad c)), (1, .int (nI (d)))]) dX7_whyNotSold_80 (by decide) rfl ?_
            refine r_iload_n dX7_whyNotSold_81 rfl ?_
            refine r_bipush (v := (-20)) dX7_whyNotSold_82 (by decide) ?_
            refine r_icmp_lt (tgt := 93) dX7_whyNotSold_84 (by decide) (fun c6 => ?_) (fun c6 => ?_)
            · skip
              refine r_bipush (v := nI 12) dX7_whyNotSold_93 (by decide) ?_
              refine r_goto (tgt := 99) dX7_whyNotSold_95 (by decide) ?_
              refine fR_iret dX7_whyNotSold_99 rfl (isI_of ?_)
              unfold pSoldv; rw [if_pos (by assumption), cd]
              rw [pWhyS_4 (by assumption) (by omega) (fun h => absurd (by assumption) (Int32.not_le.mpr ((few_needles hI (by omega)).mpr h)))]
              rw [if_neg (by assumption), if_neg ((idx_eq hI (by omega) (by assumption)).mp (Or.inl (by assumption)))]
            · skip
              refine r_iload_n dX7_whyNotSold_87 rfl ?_
              refine r_bipush (v := nI 20) dX7_whyNotSold_88 (by decide) ?_
              refine r_icmp_le (tgt := 98) dX7_whyNotSold_90 (by decide) (fun c7 => ?_) (fun c7 => ?_)
              · skip
                refine r_iconst (v := nI 0) dX7_whyNotSold_98 (by decide) ?_
                refine fR_iret dX7_whyNotSold_99 rfl (isI_of ?_)
                unfold pSoldv; rw [if_pos (by assumption), cd]
                rw [pWhyS_4 (by assumption) (by omega) (fun h => absurd (by assumption) (Int32.not_le.mpr ((few_needles hI (by omega)).mpr h)))]
                rw [if_neg (by assumption), if_pos (Decidable.not_not.mp (fun h => ((idx_eq hI (by omega) (by assumption)).mpr h).elim (by assumption) (Int32.not_lt.mpr (by assumption))))]
              · skip
                refine r_bipush (v := nI 12) dX7_whyNotSold_93 (by decide) ?_
                refine r_goto (tgt := 99) dX7_whyNotSold_95 (by decide) ?_
                refine fR_iret dX7_whyNotSold_99 rfl (isI_of ?_)
                unfold pSoldv; rw [if_pos (by assumption), cd]
                rw [pWhyS_4 (by assumption) (by omega) (fun h => absurd (by assumption) (Int32.not_le.mpr ((few_needles hI (by omega)).mpr h)))]
                rw [if_neg (by assumption), if_neg ((idx_eq hI (by omega) (by assumption)).mp (Or.inr (Int32.not_le.mp (by assumption))))]
          · skip
            refine r_bipush (v := nI 11) dX7_whyNotSold_62 (by decide) ?_
            refine fR_iret dX7_whyNotSold_64 rfl (isI_of ?_)
            unfold pSoldv; rw [if_pos (by assumption), cd]
            rw [pWhyS_4 (by assumption) (by omega) (fun h => absurd (by assumption) (Int32.not_le.mpr ((few_needles hI (by omega)).mpr h)))]
            rw [if_pos (by assumption)]
        · skip
          refine r_bipush (v := nI 10) dX7_whyNotSold_48 (by decide) ?_
          refine fR_iret dX7_whyNotSold_50 rfl (isI_of ?_)
          unfold pSoldv; rw [if_pos (by assumption), cd]
          rw [pWhyS_3 (by assumption) (by omega) ((few_needles hI (by omega)).mp (Int32.not_le.mp (by assumption)))]
      · skip
        refine r_bipush (v := nI 9) dX7_whyNotSold_36 (by decide) ?_
        refine fR_iret dX7_whyNotSold_38 rfl (isI_of ?_)
        unfold pSoldv; rw [if_pos (by assumption), cd]
        unfold pWhyS; rw [if_neg (not_not_intro (by assumption)), if_pos (by omega)]
    · skip
      refine r_bipush (v := nI 15) dX7_whyNotSold_24 (by decide) ?_
      refine fR_iret dX7_whyNotSold_26 rfl (isI_of ?_)
      unfold pSoldv; rw [if_pos (by assumption), cd]
      unfold pWhyS; rw [if_pos (by assumption)]
  · skip
    refine r_bipush (v := nI 13) dX7_whyNotSold_8 (by decide) ?_
    exact fR_iret dX7_whyNotSold_10 rfl (isI_of (by unfold pSoldv; rw [if_neg (bne_of (by assumption))]))
theorem pHard_N {g : Nat → Int32} {d s y : Nat} (h1 : 20 ≤ s) (h2 : s ≤ 300) (h3 : y ≤ 999) (es : g (10 + 3 * d + 0) = nI s) (ey : g (10 + 3 * d + 1) = nI y) : pHard g d = nI (1000 / s + y / 10) := by
  unfold pHard
  rw [es, ey, pk_div (by omega) (by omega) (by omega), pk_div (by omega) (by omega) (by omega), nI_add]
theorem tX7_number_0 {l : Launch} {κ : KP} {M : Mem} {ad : Nat → Nat} {c : Nat} {g : Nat → Int32} {dn n : Nat} {π : Nat → Nat} (hL : LabAt M ad c g dn n π) (hI : BI g dn n) {d : Nat} (hd : d < dn) : fM l κ mX7_number [.ref (ad c), .int (nI (d)), .int (nI (0))] M (isI (pOfDrum g n d 0) M) := by
  refine fM_of rfl (by decide +kernel) (Nat.le_of_ble_eq_true rfl) ?_
  obtain ⟨fD, hfD, hvD⟩ := hL.drs
  obtain ⟨fS, hfS, hvS⟩ := hL.sps
  obtain ⟨fN, hfN, hvN⟩ := hL.nds
  obtain ⟨fG, hfG, hvG⟩ := hL.dgs
  obtain ⟨fT, hfT, hvT⟩ := hL.sts
  have hdn := hL.dl
  have hn := hL.nl
  obtain ⟨⟨s, hs1, hs2, es⟩, ⟨y, hy, ey⟩, -⟩ := hI.dr d hd
  show fR l κ mX7_number 0 [(0, .ref (ad c)), (1, .int (nI (d))), (2, .int (nI (0)))] [] M 0 0 _
  refine r_iload_n dX7_number_0 rfl ?_
  refine r_tableIn (off := 47) (tgt := 48) dX7_number_1 (by decide) (by decide) (by decide) (by decide) ?_
  refine r_aload_n dX7_number_48 rfl ?_
  refine r_get (k := 0) dX7_number_49 hL.lab rfl rfl (by decide) kX7_76F ?_
  refine r_iload_n dX7_number_52 rfl ?_
  refine r_aldqN dX7_number_53 hfD rfl (by omega) (by decide) (hvD _ (by omega)) ?_
  refine r_get (k := 0) dX7_number_54 (hL.dr _ (by omega)) rfl rfl (by decide) kX7_94F ?_
  exact fR_iret dX7_number_57 rfl (isI_of (by first | rfl | exact (pHard_N hs1 hs2 hy es ey).symm))
theorem tX7_number_1 {l : Launch} {κ : KP} {M : Mem} {ad : Nat → Nat} {c : Nat} {g : Nat → Int32} {dn n : Nat} {π : Nat → Nat} (hL : LabAt M ad c g dn n π) (hI : BI g dn n) {d : Nat} (hd : d < dn) : fM l κ mX7_number [.ref (ad c), .int (nI (d)), .int (nI (1))] M (isI (pOfDrum g n d 1) M) := by
  refine fM_of rfl (by decide +kernel) (Nat.le_of_ble_eq_true rfl) ?_
  obtain ⟨fD, hfD, hvD⟩ := hL.drs
  obtain ⟨fS, hfS, hvS⟩ := hL.sps
  obtain ⟨fN, hfN, hvN⟩ := hL.nds
  obtain ⟨fG, hfG, hvG⟩ := hL.dgs
  obtain ⟨fT, hfT, hvT⟩ := hL.sts
  have hdn := hL.dl
  have hn := hL.nl
  obtain ⟨⟨s, hs1, hs2, es⟩, ⟨y, hy, ey⟩, -⟩ := hI.dr d hd
  show fR l κ mX7_number 0 [(0, .ref (ad c)), (1, .int (nI (d))), (2, .int (nI (1)))] [] M 0 0 _
  refine r_iload_n dX7_number_0 rfl ?_
  refine r_tableIn (off := 57) (tgt := 58) dX7_number_1 (by decide) (by decide) (by decide) (by decide) ?_
  refine r_aload_n dX7_number_58 rfl ?_
  refine r_get (k := 0) dX7_number_59 hL.lab rfl rfl (by decide) kX7_76F ?_
  refine r_iload_n dX7_number_62 rfl ?_
  refine r_aldqN dX7_number_63 hfD rfl (by omega) (by decide) (hvD _ (by omega)) ?_
  refine r_get (k := 1) dX7_number_64 (hL.dr _ (by omega)) rfl rfl (by decide) kX7_97F ?_
  exact fR_iret dX7_number_67 rfl (isI_of (by first | rfl | exact (pHard_N hs1 hs2 hy es ey).symm))
theorem tX7_number_2 {l : Launch} {κ : KP} {M : Mem} {ad : Nat → Nat} {c : Nat} {g : Nat → Int32} {dn n : Nat} {π : Nat → Nat} (hL : LabAt M ad c g dn n π) (hI : BI g dn n) {d : Nat} (hd : d < dn) : fM l κ mX7_number [.ref (ad c), .int (nI (d)), .int (nI (2))] M (isI (pOfDrum g n d 2) M) := by
  refine fM_of rfl (by decide +kernel) (Nat.le_of_ble_eq_true rfl) ?_
  obtain ⟨fD, hfD, hvD⟩ := hL.drs
  obtain ⟨fS, hfS, hvS⟩ := hL.sps
  obtain ⟨fN, hfN, hvN⟩ := hL.nds
  obtain ⟨fG, hfG, hvG⟩ := hL.dgs
  obtain ⟨fT, hfT, hvT⟩ := hL.sts
  have hdn := hL.dl
  have hn := hL.nl
  obtain ⟨⟨s, hs1, hs2, es⟩, ⟨y, hy, ey⟩, -⟩ := hI.dr d hd
  show fR l κ mX7_number 0 [(0, .ref (ad c)), (1, .int (nI (d))), (2, .int (nI (2)))] [] M 0 0 _
  refine r_iload_n dX7_number_0 rfl ?_
  refine r_tableIn (off := 67) (tgt := 68) dX7_number_1 (by decide) (by decide) (by decide) (by decide) ?_
  refine r_aload_n dX7_number_68 rfl ?_
  refine r_get (k := 0) dX7_number_69 hL.lab rfl rfl (by decide) kX7_76F ?_
  refine r_iload_n dX7_number_72 rfl ?_
  refine r_aldqN dX7_number_73 hfD rfl (by omega) (by decide) (hvD _ (by omega)) ?_
  refine r_callV (As := []) dX7_number_74 (tX0_hardness (s := s) (y := y) (z := g (10 + 3 * d + 2)) (by omega) (by omega) (by omega) (by rw [← es, ← ey]; exact hL.dr d hd)) rfl (hL.dr _ (by omega)) rfl rfl oX0_hardness rfl kX7_100M nX0_hardness eX0_hardness (by unfold fRoom; decide) (Nat.le_of_ble_eq_true rfl) rfl (bc' := 0) (bs' := 0) rfl rfl ?_
  show fR _ _ _ 77 _ (.int (nI ((1000 / s + y / 10))) :: _) _ _ _ _
  exact fR_iret dX7_number_77 rfl (isI_of (by first | rfl | exact (pHard_N hs1 hs2 hy es ey).symm))
theorem tX7_number_3 {l : Launch} {κ : KP} {M : Mem} {ad : Nat → Nat} {c : Nat} {g : Nat → Int32} {dn n : Nat} {π : Nat → Nat} (hL : LabAt M ad c g dn n π) (hI : BI g dn n) {d : Nat} (hd : d < dn) : fM l κ mX7_number [.ref (ad c), .int (nI (d)), .int (nI (3))] M (isI (pOfDrum g n d 3) M) := by
  refine fM_of rfl (by decide +kernel) (Nat.le_of_ble_eq_true rfl) ?_
  obtain ⟨fD, hfD, hvD⟩ := hL.drs
  obtain ⟨fS, hfS, hvS⟩ := hL.sps
  obtain ⟨fN, hfN, hvN⟩ := hL.nds
  obtain ⟨fG, hfG, hvG⟩ := hL.dgs
  obtain ⟨fT, hfT, hvT⟩ := hL.sts
  have hdn := hL.dl
  have hn := hL.nl
  obtain ⟨⟨s, hs1, hs2, es⟩, ⟨y, hy, ey⟩, -⟩ := hI.dr d hd
  show fR l κ mX7_number 0 [(0, .ref (ad c)), (1, .int (nI (d))), (2, .int (nI (3)))] [] M 0 0 _
  refine r_iload_n dX7_number_0 rfl ?_
  refine r_tableIn (off := 77) (tgt := 78) dX7_number_1 (by decide) (by decide) (by decide) (by decide) ?_
  refine r_aload_n dX7_number_78 rfl ?_
  refine r_iload_n dX7_number_79 rfl ?_
  refine r_callS (As := [.ref (ad c), .int (nI (d))]) dX7_number_80 (tX7_samplesOf hL hI) rfl oX7_samplesOf rfl kX7_103M sX7_samplesOf (by unfold fRoom; decide) (Nat.le_of_ble_eq_true rfl) rfl (bc' := 0) (bs' := 0) rfl rfl ?_
  show fR _ _ _ 83 _ (.int (nI (pSamplesOf g d n)) :: _) _ _ _ _
  exact fR_iret dX7_number_83 rfl (isI_of (by first | rfl | exact (pHard_N hs1 hs2 hy es ey).symm))
theorem tX7_number_4 {l : Launch} {κ : KP} {M : Mem} {ad : Nat → Nat} {c : Nat} {g : Nat → Int32} {dn n : Nat} {π : Nat → Nat} (hL : LabAt M ad c g dn n π) (hI : BI g dn n) {d : Nat} (hd : d < dn) : fM l κ mX7_number [.ref (ad c), .int (nI (d)), .int (nI (4))] M (isI (pOfDrum g n d 4) M) := by
  refine fM_of rfl (by decide +kernel) (Nat.le_of_ble_eq_true rfl) ?_
  obtain ⟨fD, hfD, hvD⟩ := hL.drs
  obtain ⟨fS, hfS, hvS⟩ := hL.sps
  obtain ⟨fN, hfN, hvN⟩ := hL.nds
  obtain ⟨fG, hfG, hvG⟩ := hL.dgs
  obtain ⟨fT, hfT, hvT⟩ := hL.sts
  have hdn := hL.dl
  have hn := hL.nl
  obtain ⟨⟨s, hs1, hs2, es⟩, ⟨y, hy, ey⟩, -⟩ := hI.dr d hd
  show fR l κ mX7_number 0 [(0, .ref (ad c)), (1, .int (nI (d))), (2, .int (nI (4)))] [] M 0 0 _
  refine r_iload_n dX7_number_0 rfl ?_
  refine r_tableIn (off := 83) (tgt := 84) dX7_number_1 (by decide) (by decide) (by decide) (by decide) ?_
  refine r_aload_n dX7_number_84 rfl ?_
  refine r_iload_n dX7_number_85 rfl ?_
  refine r_callS (As := [.ref (ad c), .int (nI (d))]) dX7_number_86 (tX7_meanPen hL hI) rfl oX7_meanPenetration rfl kX7_91M sX7_meanPenetration (by unfold fRoom; decide) (Nat.le_of_ble_eq_true rfl) rfl (bc' := 0) (bs' := 0) rfl rfl ?_
  show fR _ _ _ 89 _ (.int (pMean g n d true) :: _) _ _ _ _
  exact fR_iret dX7_number_89 rfl (isI_of (by first | rfl | exact (pHard_N hs1 hs2 hy es ey).symm))
theorem tX7_number_5 {l : Launch} {κ : KP} {M : Mem} {ad : Nat → Nat} {c : Nat} {g : Nat → Int32} {dn n : Nat} {π : Nat → Nat} (hL : LabAt M ad c g dn n π) (hI : BI g dn n) {d : Nat} (hd : d < dn) : fM l κ mX7_number [.ref (ad c), .int (nI (d)), .int (nI (5))] M (isI (pOfDrum g n d 5) M) := by
  refine fM_of rfl (by decide +kernel) (Nat.le_of_ble_eq_true rfl) ?_
  obtain ⟨fD, hfD, hvD⟩ := hL.drs
  obtain ⟨fS, hfS, hvS⟩ := hL.sps
  obtain ⟨fN, hfN, hvN⟩ := hL.nds
  obtain ⟨fG, hfG, hvG⟩ := hL.dgs
  obtain ⟨fT, hfT, hvT⟩ := hL.sts
  have hdn := hL.dl
  have hn := hL.nl
  obtain ⟨⟨s, hs1, hs2, es⟩, ⟨y, hy, ey⟩, -⟩ := hI.dr d hd
  show fR l κ mX7_number 0 [(0, .ref (ad c)), (1, .int (nI (d))), (2, .int (nI (5)))] [] M 0 0 _
  refine r_iload_n dX7_number_0 rfl ?_
  refine r_tableIn (off := 89) (tgt := 90) dX7_number_1 (by decide) (by decide) (by decide) (by decide) ?_
  refine r_aload_n dX7_number_90 rfl ?_
  refine r_iload_n dX7_number_91 rfl ?_
  refine r_callS (As := [.ref (ad c), .int (nI (d))]) dX7_number_92 (tX7_meanSoft hL hI) rfl oX7_meanSoftening rfl kX7_53M sX7_meanSoftening (by unfold fRoom; decide) (Nat.le_of_ble_eq_true rfl) rfl (bc' := 0) (bs' := 0) rfl rfl ?_
  show fR _ _ _ 95 _ (.int (pMean g n d false) :: _) _ _ _ _
  exact fR_iret dX7_number_95 rfl (isI_of (by first | rfl | exact (pHard_N hs1 hs2 hy es ey).symm))
theorem tX7_number_6 {l : Launch} {κ : KP} {M : Mem} {ad : Nat → Nat} {c : Nat} {g : Nat → Int32} {dn n : Nat} {π : Nat → Nat} (hL : LabAt M ad c g dn n π) (hI : BI g dn n) {d : Nat} (hd : d < dn) : fM l κ mX7_number [.ref (ad c), .int (nI (d)), .int (nI (6))] M (isI (pOfDrum g n d 6) M) := by
  refine fM_of rfl (by decide +kernel) (Nat.le_of_ble_eq_true rfl) ?_
  obtain ⟨fD, hfD, hvD⟩ := hL.drs
  obtain ⟨fS, hfS, hvS⟩ := hL.sps
  obtain ⟨fN, hfN, hvN⟩ := hL.nds
  obtain ⟨fG, hfG, hvG⟩ := hL.dgs
  obtain ⟨fT, hfT, hvT⟩ := hL.sts
  have hdn := hL.dl
  have hn := hL.nl
  obtain ⟨⟨s, hs1, hs2, es⟩, ⟨y, hy, ey⟩, -⟩ := hI.dr d hd
  show fR l κ mX7_number 0 [(0, .ref (ad c)), (1, .int (nI (d))), (2, .int (nI (6)))] [] M 0 0 _
  refine r_iload_n dX7_number_0 rfl ?_
  refine r_tableIn (off := 95) (tgt := 96) dX7_number_1 (by decide) (by decide) (by decide) (by decide) ?_
  refine r_aload_n dX7_number_96 rfl ?_
  refine r_iload_n dX7_number_97 rfl ?_
  refine r_aload_n dX7_number_98 rfl ?_
  refine r_iload_n dX7_number_99 rfl ?_
  refine r_callS (As := [.ref (ad c), .int (nI (d))]) dX7_number_100 (tX7_meanPen hL hI) rfl oX7_meanPenetration rfl kX7_91M sX7_meanPenetration (by unfold fRoom; decide) (Nat.le_of_ble_eq_true rfl) rfl (bc' := 0) (bs' := 0) rfl rfl ?_
  show fR _ _ _ 103 _ (.int (pMean g n d true) :: _) _ _ _ _
  refine r_callS (As := [.ref (ad c), .int (nI (d)), .int (pMean g n d true)]) dX7_number_103 (tX7_shown hL hI) rfl oX7_shownIndex rfl kX7_106M sX7_shownIndex (by unfold fRoom; decide) (Nat.le_of_ble_eq_true rfl) rfl (bc' := 0) (bs' := 0) rfl rfl ?_
  show fR _ _ _ 106 _ (.int (pIndex g n d) :: _) _ _ _ _
  exact fR_iret dX7_number_106 rfl (isI_of (by first | rfl | exact (pHard_N hs1 hs2 hy es ey).symm))
theorem tX7_number_7 {l : Launch} {κ : KP} {M : Mem} {ad : Nat → Nat} {c : Nat} {g : Nat → Int32} {dn n : Nat} {π : Nat → Nat} (hL : LabAt M ad c g dn n π) (hI : BI g dn n) {d : Nat} (hd : d < dn) : fM l κ mX7_number [.ref (ad c), .int (nI (d)), .int (nI (7))] M (isI (pOfDrum g n d 7) M) := by
  refine fM_of rfl (by decide +kernel) (Nat.le_of_ble_eq_true rfl) ?_
  obtain ⟨fD, hfD, hvD⟩ := hL.drs
  obtain ⟨fS, hfS, hvS⟩ := hL.sps
  obtain ⟨fN, hfN, hvN⟩ := hL.nds
  obtain ⟨fG, hfG, hvG⟩ := hL.dgs
  obtain ⟨fT, hfT, hvT⟩ := hL.sts
  have hdn := hL.dl
  have hn := hL.nl
  obtain ⟨⟨s, hs1, hs2, es⟩, ⟨y, hy, ey⟩, -⟩ := hI.dr d hd
  show fR l κ mX7_number 0 [(0, .ref (ad c)), (1, .int (nI (d))), (2, .int (nI (7)))] [] M 0 0 _
  refine r_iload_n dX7_number_0 rfl ?_
  refine r_tableIn (off := 106) (tgt := 107) dX7_number_1 (by decide) (by decide) (by decide) (by decide) ?_
  refine r_aload_n dX7_number_107 rfl ?_
  refine r_iload_n dX7_number_108 rfl ?_
  refine r_aload_n dX7_number_109 rfl ?_
  refine r_iload_n dX7_number_110 rfl ?_
  refine r_callS (As := [.ref (ad c), .int (nI (d))]) dX7_number_111 (tX7_meanBy hL hI) rfl oX7_meanByReadings rfl kX7_110M sX7_meanByReadings (by unfold fRoom; decide) (Nat.le_of_ble_eq_true rfl) rfl (bc' := 0) (bs' := 0) rfl rfl ?_
  show fR _ _ _ 114 _ (.int (pMean g n d true) :: _) _ _ _ _
  refine r_callS (As := [.ref (ad c), .int (nI (d)), .int (pMean g n d true)]) dX7_number_114 (tX7_shown hL hI) rfl oX7_shownIndex rfl kX7_106M sX7_shownIndex (by unfold fRoom; decide) (Nat.le_of_ble_eq_true rfl) rfl (bc' := 0) (bs' := 0) rfl rfl ?_
  show fR _ _ _ 117 _ (.int (pIndex g n d) :: _) _ _ _ _
  exact fR_iret dX7_number_117 rfl (isI_of (by first | rfl | exact (pHard_N hs1 hs2 hy es ey).symm))
theorem tX7_number_8 {l : Launch} {κ : KP} {M : Mem} {ad : Nat → Nat} {c : Nat} {g : Nat → Int32} {dn n : Nat} {π : Nat → Nat} (hL : LabAt M ad c g dn n π) (hI : BI g dn n) {d : Nat} (hd : d < dn) : fM l κ mX7_number [.ref (ad c), .int (nI (d)), .int (nI (8))] M (isI (pOfDrum g n d 8) M) := by
  refine fM_of rfl (by decide +kernel) (Nat.le_of_ble_eq_true rfl) ?_
  obtain ⟨fD, hfD, hvD⟩ := hL.drs
  obtain ⟨fS, hfS, hvS⟩ := hL.sps
  obtain ⟨fN, hfN, hvN⟩ := hL.nds
  obtain ⟨fG, hfG, hvG⟩ := hL.dgs
  obtain ⟨fT, hfT, hvT⟩ := hL.sts
  have hdn := hL.dl
  have hn := hL.nl
  obtain ⟨⟨s, hs1, hs2, es⟩, ⟨y, hy, ey⟩, -⟩ := hI.dr d hd
  show fR l κ mX7_number 0 [(0, .ref (ad c)), (1, .int (nI (d))), (2, .int (nI (8)))] [] M 0 0 _
  refine r_iload_n dX7_number_0 rfl ?_
  refine r_tableOut (tgt := 118) dX7_number_1 (by decide) (by decide) ?_
  refine r_aload_n dX7_number_118 rfl ?_
  refine r_get (k := 0) dX7_number_119 hL.lab rfl rfl (by decide) kX7_76F ?_
  refine r_iload_n dX7_number_122 rfl ?_
  refine r_aldqN dX7_number_123 hfD rfl (by omega) (by decide) (hvD _ (by omega)) ?_
  refine r_get (k := 2) dX7_number_124 (hL.dr _ (by omega)) rfl rfl (by decide) kX7_80F ?_
  exact fR_iret dX7_number_127 rfl (isI_of (by first | rfl | exact (pHard_N hs1 hs2 hy es ey).symm))
theorem tX7_number {l : Launch} {κ : KP} {M : Mem} {ad : Nat → Nat} {c : Nat} {g : Nat → Int32} {dn n : Nat} {π : Nat → Nat} (hL : LabAt M ad c g dn n π) (hI : BI g dn n) {d : Nat} (hd : d < dn) : ∀ {w : Nat}, w < 9 → fM l κ mX7_number [.ref (ad c), .int (nI d), .int (nI w)] M (isI (pOfDrum g n d w) M)
  | 0, _ => tX7_number_0 hL hI hd
  | 1, _ => tX7_number_1 hL hI hd
  | 2, _ => tX7_number_2 hL hI hd
  | 3, _ => tX7_number_3 hL hI hd
  | 4, _ => tX7_number_4 hL hI hd
  | 5, _ => tX7_number_5 hL hI hd
  | 6, _ => tX7_number_6 hL hI hd
  | 7, _ => tX7_number_7 hL hI hd
  | 8, _ => tX7_number_8 hL hI hd
  | x + 9, h => by omega
