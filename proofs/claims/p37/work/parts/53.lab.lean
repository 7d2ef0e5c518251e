/-! WHAT A LABORATORY TELLS -/
theorem pNo_c1 {v : Int32} {n : Nat} (h : v < 0) : nI 0 = bI (pNo v n) := pIn_f1 h
theorem pNo_lt {v : Int32} {n : Nat} (hn : n < 2 ^ 30) : (nI n - nI 1 < v ↔ nI n ≤ v) := by
  rw [i32_lt, i32_le, pk_sub_toInt hn (by decide), nI_toInt (by omega)]; omega
theorem pNo_c2 {v : Int32} {n : Nat} (hn : n < 2 ^ 30) (h : nI n ≤ v) : nI 0 = bI (pNo v n) := pIn_f2 ((pNo_lt hn).mpr h)
theorem pNo_c3 {v : Int32} {n : Nat} (hn : n < 2 ^ 30) (h1 : ¬ v < 0) (h2 : ¬ nI n ≤ v) : nI 1 = bI (pNo v n) := pIn_t h1 (fun h => h2 ((pNo_lt hn).mp h))
theorem absN {a b : Nat} (ha : a < 2 ^ 30) (hb : b < 2 ^ 30) : (if 0 ≤ nI a - nI b then nI a - nI b else 0 - (nI a - nI b)) = nI (a - b + (b - a)) := by
  have e := pk_sub_toInt ha hb
  apply i32_ext
  rw [nI_toInt (by omega)]
  by_cases c : 0 ≤ nI a - nI b
  · rw [if_pos c, e]; rw [i32_le, e, i32_0] at c; omega
  · rw [if_neg c, i32_sub (z := (b : Int) - a) (by rw [e, i32_0]; omega) (by omega) (by omega)]; rw [i32_le, e, i32_0] at c; omega
theorem pAbsN {a b : Nat} (ha : a < 2 ^ 30) (hb : b < 2 ^ 30) : pAbs (nI a - nI b) = nI (a - b + (b - a)) := by
  have e := pk_sub_toInt ha hb
  apply i32_ext
  rw [nI_toInt (by omega)]
  unfold pAbs
  by_cases c : nI a - nI b < 0
  · rw [if_pos c]; rw [i32_lt, e, i32_0] at c; rw [← Int32.zero_sub, i32_sub (z := (b : Int) - a) (by rw [e, i32_0]; omega) (by omega) (by omega)]; omega
  · rw [if_neg c, e]; rw [i32_lt, e, i32_0] at c; omega
theorem abs_eq {a b : Nat} (ha : a < 2 ^ 30) (hb : b < 2 ^ 30) : (if 0 ≤ nI a - nI b then nI a - nI b else 0 - (nI a - nI b)) = pAbs (nI b - nI a) := by
  rw [absN ha hb, pAbsN hb ha, Nat.add_comm]
theorem tX2_hasDrum {l : Launch} {κ : KP} {M : Mem} {ad : Nat → Nat} {c : Nat} {g : Nat → Int32} {dn n : Nat} {π : Nat → Nat} (hL : LabAt M ad c g dn n π) (hI : BI g dn n) {v : Int32} : fM l κ mX2_hasDrum [.ref (ad c), .int (v)] M (isI (bI (pNo v dn)) M) := by
  refine fM_of rfl (by decide +kernel) (Nat.le_of_ble_eq_true rfl) ?_
  obtain ⟨fD, hfD, hvD⟩ := hL.drs
  obtain ⟨fS, hfS, hvS⟩ := hL.sps
  obtain ⟨fN, hfN, hvN⟩ := hL.nds
  obtain ⟨fG, hfG, hvG⟩ := hL.dgs
  obtain ⟨fT, hfT, hvT⟩ := hL.sts
  have hdn := hL.dl
  have hn := hL.nl
  show fR l κ mX2_hasDrum 0 [(0, .ref (ad c)), (1, .int (v))] [] M 0 0 _
  refine r_iload_n dX2_hasDrum_0 rfl ?_
  refine r_if_lt (tgt := 16) dX2_hasDrum_1 (by decide) (fun c1 => ?_) (fun c1 => ?_)
  · skip
    refine r_iconst (v := nI 0) dX2_hasDrum_16 (by decide) ?_
    exact fR_zret dX2_hasDrum_17 rfl rfl (isI_of (by first | exact pNo_c1 (by assumption) | exact pNo_c2 (by omega) (by assumption) | exact pNo_c3 (by omega) (by assumption) (by assumption)))
  · skip
    refine r_iload_n dX2_hasDrum_4 rfl ?_
    refine r_aload_n dX2_hasDrum_5 rfl ?_
    refine r_get (k := 5) dX2_hasDrum_6 hL.lab rfl rfl (by decide) kX2_57F ?_
    refine r_icmp_ge (tgt := 16) dX2_hasDrum_9 (by decide) (fun c2 => ?_) (fun c2 => ?_)
    · skip
      refine r_iconst (v := nI 0) dX2_hasDrum_16 (by decide) ?_
      exact fR_zret dX2_hasDrum_17 rfl rfl (isI_of (by first | exact pNo_c1 (by assumption) | exact pNo_c2 (by omega) (by assumption) | exact pNo_c3 (by omega) (by assumption) (by assumption)))
    · skip
      refine r_iconst (v := nI 1) dX2_hasDrum_12 (by decide) ?_
      refine r_goto (tgt := 17) dX2_hasDrum_13 (by decide) ?_
      exact fR_zret dX2_hasDrum_17 rfl rfl (isI_of (by first | exact pNo_c1 (by assumption) | exact pNo_c2 (by omega) (by assumption) | exact pNo_c3 (by omega) (by assumption) (by assumption)))
theorem tX2_hasSample {l : Launch} {κ : KP} {M : Mem} {ad : Nat → Nat} {c : Nat} {g : Nat → Int32} {dn n : Nat} {π : Nat → Nat} (hL : LabAt M ad c g dn n π) (hI : BI g dn n) {v : Int32} : fM l κ mX2_hasSample [.ref (ad c), .int (v)] M (isI (bI (pNo v n)) M) := by
  refine fM_of rfl (by decide +kernel) (Nat.le_of_ble_eq_true rfl) ?_
  obtain ⟨fD, hfD, hvD⟩ := hL.drs
  obtain ⟨fS, hfS, hvS⟩ := hL.sps
  obtain ⟨fN, hfN, hvN⟩ := hL.nds
  obtain ⟨fG, hfG, hvG⟩ := hL.dgs
  obtain ⟨fT, hfT, hvT⟩ := hL.sts
  have hdn := hL.dl
  have hn := hL.nl
  show fR l κ mX2_hasSample 0 [(0, .ref (ad c)), (1, .int (v))] [] M 0 0 _
  refine r_iload_n dX2_hasSample_0 rfl ?_
  refine r_if_lt (tgt := 16) dX2_hasSample_1 (by decide) (fun c1 => ?_) (fun c1 => ?_)
  · skip
    refine r_iconst (v := nI 0) dX2_hasSample_16 (by decide) ?_
    exact fR_zret dX2_hasSample_17 rfl rfl (isI_of (by first | exact pNo_c1 (by assumption) | exact pNo_c2 (by omega) (by assumption) | exact pNo_c3 (by omega) (by assumption) (by assumption)))
  · skip
    refine r_iload_n dX2_hasSample_4 rfl ?_
    refine r_aload_n dX2_hasSample_5 rfl ?_
    refine r_get (k := 6) dX2_hasSample_6 hL.lab rfl rfl (by decide) kX2_64F ?_
    refine r_icmp_ge (tgt := 16) dX2_hasSample_9 (by decide) (fun c2 => ?_) (fun c2 => ?_)
    · skip
      refine r_iconst (v := nI 0) dX2_hasSample_16 (by decide) ?_
      exact fR_zret dX2_hasSample_17 rfl rfl (isI_of (by first | exact pNo_c1 (by assumption) | exact pNo_c2 (by omega) (by assumption) | exact pNo_c3 (by omega) (by assumption) (by assumption)))
    · skip
      refine r_iconst (v := nI 1) dX2_hasSample_12 (by decide) ?_
      refine r_goto (tgt := 17) dX2_hasSample_13 (by decide) ?_
      exact fR_zret dX2_hasSample_17 rfl rfl (isI_of (by first | exact pNo_c1 (by assumption) | exact pNo_c2 (by omega) (by assumption) | exact pNo_c3 (by omega) (by assumption) (by assumption)))
def pTaken (dn n : Nat) (v : Int32) : Int32 := if pNo v dn = true then (if n = 8 then nI 14 else nI 0) else nI 13
def pLaid (g : Nat → Int32) (n : Nat) (v b : Int32) : Int32 := if pNo v n = true then (if b = -1 then nI 0 else if pOf g (cN v) 3 = b ∨ pInBath g n b < 3 then nI 0 else nI 14) else nI 13
def pSoftd (g : Nat → Int32) (n : Nat) (v : Int32) : Int32 := if pNo v n = true then (if pOf g (cN v) 3 = -1 then nI 0 else nI 8) else nI 13
theorem tX2_whyNotTaken {l : Launch} {κ : KP} {M : Mem} {ad : Nat → Nat} {c : Nat} {g : Nat → Int32} {dn n : Nat} {π : Nat → Nat} (hL : LabAt M ad c g dn n π) (hI : BI g dn n) {v : Int32} : fM l κ mX2_whyNotTaken [.ref (ad c), .int (v)] M (isI (pTaken dn n v) M) := by
  refine fM_of rfl (by decide +kernel) (Nat.le_of_ble_eq_true rfl) ?_
  obtain ⟨fD, hfD, hvD⟩ := hL.drs
  obtain ⟨fS, hfS, hvS⟩ := hL.sps
  obtain ⟨fN, hfN, hvN⟩ := hL.nds
  obtain ⟨fG, hfG, hvG⟩ := hL.dgs
  obtain ⟨fT, hfT, hvT⟩ := hL.sts
  have hdn := hL.dl
  have hn := hL.nl
  show fR l κ mX2_whyNotTaken 0 [(0, .ref (ad c)), (1, .int (v))] [] M 0 0 _
  refine r_aload_n dX2_whyNotTaken_0 rfl ?_
  refine r_iload_n dX2_whyNotTaken_1 rfl ?_
  refine r_callV (As := [.int (v)]) dX2_whyNotTaken_2 (tX2_hasDrum hL hI) rfl hL.lab rfl rfl oX2_hasDrum rfl kX2_101M nX2_hasDrum eX2_hasDrum (by unfold fRoom; decide) (Nat.le_of_ble_eq_true rfl) rfl (bc' := 0) (bs' := 0) rfl rfl ?_
  show fR _ _ _ 5 _ (.int (bI (pNo (v) dn)) :: _) _ _ _ _
  refine r_if_neB (tgt := 11) dX2_whyNotTaken_5 (by decide) (fun c1 => ?_) (fun c1 => ?_)
  · skip
    refine r_aload_n dX2_whyNotTaken_11 rfl ?_
    refine r_get (k := 6) dX2_whyNotTaken_12 hL.lab rfl rfl (by decide) kX2_64F ?_
    refine r_bipush (v := nI 8) dX2_whyNotTaken_15 (by decide) ?_
    refine r_icmp_geN (tgt := 24) dX2_whyNotTaken_17 (by decide) (by omega) (by omega) (fun c2 => ?_) (fun c2 => ?_)
    · skip
      refine r_bipush (v := nI 14) dX2_whyNotTaken_24 (by decide) ?_
      exact fR_iret dX2_whyNotTaken_26 rfl (isI_of (by unfold pTaken; (repeat (first | rw [if_pos (by omega)] | rw [if_neg (by omega)] | (first | rw [if_pos (by first | assumption | exact Int32.not_le.mp (by assumption) | exact Int32.not_lt.mp (by assumption) | omega)] | rw [if_neg (by first | assumption | exact Int32.not_lt.mpr (by assumption) | exact Int32.not_le.mpr (by assumption) | exact bne_of (by assumption) | exact not_not_intro (by assumption) | omega)]))); first | done | rfl))
    · skip
      refine r_iconst (v := nI 0) dX2_whyNotTaken_20 (by decide) ?_
      refine r_goto (tgt := 26) dX2_whyNotTaken_21 (by decide) ?_
      exact fR_iret dX2_whyNotTaken_26 rfl (isI_of (by unfold pTaken; (repeat (first | rw [if_pos (by omega)] | rw [if_neg (by omega)] | (first | rw [if_pos (by first | assumption | exact Int32.not_le.mp (by assumption) | exact Int32.not_lt.mp (by assumption) | omega)] | rw [if_neg (by first | assumption | exact Int32.not_lt.mpr (by assumption) | exact Int32.not_le.mpr (by assumption) | exact bne_of (by assumption) | exact not_not_intro (by assumption) | omega)]))); first | done | rfl))
  · skip
    refine r_bipush (v := nI 13) dX2_whyNotTaken_8 (by decide) ?_
    exact fR_iret dX2_whyNotTaken_10 rfl (isI_of (by unfold pTaken; (repeat (first | rw [if_pos (by omega)] | rw [if_neg (by omega)] | (first | rw [if_pos (by first | assumption | exact Int32.not_le.mp (by assumption) | exact Int32.not_lt.mp (by assumption) | omega)] | rw [if_neg (by first | assumption | exact Int32.not_lt.mpr (by assumption) | exact Int32.not_le.mpr (by assumption) | exact bne_of (by assumption) | exact not_not_intro (by assumption) | omega)]))); first | done | rfl))
theorem lX2_samplesIn {l : Launch} {κ : KP} {M : Mem} {ad : Nat → Nat} {c : Nat} {g : Nat → Int32} {dn n : Nat} {π : Nat → Nat} (hL : LabAt M ad c g dn n π) (hI : BI g dn n) {b : Int32} : ∀ (N k : Nat), n < N + k → k ≤ n → fR l κ mX2_samplesIn 4 [(3, .int (nI (k))), (2, .int (nI (pInBath g k b))), (0, .ref (ad c)), (1, .int (b))] [] M 0 0 (isI (nI (pInBath g n b)) M) := by
  obtain ⟨fD, hfD, hvD⟩ := hL.drs
  obtain ⟨fS, hfS, hvS⟩ := hL.sps
  obtain ⟨fN, hfN, hvN⟩ := hL.nds
  obtain ⟨fG, hfG, hvG⟩ := hL.dgs
  obtain ⟨fT, hfT, hvT⟩ := hL.sts
  have hdn := hL.dl
  have hn := hL.nl
  intro N
  induction N with
  | zero => intro k h1 h2; omega
  | succ N ih =>
    intro k h1 h2
    have hle : pInBath g k b ≤ k := pCnt_le _ k
    refine r_iload_n dX2_samplesIn_4 rfl ?_
    refine r_aload_n dX2_samplesIn_5 rfl ?_
    refine r_get (k := 6) dX2_samplesIn_6 hL.lab rfl rfl (by decide) kX2_64F ?_
    refine r_icmp_geN (tgt := 34) dX2_samplesIn_9 (by decide) (by omega) (by omega) (fun c1 => ?_) (fun c1 => ?_)
    · skip
      have e : k = n := by omega
      rw [e]
      refine r_iload_n dX2_samplesIn_34 rfl ?_
      exact fR_iret dX2_samplesIn_35 rfl (isI_of (by rfl))
    · skip
      refine r_aload_n dX2_samplesIn_12 rfl ?_
      refine r_get (k := 1) dX2_samplesIn_13 hL.lab rfl rfl (by decide) kX2_19F ?_
      refine r_iload_n dX2_samplesIn_16 rfl ?_
      refine r_aldqN dX2_samplesIn_17 hfS rfl (by omega) (by decide) (hvS _ (by omega)) ?_
      refine r_get (k := 3) dX2_samplesIn_18 (hL.sp _ (by omega)).1 rfl rfl (by decide) kX2_116F ?_
      refine r_iload_n dX2_samplesIn_21 rfl ?_
      refine r_icmp_ne (tgt := 28) dX2_samplesIn_22 (by decide) (fun c2 => ?_) (fun c2 => ?_)
      · skip
        refine r_iinc (v := (nI (k + 1))) (lv' := [(3, .int (nI (k + 1))), (2, .int (nI (pInBath g k b))), (0, .ref (ad c)), (1, .int (b))]) dX2_samplesIn_28 rfl (nI_inc _) (by decide) rfl ?_
        refine r_goto (tgt := 4) dX2_samplesIn_31 (by decide) ?_
        first | rw [show pInBath g k b + 1 = pInBath g (k + 1) b from pCnt_t (by assumption)] | rw [show pInBath g k b = pInBath g (k + 1) b from pCnt_f (by assumption)]
        exact ih (k + 1) (by omega) (by omega)
      · skip
        refine r_iinc (v := (nI (pInBath g k b + 1))) (lv' := [(2, .int (nI (pInBath g k b + 1))), (3, .int (nI (k))), (0, .ref (ad c)), (1, .int (b))]) dX2_samplesIn_25 rfl (nI_inc _) (by decide) rfl ?_
        refine r_iinc (v := (nI (k + 1))) (lv' := [(3, .int (nI (k + 1))), (2, .int (nI (pInBath g k b + 1))), (0, .ref (ad c)), (1, .int (b))]) dX2_samplesIn_28 rfl (nI_inc _) (by decide) rfl ?_
        refine r_goto (tgt := 4) dX2_samplesIn_31 (by decide) ?_
        first | rw [show pInBath g k b + 1 = pInBath g (k + 1) b from pCnt_t (by assumption)] | rw [show pInBath g k b = pInBath g (k + 1) b from pCnt_f (by assumption)]
        exact ih (k + 1) (by omega) (by omega)
theorem tX2_samplesIn {l : Launch} {κ : KP} {M : Mem} {ad : Nat → Nat} {c : Nat} {g : Nat → Int32} {dn n : Nat} {π : Nat → Nat} (hL : LabAt M ad c g dn n π) (hI : BI g dn n) {b : Int32} : fM l κ mX2_samplesIn [.ref (ad c), .int (b)] M (isI (nI (pInBath g n b)) M) := by
  refine fM_of rfl (by decide +kernel) (Nat.le_of_ble_eq_true rfl) ?_
  obtain ⟨fD, hfD, hvD⟩ := hL.drs
  obtain ⟨fS, hfS, hvS⟩ := hL.sps
  obtain ⟨fN, hfN, hvN⟩ := hL.nds
  obtain ⟨fG, hfG, hvG⟩ := hL.dgs
  obtain ⟨fT, hfT, hvT⟩ := hL.sts
  have hdn := hL.dl
  have hn := hL.nl
  show fR l κ mX2_samplesIn 0 [(0, .ref (ad c)), (1, .int (b))] [] M 0 0 _
  refine r_iconst (v := nI 0) dX2_samplesIn_0 (by decide) ?_
  refine r_istore_n (lv' := [(2, .int (nI (0))), (0, .ref (ad c)), (1, .int (b))]) dX2_samplesIn_1 (by decide) rfl ?_
  refine r_iconst (v := nI 0) dX2_samplesIn_2 (by decide) ?_
  refine r_istore_n (lv' := [(3, .int (nI (0))), (2, .int (nI (0))), (0, .ref (ad c)), (1, .int (b))]) dX2_samplesIn_3 (by decide) rfl ?_
  exact lX2_samplesIn hL hI (n + 1) 0 (by omega) (by omega)
theorem tX2_hasRoomFor {l : Launch} {κ : KP} {M : Mem} {ad : Nat → Nat} {c : Nat} {g : Nat → Int32} {dn n : Nat} {π : Nat → Nat} (hL : LabAt M ad c g dn n π) (hI : BI g dn n) {k : Nat} {b : Int32} (hk : k < n) : fM l κ mX2_hasRoomFor [.ref (ad c), .int (nI (k)), .int (b)] M (isI (bI (decide (pOf g k 3 = b ∨ pInBath g n b < 3))) M) := by
  refine fM_of rfl (by decide +kernel) (Nat.le_of_ble_eq_true rfl) ?_
  obtain ⟨fD, hfD, hvD⟩ := hL.drs
  obtain ⟨fS, hfS, hvS⟩ := hL.sps
  obtain ⟨fN, hfN, hvN⟩ := hL.nds
  obtain ⟨fG, hfG, hvG⟩ := hL.dgs
  obtain ⟨fT, hfT, hvT⟩ := hL.sts
  have hdn := hL.dl
  have hn := hL.nl
  show fR l κ mX2_hasRoomFor 0 [(0, .ref (ad c)), (1, .int (nI (k))), (2, .int (b))] [] M 0 0 _
  refine r_aload_n dX2_hasRoomFor_0 rfl ?_
  refine r_get (k := 1) dX2_hasRoomFor_1 hL.lab rfl rfl (by decide) kX2_19F ?_
  refine r_iload_n dX2_hasRoomFor_4 rfl ?_
  refine r_aldqN dX2_hasRoomFor_5 hfS rfl (by omega) (by decide) (hvS _ (by omega)) ?_
  refine r_get (k := 3) dX2_hasRoomFor_6 (hL.sp _ (by omega)).1 rfl rfl (by decide) kX2_116F ?_
  refine r_iload_n dX2_hasRoomFor_9 rfl ?_
  refine r_icmp_eq (tgt := 22) dX2_hasRoomFor_10 (by decide) (fun c1 => ?_) (fun c1 => ?_)
  · skip
    refine r_iconst (v := nI 1) dX2_hasRoomFor_22 (by decide) ?_
    refine r_goto (tgt := 27) dX2_hasRoomFor_23 (by decide) ?_
    exact fR_zret dX2_hasRoomFor_27 rfl rfl (isI_of (by first | exact bJ_t (decide_eq_true (Or.inl (by assumption))) | exact bJ_t (decide_eq_true (Or.inr (by omega))) | exact bJ_f (decide_eq_false (fun h => h.elim (by assumption) (by omega)))))
  · skip
    refine r_aload_n dX2_hasRoomFor_13 rfl ?_
    refine r_iload_n dX2_hasRoomFor_14 rfl ?_
    refine r_callV (As := [.int (b)]) dX2_hasRoomFor_15 (tX2_samplesIn hL hI) rfl hL.lab rfl rfl oX2_samplesIn rfl kX2_119M nX2_samplesIn eX2_samplesIn (by unfold fRoom; decide) (Nat.le_of_ble_eq_true rfl) rfl (bc' := 0) (bs' := 0) rfl rfl ?_
    show fR _ _ _ 18 _ (.int (nI (pInBath g n (b))) :: _) _ _ _ _
    have hib : pInBath g n (b) ≤ n := pCnt_le _ n
    refine r_iconst (v := nI 3) dX2_hasRoomFor_18 (by decide) ?_
    refine r_icmp_geN (tgt := 26) dX2_hasRoomFor_19 (by decide) (by omega) (by omega) (fun c2 => ?_) (fun c2 => ?_)
    · skip
      refine r_iconst (v := nI 0) dX2_hasRoomFor_26 (by decide) ?_
      exact fR_zret dX2_hasRoomFor_27 rfl rfl (isI_of (by first | exact bJ_t (decide_eq_true (Or.inl (by assumption))) | exact bJ_t (decide_eq_true (Or.inr (by omega))) | exact bJ_f (decide_eq_false (fun h => h.elim (by assumption) (by omega)))))
    · skip
      refine r_iconst (v := nI 1) dX2_hasRoomFor_22 (by decide) ?_
      refine r_goto (tgt := 27) dX2_hasRoomFor_23 (by decide) ?_
      exact fR_zret dX2_hasRoomFor_27 rfl rfl (isI_of (by first | exact bJ_t (decide_eq_true (Or.inl (by assumption))) | exact bJ_t (decide_eq_true (Or.inr (by omega))) | exact bJ_f (decide_eq_false (fun h => h.elim (by assumption) (by omega)))))
theorem tX2_whyNotLaid {l : Launch} {κ : KP} {M : Mem} {ad : Nat → Nat} {c : Nat} {g : Nat → Int32} {dn n : Nat} {π : Nat → Nat} (hL : LabAt M ad c g dn n π) (hI : BI g dn n) {v b : Int32} : fM l κ mX2_whyNotLaid [.ref (ad c), .int (v), .int (b)] M (isI (pLaid g n v b) M) := by
  refine fM_of rfl (by decide +kernel) (Nat.le_of_ble_eq_true rfl) ?_
  obtain ⟨fD, hfD, hvD⟩ := hL.drs
  obtain ⟨fS, hfS, hvS⟩ := hL.sps
  obtain ⟨fN, hfN, hvN⟩ := hL.nds
  obtain ⟨fG, hfG, hvG⟩ := hL.dgs
  obtain ⟨fT, hfT, hvT⟩ := hL.sts
  have hdn := hL.dl
  have hn := hL.nl
  show fR l κ mX2_whyNotLaid 0 [(0, .ref (ad c)), (1, .int (v)), (2, .int (b))] [] M 0 0 _
  refine r_aload_n dX2_whyNotLaid_0 rfl ?_
  refine r_iload_n dX2_whyNotLaid_1 rfl ?_
  refine r_callV (As := [.int (v)]) dX2_whyNotLaid_2 (tX2_hasSample hL hI) rfl hL.lab rfl rfl oX2_hasSample rfl kX2_123M nX2_hasSample eX2_hasSample (by unfold fRoom; decide) (Nat.le_of_ble_eq_true rfl) rfl (bc' := 0) (bs' := 0) rfl rfl ?_
  show fR _ _ _ 5 _ (.int (bI (pNo (v) n)) :: _) _ _ _ _
  refine r_if_neB (tgt := 11) dX2_whyNotLaid_5 (by decide) (fun c1 => ?_) (fun c1 => ?_)
  · skip
    obtain ⟨k0, hk0, ek0⟩ := pNo_t c1 (by omega)
    subst ek0
    have ck0 : cN (nI k0) = k0 := nI_clamp (by omega)
    refine r_iload_n dX2_whyNotLaid_11 rfl ?_
    refine r_iconst (v := (-1)) dX2_whyNotLaid_12 (by decide) ?_
    refine r_icmp_eq (tgt := 25) dX2_whyNotLaid_13 (by decide) (fun c2 => ?_) (fun c2 => ?_)
    · skip
      refine r_iconst (v := nI 0) dX2_whyNotLaid_25 (by decide) ?_
      refine r_goto (tgt := 31) dX2_whyNotLaid_26 (by decide) ?_
      exact fR_iret dX2_whyNotLaid_31 rfl (isI_of (by unfold pLaid; (try simp only [ck0]); (repeat (first | rw [if_pos (by first | assumption | exact Int32.not_le.mp (by assumption) | exact Int32.not_lt.mp (by assumption) | omega)] | rw [if_neg (by first | assumption | exact Int32.not_lt.mpr (by assumption) | exact Int32.not_le.mpr (by assumption) | exact bne_of (by assumption) | exact not_not_intro (by assumption) | omega)])); first | done | rfl))
    · skip
      refine r_aload_n dX2_whyNotLaid_16 rfl ?_
      refine r_iload_n dX2_whyNotLaid_17 rfl ?_
      refine r_iload_n dX2_whyNotLaid_18 rfl ?_
      refine r_callV (As := [.int (nI (k0)), .int (b)]) dX2_whyNotLaid_19 (tX2_hasRoomFor hL hI (by omega)) rfl hL.lab rfl rfl oX2_hasRoomFor rfl kX2_126M nX2_hasRoomFor eX2_hasRoomFor (by unfold fRoom; decide) (Nat.le_of_ble_eq_true rfl) rfl (bc' := 0) (bs' := 0) rfl rfl ?_
      show fR _ _ _ 22 _ (.int (bI (decide (pOf g (k0) 3 = (b) ∨ pInBath g n (b) < 3))) :: _) _ _ _ _
      refine r_if_eqB (tgt := 29) dX2_whyNotLaid_22 (by decide) (fun c3 => ?_) (fun c3 => ?_)
      · skip
        have hr := of_decide_eq_false c3
        refine r_bipush (v := nI 14) dX2_whyNotLaid_29 (by decide) ?_
        exact fR_iret dX2_whyNotLaid_31 rfl (isI_of (by unfold pLaid; (try simp only [ck0]); (repeat (first | rw [if_pos (by first | assumption | exact Int32.not_le.mp (by assumption) | exact Int32.not_lt.mp (by assumption) | omega)] | rw [if_neg (by first | assumption | exact Int32.not_lt.mpr (by assumption) | exact Int32.not_le.mpr (by assumption) | exact bne_of (by assumption) | exact not_not_intro (by assumption) | omega)])); first | done | rfl))
      · skip
        have hr := of_decide_eq_true c3
        refine r_iconst (v := nI 0) dX2_whyNotLaid_25 (by decide) ?_
        refine r_goto (tgt := 31) dX2_whyNotLaid_26 (by decide) ?_
        exact fR_iret dX2_whyNotLaid_31 rfl (isI_of (by unfold pLaid; (try simp only [ck0]); (repeat (first | rw [if_pos (by first | assumption | exact Int32.not_le.mp (by assumption) | exact Int32.not_lt.mp (by assumption) | omega)] | rw [if_neg (by first | assumption | exact Int32.not_lt.mpr (by assumption) | exact Int32.not_le.mpr (by assumption) | exact bne_of (by assumption) | exact not_not_intro (by assumption) | omega)])); first | done | rfl))
  · skip
    refine r_bipush (v := nI 13) dX2_whyNotLaid_8 (by decide) ?_
    exact fR_iret dX2_whyNotLaid_10 rfl (isI_of (by unfold pLaid; (try simp only [ck0]); (repeat (first | rw [if_pos (by first | assumption | exact Int32.not_le.mp (by assumption) | exact Int32.not_lt.mp (by assumption) | omega)] | rw [if_neg (by first | assumption | exact Int32.not_lt.mpr (by assumption) | exact Int32.not_le.mpr (by assumption) | exact bne_of (by assumption) | exact not_not_intro (by assumption) | omega)])); first | done | rfl))
theorem tX2_whyNotSoftened {l : Launch} {κ : KP} {M : Mem} {ad : Nat → Nat} {c : Nat} {g : Nat → Int32} {dn n : Nat} {π : Nat → Nat} (hL : LabAt M ad c g dn n π) (hI : BI g dn n) {v : Int32} : fM l κ mX2_whyNotSoftened [.ref (ad c), .int (v)] M (isI (pSoftd g n v) M) := by
  refine fM_of rfl (by decide +kernel) (Nat.le_of_ble_eq_true rfl) ?_
  obtain ⟨fD, hfD, hvD⟩ := hL.drs
  obtain ⟨fS, hfS, hvS⟩ := hL.sps
  obtain ⟨fN, hfN, hvN⟩ := hL.nds
  obtain ⟨fG, hfG, hvG⟩ := hL.dgs
  obtain ⟨fT, hfT, hvT⟩ := hL.sts
  have hdn := hL.dl
  have hn := hL.nl
  show fR l κ mX2_whyNotSoftened 0 [(0, .ref (ad c)), (1, .int (v))] [] M 0 0 _
  refine r_aload_n dX2_whyNotSoftened_0 rfl ?_
  refine r_iload_n dX2_whyNotSoftened_1 rfl ?_
  refine r_callV (As := [.int (v)]) dX2_whyNotSoftened_2 (tX2_hasSample hL hI) rfl hL.lab rfl rfl oX2_hasSample rfl kX2_123M nX2_hasSample eX2_hasSample (by unfold fRoom; decide) (Nat.le_of_ble_eq_true rfl) rfl (bc' := 0) (bs' := 0) rfl rfl ?_
  show fR _ _ _ 5 _ (.int (bI (pNo (v) n)) :: _) _ _ _ _
  refine r_if_neB (tgt := 11) dX2_whyNotSoftened_5 (by decide) (fun c1 => ?_) (fun c1 => ?_)
  · skip
    obtain ⟨k0, hk0, ek0⟩ := pNo_t c1 (by omega)
    subst ek0
    have ck0 : cN (nI k0) = k0 := nI_clamp (by omega)
    refine r_aload_n dX2_whyNotSoftened_11 rfl ?_
    refine r_get (k := 1) dX2_whyNotSoftened_12 hL.lab rfl rfl (by decide) kX2_19F ?_
    refine r_iload_n dX2_whyNotSoftened_15 rfl ?_
    refine r_aldqN dX2_whyNotSoftened_16 hfS rfl (by omega) (by decide) (hvS _ (by omega)) ?_
    refine r_get (k := 3) dX2_whyNotSoftened_17 (hL.sp _ (by omega)).1 rfl rfl (by decide) kX2_116F ?_
    refine r_iconst (v := (-1)) dX2_whyNotSoftened_20 (by decide) ?_
    refine r_icmp_ne (tgt := 28) dX2_whyNotSoftened_21 (by decide) (fun c2 => ?_) (fun c2 => ?_)
    · skip
      refine r_bipush (v := nI 8) dX2_whyNotSoftened_28 (by decide) ?_
      exact fR_iret dX2_whyNotSoftened_30 rfl (isI_of (by unfold pSoftd; (try simp only [ck0]); (repeat (first | rw [if_pos (by first | assumption | exact Int32.not_le.mp (by assumption) | exact Int32.not_lt.mp (by assumption) | omega)] | rw [if_neg (by first | assumption | exact Int32.not_lt.mpr (by assumption) | exact Int32.not_le.mpr (by assumption) | exact bne_of (by assumption) | exact not_not_intro (by assumption) | omega)])); first | done | rfl))
    · skip
      refine r_iconst (v := nI 0) dX2_whyNotSoftened_24 (by decide) ?_
      refine r_goto (tgt := 30) dX2_whyNotSoftened_25 (by decide) ?_
      exact fR_iret dX2_whyNotSoftened_30 rfl (isI_of (by unfold pSoftd; (try simp only [ck0]); (repeat (first | rw [if_pos (by first | assumption | exact Int32.not_le.mp (by assumption) | exact Int32.not_lt.mp (by assumption) | omega)] | rw [if_neg (by first | assumption | exact Int32.not_lt.mpr (by assumption) | exact Int32.not_le.mpr (by assumption) | exact bne_of (by assumption) | exact not_not_intro (by assumption) | omega)])); first | done | rfl))
  · skip
    refine r_bipush (v := nI 13) dX2_whyNotSoftened_8 (by decide) ?_
    exact fR_iret dX2_whyNotSoftened_10 rfl (isI_of (by unfold pSoftd; (try simp only [ck0]); (repeat (first | rw [if_pos (by first | assumption | exact Int32.not_le.mp (by assumption) | exact Int32.not_lt.mp (by assumption) | omega)] | rw [if_neg (by first | assumption | exact Int32.not_lt.mpr (by assumption) | exact Int32.not_le.mpr (by assumption) | exact bne_of (by assumption) | exact not_not_intro (by assumption) | omega)])); first | done | rfl))
theorem tX2_degreeAround {l : Launch} {κ : KP} {M : Mem} {ad : Nat → Nat} {c : Nat} {g : Nat → Int32} {dn n : Nat} {π : Nat → Nat} (hL : LabAt M ad c g dn n π) (hI : BI g dn n) {b : Nat} (hb : b < 3) : fM l κ mX2_degreeAround [.ref (ad c), .int (nI (b))] M (isI (g (28 + b)) M) := by
  refine fM_of rfl (by decide +kernel) (Nat.le_of_ble_eq_true rfl) ?_
  obtain ⟨fD, hfD, hvD⟩ := hL.drs
  obtain ⟨fS, hfS, hvS⟩ := hL.sps
  obtain ⟨fN, hfN, hvN⟩ := hL.nds
  obtain ⟨fG, hfG, hvG⟩ := hL.dgs
  obtain ⟨fT, hfT, hvT⟩ := hL.sts
  have hdn := hL.dl
  have hn := hL.nl
  show fR l κ mX2_degreeAround 0 [(0, .ref (ad c)), (1, .int (nI (b)))] [] M 0 0 _
  refine r_iload_n dX2_degreeAround_0 rfl ?_
  refine r_if_ltN (tgt := 18) dX2_degreeAround_1 (by decide) (by omega) (fun c1 => ?_) (fun c1 => ?_)
  · skip
    exact absurd c1 (by omega)
  · skip
    refine r_iload_n dX2_degreeAround_4 rfl ?_
    refine r_iconst (v := nI 3) dX2_degreeAround_5 (by decide) ?_
    refine r_icmp_geN (tgt := 18) dX2_degreeAround_6 (by decide) (by omega) (by omega) (fun c2 => ?_) (fun c2 => ?_)
    · skip
      exact absurd c2 (by omega)
    · skip
      refine r_aload_n dX2_degreeAround_9 rfl ?_
      refine r_get (k := 3) dX2_degreeAround_10 hL.lab rfl rfl (by decide) kX2_38F ?_
      refine r_iload_n dX2_degreeAround_13 rfl ?_
      refine r_ialdN dX2_degreeAround_14 hfG (by omega) (by decide) (hvG _ (by omega)) ?_
      refine r_goto (tgt := 21) dX2_degreeAround_15 (by decide) ?_
      exact fR_iret dX2_degreeAround_21 rfl (isI_of (by rfl))
theorem tX2_degreeAround_m {l : Launch} {κ : KP} {M : Mem} {ad : Nat → Nat} {c : Nat} {g : Nat → Int32} {dn n : Nat} {π : Nat → Nat} (hL : LabAt M ad c g dn n π) (hI : BI g dn n)  : fM l κ mX2_degreeAround [.ref (ad c), .int (-1)] M (isI (nI 200) M) := by
  refine fM_of rfl (by decide +kernel) (Nat.le_of_ble_eq_true rfl) ?_
  obtain ⟨fD, hfD, hvD⟩ := hL.drs
  obtain ⟨fS, hfS, hvS⟩ := hL.sps
  obtain ⟨fN, hfN, hvN⟩ := hL.nds
  obtain ⟨fG, hfG, hvG⟩ := hL.dgs
  obtain ⟨fT, hfT, hvT⟩ := hL.sts
  have hdn := hL.dl
  have hn := hL.nl
  show fR l κ mX2_degreeAround 0 [(0, .ref (ad c)), (1, .int (-1))] [] M 0 0 _
  refine r_iload_n dX2_degreeAround_0 rfl ?_
  refine r_if_lt (tgt := 18) dX2_degreeAround_1 (by decide) (fun c1 => ?_) (fun c1 => ?_)
  · skip
    refine r_sipush (v := nI 200) dX2_degreeAround_18 (by decide) ?_
    exact fR_iret dX2_degreeAround_21 rfl (isI_of (by rfl))
  · skip
    exact absurd (show (-1 : Int32) < 0 by decide) c1
theorem tX2_around {l : Launch} {κ : KP} {M : Mem} {ad : Nat → Nat} {c : Nat} {g : Nat → Int32} {dn n : Nat} {π : Nat → Nat} (hL : LabAt M ad c g dn n π) (hI : BI g dn n) {k : Nat} (hk : k < n) : fM l κ mX2_degreeAround [.ref (ad c), .int (pOf g k 3)] M (isI (pAround g k) M) := by
  unfold pAround
  rcases (hI.sa k hk).2.2.2.1 with h | ⟨b, hb, h⟩
  · rw [if_pos h, h]; exact tX2_degreeAround_m hL hI
  · rw [if_neg (by rw [h]; exact nI_m1 (by omega)), h, nI_clamp (by omega)]; exact tX2_degreeAround hL hI hb
theorem lX2_same {l : Launch} {κ : KP} {M : Mem} {ad : Nat → Nat} {c : Nat} {g : Nat → Int32} {dn n : Nat} {π : Nat → Nat} (hL : LabAt M ad c g dn n π) (hI : BI g dn n)  : ∀ (N k : Nat), n < N + k → k ≤ n → fR l κ mX2_samplesAsTheirBath 4 [(2, .int (nI (k))), (1, .int (nI (pSame g k))), (0, .ref (ad c))] [] M 0 0 (isI (nI (pSame g n)) M) := by
  obtain ⟨fD, hfD, hvD⟩ := hL.drs
  obtain ⟨fS, hfS, hvS⟩ := hL.sps
  obtain ⟨fN, hfN, hvN⟩ := hL.nds
  obtain ⟨fG, hfG, hvG⟩ := hL.dgs
  obtain ⟨fT, hfT, hvT⟩ := hL.sts
  have hdn := hL.dl
  have hn := hL.nl
  intro N
  induction N with
  | zero => intro k h1 h2; omega
  | succ N ih =>
    intro k h1 h2
    have hle : pSame g k ≤ k := pCnt_le _ k
    refine r_iload_n dX2_samplesAsTheirBath_4 rfl ?_
    refine r_aload_n dX2_samplesAsTheirBath_5 rfl ?_
    refine r_get (k := 6) dX2_samplesAsTheirBath_6 hL.lab rfl rfl (by decide) kX2_64F ?_
    refine r_icmp_geN (tgt := 51) dX2_samplesAsTheirBath_9 (by decide) (by omega) (by omega) (fun c1 => ?_) (fun c1 => ?_)
    · skip
      have e : k = n := by omega
      rw [e]
      refine r_iload_n dX2_samplesAsTheirBath_51 rfl ?_
      exact fR_iret dX2_samplesAsTheirBath_52 rfl (isI_of (by rfl))
    · skip
      refine r_aload_n dX2_samplesAsTheirBath_12 rfl ?_
      refine r_get (k := 1) dX2_samplesAsTheirBath_13 hL.lab rfl rfl (by decide) kX2_19F ?_
      refine r_iload_n dX2_samplesAsTheirBath_16 rfl ?_
      refine r_aldqN dX2_samplesAsTheirBath_17 hfS rfl (by omega) (by decide) (hvS _ (by omega)) ?_
      refine r_astore_n (lv' := [(3, .ref (ad (c + 12 + π (k)))), (2, .int (nI (k))), (1, .int (nI (pSame g k))), (0, .ref (ad c))]) dX2_samplesAsTheirBath_18 (by decide) rfl ?_
      refine r_aload_n dX2_samplesAsTheirBath_19 rfl ?_
      refine r_get (k := 3) dX2_samplesAsTheirBath_20 (hL.sp _ (by omega)).1 rfl rfl (by decide) kX2_116F ?_
      refine r_iconst (v := (-1)) dX2_samplesAsTheirBath_23 (by decide) ?_
      refine r_icmp_eq (tgt := 45) dX2_samplesAsTheirBath_24 (by decide) (fun c2 => ?_) (fun c2 => ?_)
      · skip
        refine r_iinc (v := (nI (k + 1))) (lv' := [(2, .int (nI (k + 1))), (3, .ref (ad (c + 12 + π (k)))), (1, .int (nI (pSame g k))), (0, .ref (ad c))]) dX2_samplesAsTheirBath_45 rfl (nI_inc _) (by decide) rfl ?_
        refine r_goto (tgt := 4) dX2_samplesAsTheirBath_48 (by decide) ?_
        refine r_lv (lv' := [(2, .int (nI (k + 1))), (1, .int (nI (pSame g k))), (0, .ref (ad c))]) (by simp) ?_
        first | rw [show pSame g k + 1 = pSame g (k + 1) from pCnt_t ⟨by assumption, by assumption⟩] | rw [show pSame g k = pSame g (k + 1) from pCnt_f (fun h => absurd h.2 (by assumption))] | rw [show pSame g k = pSame g (k + 1) from pCnt_f (fun h => absurd (by assumption) h.1)]
        exact ih (k + 1) (by omega) (by omega)
      · skip
        refine r_aload_n dX2_samplesAsTheirBath_27 rfl ?_
        refine r_get (k := 2) dX2_samplesAsTheirBath_28 (hL.sp _ (by omega)).1 rfl rfl (by decide) kX2_130F ?_
        refine r_aload_n dX2_samplesAsTheirBath_31 rfl ?_
        refine r_aload_n dX2_samplesAsTheirBath_32 rfl ?_
        refine r_get (k := 3) dX2_samplesAsTheirBath_33 (hL.sp _ (by omega)).1 rfl rfl (by decide) kX2_116F ?_
        refine r_callV (As := [.int (pOf g (k) 3)]) dX2_samplesAsTheirBath_36 (tX2_around hL hI (by omega)) rfl hL.lab rfl rfl oX2_degreeAround rfl kX2_133M nX2_degreeAround eX2_degreeAround (by unfold fRoom; decide) (Nat.le_of_ble_eq_true rfl) rfl (bc' := 0) (bs' := 0) rfl rfl ?_
        show fR _ _ _ 39 _ (.int (pAround g (k)) :: _) _ _ _ _
        refine r_icmp_ne (tgt := 45) dX2_samplesAsTheirBath_39 (by decide) (fun c3 => ?_) (fun c3 => ?_)
        · skip
          refine r_iinc (v := (nI (k + 1))) (lv' := [(2, .int (nI (k + 1))), (3, .ref (ad (c + 12 + π (k)))), (1, .int (nI (pSame g k))), (0, .ref (ad c))]) dX2_samplesAsTheirBath_45 rfl (nI_inc _) (by decide) rfl ?_
          refine r_goto (tgt := 4) dX2_samplesAsTheirBath_48 (by decide) ?_
          refine r_lv (lv' := [(2, .int (nI (k + 1))), (1, .int (nI (pSame g k))), (0, .ref (ad c))]) (by simp) ?_
          first | rw [show pSame g k + 1 = pSame g (k + 1) from pCnt_t ⟨by assumption, by assumption⟩] | rw [show pSame g k = pSame g (k + 1) from pCnt_f (fun h => absurd h.2 (by assumption))] | rw [show pSame g k = pSame g (k + 1) from pCnt_f (fun h => absurd (by assumption) h.1)]
          exact ih (k + 1) (by omega) (by omega)
        · skip
          refine r_iinc (v := (nI (pSame g k + 1))) (lv' := [(1, .int (nI (pSame g k + 1))), (3, .ref (ad (c + 12 + π (k)))), (2, .int (nI (k))), (0, .ref (ad c))]) dX2_samplesAsTheirBath_42 rfl (nI_inc _) (by decide) rfl ?_
          refine r_iinc (v := (nI (k + 1))) (lv' := [(2, .int (nI (k + 1))), (1, .int (nI (pSame g k + 1))), (3, .ref (ad (c + 12 + π (k)))), (0, .ref (ad c))]) dX2_samplesAsTheirBath_45 rfl (nI_inc _) (by decide) rfl ?_
          refine r_goto (tgt := 4) dX2_samplesAsTheirBath_48 (by decide) ?_
          refine r_lv (lv' := [(2, .int (nI (k + 1))), (1, .int (nI (pSame g k + 1))), (0, .ref (ad c))]) (by simp) ?_
          first | rw [show pSame g k + 1 = pSame g (k + 1) from pCnt_t ⟨by assumption, by assumption⟩] | rw [show pSame g k = pSame g (k + 1) from pCnt_f (fun h => absurd h.2 (by assumption))] | rw [show pSame g k = pSame g (k + 1) from pCnt_f (fun h => absurd (by assumption) h.1)]
          exact ih (k + 1) (by omega) (by omega)
theorem tX2_same {l : Launch} {κ : KP} {M : Mem} {ad : Nat → Nat} {c : Nat} {g : Nat → Int32} {dn n : Nat} {π : Nat → Nat} (hL : LabAt M ad c g dn n π) (hI : BI g dn n)  : fM l κ mX2_samplesAsTheirBath [.ref (ad c)] M (isI (nI (pSame g n)) M) := by
  refine fM_of rfl (by decide +kernel) (Nat.le_of_ble_eq_true rfl) ?_
  obtain ⟨fD, hfD, hvD⟩ := hL.drs
  obtain ⟨fS, hfS, hvS⟩ := hL.sps
  obtain ⟨fN, hfN, hvN⟩ := hL.nds
  obtain ⟨fG, hfG, hvG⟩ := hL.dgs
  obtain ⟨fT, hfT, hvT⟩ := hL.sts
  have hdn := hL.dl
  have hn := hL.nl
  show fR l κ mX2_samplesAsTheirBath 0 [(0, .ref (ad c))] [] M 0 0 _
  refine r_iconst (v := nI 0) dX2_samplesAsTheirBath_0 (by decide) ?_
  refine r_istore_n (lv' := [(1, .int (nI (0))), (0, .ref (ad c))]) dX2_samplesAsTheirBath_1 (by decide) rfl ?_
  refine r_iconst (v := nI 0) dX2_samplesAsTheirBath_2 (by decide) ?_
  refine r_istore_n (lv' := [(2, .int (nI (0))), (1, .int (nI (0))), (0, .ref (ad c))]) dX2_samplesAsTheirBath_3 (by decide) rfl ?_
  exact lX2_same hL hI (n + 1) 0 (by omega) (by omega)
theorem tX2_depth {l : Launch} {κ : KP} {M : Mem} {ad : Nat → Nat} {c : Nat} {g : Nat → Int32} {dn n : Nat} {π : Nat → Nat} (hL : LabAt M ad c g dn n π) (hI : BI g dn n) {nd k w s : Nat} (hnd : nd < 3) (hk : k < n) (hw : w ≤ 200) (hs : s ≤ 60) : fM l κ mX2_depth [.ref (ad c), .int (nI (nd)), .int (nI (k)), .int (nI (w)), .int (nI (s))] M (isI (pDep g nd k (nI w) (nI s)) M) := by
  refine fM_of rfl (by decide +kernel) (Nat.le_of_ble_eq_true rfl) ?_
  obtain ⟨fD, hfD, hvD⟩ := hL.drs
  obtain ⟨fS, hfS, hvS⟩ := hL.sps
  obtain ⟨fN, hfN, hvN⟩ := hL.nds
  obtain ⟨fG, hfG, hvG⟩ := hL.dgs
  obtain ⟨fT, hfT, hvT⟩ := hL.sts
  have hdn := hL.dl
  have hn := hL.nl
  show fR l κ mX2_depth 0 [(0, .ref (ad c)), (1, .int (nI (nd))), (2, .int (nI (k))), (3, .int (nI (w))), (4, .int (nI (s)))] [] M 0 0 _
  refine r_aload_n dX2_depth_0 rfl ?_
  refine r_get (k := 1) dX2_depth_1 hL.lab rfl rfl (by decide) kX2_19F ?_
  refine r_iload_n dX2_depth_4 rfl ?_
  refine r_aldqN dX2_depth_5 hfS rfl (by omega) (by decide) (hvS _ (by omega)) ?_
  refine r_iload_n dX2_depth_6 rfl ?_
  refine r_iload dX2_depth_7 rfl ?_
  refine r_aload_n dX2_depth_9 rfl ?_
  refine r_get (k := 2) dX2_depth_10 hL.lab rfl rfl (by decide) kX2_25F ?_
  refine r_iload_n dX2_depth_13 rfl ?_
  refine r_aldqN dX2_depth_14 hfN rfl (by omega) (by decide) (hvN _ (by omega)) ?_
  refine r_get (k := 0) dX2_depth_15 (hL.nd _ (by omega)) rfl rfl (by decide) kX2_139F ?_
  refine r_callV (As := [.int (nI (w)), .int (nI (s)), .int (g (31 + 3 * (nd) + 0))]) dX2_depth_18 (tX6_depth (hL.sp _ (by omega)) (hI.spok (by omega)) (by omega) (by omega)) rfl (hL.sp _ (by omega)).1 rfl rfl oX6_depthUnder rfl kX2_142M nX6_depthUnder eX6_depthUnder (by unfold fRoom; decide) (Nat.le_of_ble_eq_true rfl) rfl (bc' := 0) (bs' := 0) rfl rfl ?_
  show fR _ _ _ 21 _ (.int (pDep g nd k (nI (w)) (nI (s))) :: _) _ _ _ _
  exact fR_iret dX2_depth_21 rfl (isI_of (by rfl))
theorem tX2_whyNotSunk {l : Launch} {κ : KP} {M : Mem} {ad : Nat → Nat} {c : Nat} {g : Nat → Int32} {dn n : Nat} {π : Nat → Nat} (hL : LabAt M ad c g dn n π) (hI : BI g dn n) {nd k : Nat} (hnd : nd < 3) (hk : k < n) : fM l κ mX2_whyNotSunk [.ref (ad c), .int (nI (nd)), .int (nI (k))] M (isI (pWhyNot g nd k) M) := by
  refine fM_of rfl (by decide +kernel) (Nat.le_of_ble_eq_true rfl) ?_
  obtain ⟨fD, hfD, hvD⟩ := hL.drs
  obtain ⟨fS, hfS, hvS⟩ := hL.sps
  obtain ⟨fN, hfN, hvN⟩ := hL.nds
  obtain ⟨fG, hfG, hvG⟩ := hL.dgs
  obtain ⟨fT, hfT, hvT⟩ := hL.sts
  have hdn := hL.dl
  have hn := hL.nl
  obtain ⟨dg, hdg, edg⟩ := (hI.spok hk).2.1
  have h5 := (hI.spok hk).m5
  have h9 := (hI.spok hk).m9
  obtain ⟨ar, har, ear⟩ := pAround_nI hI hk
  have hbn := (hI.nd nd hnd).2
  show fR l κ mX2_whyNotSunk 0 [(0, .ref (ad c)), (1, .int (nI (nd))), (2, .int (nI (k)))] [] M 0 0 _
  refine r_aload_n dX2_whyNotSunk_0 rfl ?_
  refine r_get (k := 1) dX2_whyNotSunk_1 hL.lab rfl rfl (by decide) kX2_19F ?_
  refine r_iload_n dX2_whyNotSunk_4 rfl ?_
  refine r_aldqN dX2_whyNotSunk_5 hfS rfl (by omega) (by decide) (hvS _ (by omega)) ?_
  refine r_astore_n (lv' := [(3, .ref (ad (c + 12 + π (k)))), (0, .ref (ad c)), (1, .int (nI (nd))), (2, .int (nI (k)))]) dX2_whyNotSunk_6 (by decide) rfl ?_
  refine r_aload_n dX2_whyNotSunk_7 rfl ?_
  refine r_get (k := 2) dX2_whyNotSunk_8 hL.lab rfl rfl (by decide) kX2_25F ?_
  refine r_iload_n dX2_whyNotSunk_11 rfl ?_
  refine r_aldqN dX2_whyNotSunk_12 hfN rfl (by omega) (by decide) (hvN _ (by omega)) ?_
  refine r_get (k := 1) dX2_whyNotSunk_13 (hL.nd _ (by omega)) rfl rfl (by decide) kX2_146F ?_
  refine r_if_eq (tgt := 21) dX2_whyNotSunk_16 (by decide) (fun c1 => ?_) (fun c1 => ?_)
  · skip
    refine r_aload_n dX2_whyNotSunk_21 rfl ?_
    refine r_get (k := 3) dX2_whyNotSunk_22 (hL.sp _ (by omega)).1 rfl rfl (by decide) kX2_116F ?_
    refine r_iconst (v := (-1)) dX2_whyNotSunk_25 (by decide) ?_
    refine r_icmp_ne (tgt := 31) dX2_whyNotSunk_26 (by decide) (fun c2 => ?_) (fun c2 => ?_)
    · skip
      refine r_aload_n dX2_whyNotSunk_31 rfl ?_
      refine r_aload_n dX2_whyNotSunk_32 rfl ?_
      refine r_get (k := 3) dX2_whyNotSunk_33 (hL.sp _ (by omega)).1 rfl rfl (by decide) kX2_116F ?_
      refine r_callV (As := [.int (pOf g (k) 3)]) dX2_whyNotSunk_36 (tX2_around hL hI (by omega)) rfl hL.lab rfl rfl oX2_degreeAround rfl kX2_133M nX2_degreeAround eX2_degreeAround (by unfold fRoom; decide) (Nat.le_of_ble_eq_true rfl) rfl (bc' := 0) (bs' := 0) rfl rfl ?_
      show fR _ _ _ 39 _ (.int (pAround g (k)) :: _) _ _ _ _
      refine r_top (y := (nI (ar))) ear ?_
      refine r_aload_n dX2_whyNotSunk_39 rfl ?_
      refine r_get (k := 2) dX2_whyNotSunk_40 (hL.sp _ (by omega)).1 rfl rfl (by decide) kX2_130F ?_
      refine r_top (y := (nI (dg))) edg ?_
      refine r_isub dX2_whyNotSunk_43 ?_
      refine r_mabs dX2_whyNotSunk_44 kX2_150M kJ_absS kJ_math kJ_absC (Nat.le_of_ble_eq_true rfl) (Nat.le_of_ble_eq_true rfl) ?_
      refine r_aload_n dX2_whyNotSunk_47 rfl ?_
      refine r_get (k := 4) dX2_whyNotSunk_48 hL.lab rfl rfl (by decide) kX2_44F ?_
      refine r_iconst (v := nI 0) dX2_whyNotSunk_51 (by decide) ?_
      refine r_ialdN dX2_whyNotSunk_52 hfT (by omega) (by decide) (hvT _ (by omega)) ?_
      refine r_icmp_le (tgt := 58) dX2_whyNotSunk_53 (by decide) (fun c3 => ?_) (fun c3 => ?_)
      · skip
        refine r_aload_n dX2_whyNotSunk_58 rfl ?_
        refine r_get (k := 5) dX2_whyNotSunk_59 (hL.sp _ (by omega)).1 rfl rfl (by decide) kX2_113F ?_
        refine r_top (y := (nI (pMany g k))) h5 ?_
        refine r_bipush (v := nI 9) dX2_whyNotSunk_62 (by decide) ?_
        refine r_icmp_geN (tgt := 71) dX2_whyNotSunk_64 (by decide) (by omega) (by omega) (fun c4 => ?_) (fun c4 => ?_)
        · skip
          refine r_iconst (v := nI 4) dX2_whyNotSunk_71 (by decide) ?_
          exact fR_iret dX2_whyNotSunk_72 rfl (isI_of (by unfold pWhyNot; rw [if_neg (by rw [show g (31 + 3 * nd + 1) = nI 0 by assumption]; decide)]; rw [if_neg (by assumption), edg, show g (28 + (pOf g k 3).toNatClampNeg) = nI ar by rw [← ear]; exact (if_neg (by assumption)).symm, ← abs_eq (by omega) (by omega)]; rw [if_pos (by assumption)]; first | rw [if_pos (by omega)] | rw [if_neg (by omega)]))
        · skip
          refine r_iconst (v := nI 0) dX2_whyNotSunk_67 (by decide) ?_
          refine r_goto (tgt := 72) dX2_whyNotSunk_68 (by decide) ?_
          exact fR_iret dX2_whyNotSunk_72 rfl (isI_of (by unfold pWhyNot; rw [if_neg (by rw [show g (31 + 3 * nd + 1) = nI 0 by assumption]; decide)]; rw [if_neg (by assumption), edg, show g (28 + (pOf g k 3).toNatClampNeg) = nI ar by rw [← ear]; exact (if_neg (by assumption)).symm, ← abs_eq (by omega) (by omega)]; rw [if_pos (by assumption)]; first | rw [if_pos (by omega)] | rw [if_neg (by omega)]))
      · skip
        refine r_iconst (v := nI 3) dX2_whyNotSunk_56 (by decide) ?_
        exact fR_iret dX2_whyNotSunk_57 rfl (isI_of (by unfold pWhyNot; rw [if_neg (by rw [show g (31 + 3 * nd + 1) = nI 0 by assumption]; decide)]; rw [if_neg (by assumption), edg, show g (28 + (pOf g k 3).toNatClampNeg) = nI ar by rw [← ear]; exact (if_neg (by assumption)).symm, ← abs_eq (by omega) (by omega)]; rw [if_neg (by assumption)]))
    · skip
      refine r_iconst (v := nI 2) dX2_whyNotSunk_29 (by decide) ?_
      exact fR_iret dX2_whyNotSunk_30 rfl (isI_of (by unfold pWhyNot; rw [if_neg (by rw [show g (31 + 3 * nd + 1) = nI 0 by assumption]; decide)]; rw [if_pos (by assumption)]))
  · skip
    refine r_iconst (v := nI 1) dX2_whyNotSunk_19 (by decide) ?_
    exact fR_iret dX2_whyNotSunk_20 rfl (isI_of (by unfold pWhyNot; rw [if_pos (hbn.resolve_left (by assumption))]))
theorem pRdy_nI {near bath : Int32} {N n a b : Nat} (hb : bath = nI b) (ha : a ≤ 900) (hb9 : b ≤ 900) : pRdy near bath (N + 1) n (nI a) = if nI (b - a + (a - b)) ≤ near then nI n else pRdy near bath N (n + 1) (nI (wN a b)) := by
  show (if pAbs (nI a - bath) ≤ near then nI n else pRdy near bath N (n + 1) (pWarm (nI a) bath)) = _
  rw [hb, pAbsN (by omega) (by omega), pWarm_nI ha hb9, Nat.add_comm (a - b)]
theorem lX2_minutesIn {l : Launch} {κ : KP} {M : Mem} {ad : Nat → Nat} {c : Nat} {g : Nat → Int32} {dn n : Nat} {π : Nat → Nat} (hL : LabAt M ad c g dn n π) (hI : BI g dn n) {k b : Nat} (hk : k < n) (hb : b < 3) {bt : Nat} (hbt : bt ≤ 900) (ebt : g (28 + b) = nI bt) : ∀ (N m a : Nat), N + m = 201 → a ≤ 900 → fR l κ mX2_minutesIn 20 [(5, .int (nI (m))), (4, .int (nI (a))), (3, .int (nI (bt))), (0, .ref (ad c)), (1, .int (nI (k))), (2, .int (nI (b)))] [] M 0 0 (isI (pRdy (g 5) (g (28 + b)) N m (nI a)) M) := by
  obtain ⟨fD, hfD, hvD⟩ := hL.drs
  obtain ⟨fS, hfS, hvS⟩ := hL.sps
  obtain ⟨fN, hfN, hvN⟩ := hL.nds
  obtain ⟨fG, hfG, hvG⟩ := hL.dgs
  obtain ⟨fT, hfT, hvT⟩ := hL.sts
  have hdn := hL.dl
  have hn := hL.nl
  intro N
  induction N with
  | zero =>
    intro m a h1 ha
    refine r_iload dX2_minutesIn_20 rfl ?_
    refine r_sipush (v := nI 200) dX2_minutesIn_22 (by decide) ?_
    refine r_icmp_gtN (tgt := 61) dX2_minutesIn_25 (by decide) (by omega) (by omega) (fun c1 => ?_) (fun c1 => ?_)
    · skip
      refine r_iconst (v := (-1)) dX2_minutesIn_61 (by decide) ?_
      exact fR_iret dX2_minutesIn_62 rfl (isI_of (by rfl))
    · skip
      exact absurd h1 (by omega)
  | succ N ih =>
    intro m a h1 ha
    have hwn := wN_le ha hbt
    rw [pRdy_nI ebt ha hbt]
    refine r_iload dX2_minutesIn_20 rfl ?_
    refine r_sipush (v := nI 200) dX2_minutesIn_22 (by decide) ?_
    refine r_icmp_gtN (tgt := 61) dX2_minutesIn_25 (by decide) (by omega) (by omega) (fun c1 => ?_) (fun c1 => ?_)
    · skip
      exact absurd h1 (by omega)
    · skip
      refine r_iload_n dX2_minutesIn_28 rfl ?_
      refine r_iload dX2_minutesIn_29 rfl ?_
      refine r_isub dX2_minutesIn_31 ?_
      refine r_mabs dX2_minutesIn_32 kX2_150M kJ_absS kJ_math kJ_absC (Nat.le_of_ble_eq_true rfl) (Nat.le_of_ble_eq_true rfl) ?_
      refine r_top (y := (nI ((bt - a + (a - bt))))) (absN (by omega) (by omega)) ?_
      refine r_aload_n dX2_minutesIn_35 rfl ?_
      refine r_get (k := 4) dX2_minutesIn_36 hL.lab rfl rfl (by decide) kX2_44F ?_
      refine r_iconst (v := nI 0) dX2_minutesIn_39 (by decide) ?_
      refine r_ialdN dX2_minutesIn_40 hfT (by omega) (by decide) (hvT _ (by omega)) ?_
      refine r_icmp_gt (tgt := 47) dX2_minutesIn_41 (by decide) (fun c2 => ?_) (fun c2 => ?_)
      · skip
        rw [if_neg (by first | exact Int32.not_le.mpr (by assumption) | assumption)]
        refine r_iload dX2_minutesIn_47 rfl ?_
        refine r_iload_n dX2_minutesIn_49 rfl ?_
        have hwm := tX8_degreeNext (l := l) (κ := κ) (M := M) (d := (nI (a))) (b := (nI (bt)))
        rw [pWarm_nI (by omega) (by omega)] at hwm
        refine r_callSN (As := [.int (nI (a)), .int (nI (bt))]) dX2_minutesIn_50 hwm rfl oX8_degreeNext rfl kX2_136M sX8_degreeNext (by unfold fRoom; decide) (Nat.le_of_ble_eq_true rfl) (bc' := 0) (bs' := 0) rfl rfl ?_
        show fR _ _ _ 53 _ (.int (nI (wN (a) (bt))) :: _) _ _ _ _
        refine r_istore (lv' := [(4, .int (nI (wN (a) (bt)))), (5, .int (nI (m))), (3, .int (nI (bt))), (0, .ref (ad c)), (1, .int (nI (k))), (2, .int (nI (b)))]) dX2_minutesIn_53 (by decide) rfl ?_
        refine r_iinc (v := (nI (m + 1))) (lv' := [(5, .int (nI (m + 1))), (4, .int (nI (wN (a) (bt)))), (3, .int (nI (bt))), (0, .ref (ad c)), (1, .int (nI (k))), (2, .int (nI (b)))]) dX2_minutesIn_55 rfl (nI_inc _) (by decide) rfl ?_
        refine r_goto (tgt := 20) dX2_minutesIn_58 (by decide) ?_
        refine r_lv (lv' := [(5, .int (nI (m + 1))), (4, .int (nI (wN (a) (bt)))), (3, .int (nI (bt))), (0, .ref (ad c)), (1, .int (nI (k))), (2, .int (nI (b)))]) (by simp) ?_
        exact ih _ _ (by omega) (by omega)
      · skip
        rw [if_pos (by first | exact Int32.not_lt.mp (by assumption) | assumption)]
        refine r_iload dX2_minutesIn_44 rfl ?_
        exact fR_iret dX2_minutesIn_46 rfl (isI_of (by rfl))
theorem tX2_minutesIn {l : Launch} {κ : KP} {M : Mem} {ad : Nat → Nat} {c : Nat} {g : Nat → Int32} {dn n : Nat} {π : Nat → Nat} (hL : LabAt M ad c g dn n π) (hI : BI g dn n) {k b : Nat} (hk : k < n) (hb : b < 3) : fM l κ mX2_minutesIn [.ref (ad c), .int (nI (k)), .int (nI (b))] M (isI (pReady g k b) M) := by
  refine fM_of rfl (by decide +kernel) (Nat.le_of_ble_eq_true rfl) ?_
  obtain ⟨fD, hfD, hvD⟩ := hL.drs
  obtain ⟨fS, hfS, hvS⟩ := hL.sps
  obtain ⟨fN, hfN, hvN⟩ := hL.nds
  obtain ⟨fG, hfG, hvG⟩ := hL.dgs
  obtain ⟨fT, hfT, hvT⟩ := hL.sts
  have hdn := hL.dl
  have hn := hL.nl
  obtain ⟨bt, hbt, ebt⟩ := hI.dg b hb
  obtain ⟨dg, hdg, edg⟩ := (hI.spok hk).2.1
  show fR l κ mX2_minutesIn 0 [(0, .ref (ad c)), (1, .int (nI (k))), (2, .int (nI (b)))] [] M 0 0 _
  refine r_aload_n dX2_minutesIn_0 rfl ?_
  refine r_iload_n dX2_minutesIn_1 rfl ?_
  refine r_callV (As := [.int (nI (b))]) dX2_minutesIn_2 (tX2_degreeAround hL hI (by omega)) rfl hL.lab rfl rfl oX2_degreeAround rfl kX2_133M nX2_degreeAround eX2_degreeAround (by unfold fRoom; decide) (Nat.le_of_ble_eq_true rfl) rfl (bc' := 0) (bs' := 0) rfl rfl ?_
  show fR _ _ _ 5 _ (.int (g (28 + (b))) :: _) _ _ _ _
  refine r_top (y := (nI (bt))) ebt ?_
  refine r_istore_n (lv' := [(3, .int (nI (bt))), (0, .ref (ad c)), (1, .int (nI (k))), (2, .int (nI (b)))]) dX2_minutesIn_5 (by decide) rfl ?_
  refine r_aload_n dX2_minutesIn_6 rfl ?_
  refine r_get (k := 1) dX2_minutesIn_7 hL.lab rfl rfl (by decide) kX2_19F ?_
  refine r_iload_n dX2_minutesIn_10 rfl ?_
  refine r_aldqN dX2_minutesIn_11 hfS rfl (by omega) (by decide) (hvS _ (by omega)) ?_
  refine r_get (k := 2) dX2_minutesIn_12 (hL.sp _ (by omega)).1 rfl rfl (by decide) kX2_130F ?_
  refine r_top (y := (nI (dg))) edg ?_
  refine r_istore (lv' := [(4, .int (nI (dg))), (3, .int (nI (bt))), (0, .ref (ad c)), (1, .int (nI (k))), (2, .int (nI (b)))]) dX2_minutesIn_15 (by decide) rfl ?_
  refine r_iconst (v := nI 0) dX2_minutesIn_17 (by decide) ?_
  refine r_istore (lv' := [(5, .int (nI (0))), (4, .int (nI (dg))), (3, .int (nI (bt))), (0, .ref (ad c)), (1, .int (nI (k))), (2, .int (nI (b)))]) dX2_minutesIn_18 (by decide) rfl ?_
  unfold pReady
  rw [edg]
  refine r_lv (lv' := [(5, .int (nI (0))), (4, .int (nI (dg))), (3, .int (nI (bt))), (0, .ref (ad c)), (1, .int (nI (k))), (2, .int (nI (b)))]) (by simp) ?_
  exact lX2_minutesIn hL hI hk hb hbt ebt _ _ _ rfl hdg
theorem tX2_readyNow {l : Launch} {κ : KP} {M : Mem} {ad : Nat → Nat} {c : Nat} {g : Nat → Int32} {dn n : Nat} {π : Nat → Nat} (hL : LabAt M ad c g dn n π) (hI : BI g dn n) {k : Nat} (hk : k < n) : fM l κ mX2_minutesToReady [.ref (ad c), .int (nI (k))] M (isI (pReadyNow g k) M) := by
  refine fM_of rfl (by decide +kernel) (Nat.le_of_ble_eq_true rfl) ?_
  obtain ⟨fD, hfD, hvD⟩ := hL.drs
  obtain ⟨fS, hfS, hvS⟩ := hL.sps
  obtain ⟨fN, hfN, hvN⟩ := hL.nds
  obtain ⟨fG, hfG, hvG⟩ := hL.dgs
  obtain ⟨fT, hfT, hvT⟩ := hL.sts
  have hdn := hL.dl
  have hn := hL.nl
  show fR l κ mX2_minutesToReady 0 [(0, .ref (ad c)), (1, .int (nI (k)))] [] M 0 0 _
  refine r_aload_n dX2_minutesToReady_0 rfl ?_
  refine r_get (k := 1) dX2_minutesToReady_1 hL.lab rfl rfl (by decide) kX2_19F ?_
  refine r_iload_n dX2_minutesToReady_4 rfl ?_
  refine r_aldqN dX2_minutesToReady_5 hfS rfl (by omega) (by decide) (hvS _ (by omega)) ?_
  refine r_get (k := 3) dX2_minutesToReady_6 (hL.sp _ (by omega)).1 rfl rfl (by decide) kX2_116F ?_
  refine r_istore_n (lv' := [(2, .int (pOf g (k) 3)), (0, .ref (ad c)), (1, .int (nI (k)))]) dX2_minutesToReady_9 (by decide) rfl ?_
  refine r_iload_n dX2_minutesToReady_10 rfl ?_
  refine r_iconst (v := (-1)) dX2_minutesToReady_11 (by decide) ?_
  refine r_icmp_ne (tgt := 19) dX2_minutesToReady_12 (by decide) (fun c1 => ?_) (fun c1 => ?_)
  · skip
    obtain ⟨bb, hbb, ebb⟩ := hI.mB k hk (by assumption)
    refine r_lv (lv' := [(2, .int (nI bb)), (0, .ref (ad c)), (1, .int (nI (k)))]) (by simp [ebb]) ?_
    refine r_aload_n dX2_minutesToReady_19 rfl ?_
    refine r_iload_n dX2_minutesToReady_20 rfl ?_
    refine r_iload_n dX2_minutesToReady_21 rfl ?_
    refine r_callV (As := [.int (nI (k)), .int (nI (bb))]) dX2_minutesToReady_22 (tX2_minutesIn hL hI (by omega) (by omega)) rfl hL.lab rfl rfl oX2_minutesIn rfl kX2_164M nX2_minutesIn eX2_minutesIn (by unfold fRoom; decide) (Nat.le_of_ble_eq_true rfl) rfl (bc' := 0) (bs' := 0) rfl rfl ?_
    show fR _ _ _ 25 _ (.int (pReady g (k) (bb)) :: _) _ _ _ _
    exact fR_iret dX2_minutesToReady_25 rfl (isI_of (by unfold pReadyNow; first | rw [if_pos (by assumption)] | (rw [if_neg (by assumption), ebb, nI_clamp (by omega)])))
  · skip
    refine r_iconst (v := (-1)) dX2_minutesToReady_15 (by decide) ?_
    refine r_goto (tgt := 25) dX2_minutesToReady_16 (by decide) ?_
    exact fR_iret dX2_minutesToReady_25 rfl (isI_of (by unfold pReadyNow; first | rw [if_pos (by assumption)] | (rw [if_neg (by assumption), ebb, nI_clamp (by omega)])))
theorem lX2_best {l : Launch} {κ : KP} {M : Mem} {ad : Nat → Nat} {c : Nat} {g : Nat → Int32} {dn n : Nat} {π : Nat → Nat} (hL : LabAt M ad c g dn n π) (hI : BI g dn n) {k : Nat} (hk : k < n) : ∀ (N b : Nat), 3 < N + b → b ≤ 3 → fR l κ mX2_quickestBath 9 [(4, .int (nI (b))), (3, .int (pBL g n k b)), (2, .int (pBF g n k b)), (0, .ref (ad c)), (1, .int (nI (k)))] [] M 0 0 (isI (pBF g n k 3) M) := by
  obtain ⟨fD, hfD, hvD⟩ := hL.drs
  obtain ⟨fS, hfS, hvS⟩ := hL.sps
  obtain ⟨fN, hfN, hvN⟩ := hL.nds
  obtain ⟨fG, hfG, hvG⟩ := hL.dgs
  obtain ⟨fT, hfT, hvT⟩ := hL.sts
  have hdn := hL.dl
  have hn := hL.nl
  intro N
  induction N with
  | zero => intro b h1 h2; omega
  | succ N ih =>
    intro b h1 h2
    refine r_iload dX2_quickestBath_9 rfl ?_
    refine r_iconst (v := nI 3) dX2_quickestBath_11 (by decide) ?_
    refine r_icmp_geN (tgt := 62) dX2_quickestBath_12 (by decide) (by omega) (by omega) (fun c1 => ?_) (fun c1 => ?_)
    · skip
      have e : b = 3 := by omega
      rw [e]
      refine r_iload_n dX2_quickestBath_62 rfl ?_
      exact fR_iret dX2_quickestBath_63 rfl (isI_of (by rfl))
    · skip
      have hJ2 : fR l κ mX2_quickestBath 36 [(4, .int (nI (b))), (3, .int (pBL g n k b)), (2, .int (pBF g n k b)), (0, .ref (ad c)), (1, .int (nI (k)))] [.int ((pBW g n k b))] M 0 0 (isI (pBF g n k 3) M) := by
        refine r_istore (lv' := [(5, .int ((pBW g n k b))), (4, .int (nI (b))), (3, .int (pBL g n k b)), (2, .int (pBF g n k b)), (0, .ref (ad c)), (1, .int (nI (k)))]) dX2_quickestBath_36 (by decide) rfl ?_
        refine r_iload dX2_quickestBath_38 rfl ?_
        refine r_iconst (v := (-1)) dX2_quickestBath_40 (by decide) ?_
        refine r_icmp_eq (tgt := 56) dX2_quickestBath_41 (by decide) (fun c3 => ?_) (fun c3 => ?_)
        · skip
          refine r_iinc (v := (nI (b + 1))) (lv' := [(4, .int (nI (b + 1))), (5, .int ((pBW g n k b))), (3, .int (pBL g n k b)), (2, .int (pBF g n k b)), (0, .ref (ad c)), (1, .int (nI (k)))]) dX2_quickestBath_56 rfl (nI_inc _) (by decide) rfl ?_
          refine r_goto (tgt := 9) dX2_quickestBath_59 (by decide) ?_
          refine r_lv (lv' := [(4, .int (nI (b + 1))), (3, .int (pBL g n k b)), (2, .int (pBF g n k b)), (0, .ref (ad c)), (1, .int (nI (k)))]) (by simp) ?_
          first | rw [show pBL g n k b = pBL g n k (b + 1) from (if_neg (fun h => absurd h.2 (Int32.not_lt.mpr (by assumption)))).symm, show pBF g n k b = pBF g n k (b + 1) from (if_neg (fun h => absurd h.2 (Int32.not_lt.mpr (by assumption)))).symm] | rw [show pBL g n k b = pBL g n k (b + 1) from (if_neg (fun h => absurd (by assumption) h.1)).symm, show pBF g n k b = pBF g n k (b + 1) from (if_neg (fun h => absurd (by assumption) h.1)).symm]
          exact ih (b + 1) (by omega) (by omega)
        · skip
          refine r_iload dX2_quickestBath_44 rfl ?_
          refine r_iload_n dX2_quickestBath_46 rfl ?_
          refine r_icmp_ge (tgt := 56) dX2_quickestBath_47 (by decide) (fun c4 => ?_) (fun c4 => ?_)
          · skip
            refine r_iinc (v := (nI (b + 1))) (lv' := [(4, .int (nI (b + 1))), (5, .int ((pBW g n k b))), (3, .int (pBL g n k b)), (2, .int (pBF g n k b)), (0, .ref (ad c)), (1, .int (nI (k)))]) dX2_quickestBath_56 rfl (nI_inc _) (by decide) rfl ?_
            refine r_goto (tgt := 9) dX2_quickestBath_59 (by decide) ?_
            refine r_lv (lv' := [(4, .int (nI (b + 1))), (3, .int (pBL g n k b)), (2, .int (pBF g n k b)), (0, .ref (ad c)), (1, .int (nI (k)))]) (by simp) ?_
            first | rw [show pBL g n k b = pBL g n k (b + 1) from (if_neg (fun h => absurd h.2 (Int32.not_lt.mpr (by assumption)))).symm, show pBF g n k b = pBF g n k (b + 1) from (if_neg (fun h => absurd h.2 (Int32.not_lt.mpr (by assumption)))).symm] | rw [show pBL g n k b = pBL g n k (b + 1) from (if_neg (fun h => absurd (by assumption) h.1)).symm, show pBF g n k b = pBF g n k (b + 1) from (if_neg (fun h => absurd (by assumption) h.1)).symm]
            exact ih (b + 1) (by omega) (by omega)
          · skip
            refine r_iload dX2_quickestBath_50 rfl ?_
            refine r_istore_n (lv' := [(2, .int (nI (b))), (5, .int ((pBW g n k b))), (4, .int (nI (b))), (3, .int (pBL g n k b)), (0, .ref (ad c)), (1, .int (nI (k)))]) dX2_quickestBath_52 (by decide) rfl ?_
            refine r_iload dX2_quickestBath_53 rfl ?_
            refine r_istore_n (lv' := [(3, .int ((pBW g n k b))), (2, .int (nI (b))), (5, .int ((pBW g n k b))), (4, .int (nI (b))), (0, .ref (ad c)), (1, .int (nI (k)))]) dX2_quickestBath_55 (by decide) rfl ?_
            refine r_iinc (v := (nI (b + 1))) (lv' := [(4, .int (nI (b + 1))), (3, .int ((pBW g n k b))), (2, .int (nI (b))), (5, .int ((pBW g n k b))), (0, .ref (ad c)), (1, .int (nI (k)))]) dX2_quickestBath_56 rfl (nI_inc _) (by decide) rfl ?_
            refine r_goto (tgt := 9) dX2_quickestBath_59 (by decide) ?_
            refine r_lv (lv' := [(4, .int (nI (b + 1))), (3, .int ((pBW g n k b))), (2, .int (nI (b))), (0, .ref (ad c)), (1, .int (nI (k)))]) (by simp) ?_
            rw [show pBW g n k b = pBL g n k (b + 1) from (if_pos ⟨by assumption, Int32.not_le.mp (by assumption)⟩).symm, show nI b = pBF g n k (b + 1) from (if_pos ⟨by assumption, Int32.not_le.mp (by assumption)⟩).symm]
            exact ih (b + 1) (by omega) (by omega)
      refine r_aload_n dX2_quickestBath_15 rfl ?_
      refine r_iload_n dX2_quickestBath_16 rfl ?_
      refine r_iload dX2_quickestBath_17 rfl ?_
      refine r_callV (As := [.int (nI (k)), .int (nI (b))]) dX2_quickestBath_19 (tX2_hasRoomFor hL hI (by omega)) rfl hL.lab rfl rfl oX2_hasRoomFor rfl kX2_126M nX2_hasRoomFor eX2_hasRoomFor (by unfold fRoom; decide) (Nat.le_of_ble_eq_true rfl) rfl (bc' := 0) (bs' := 0) rfl rfl ?_
      show fR _ _ _ 22 _ (.int (bI (decide (pOf g (k) 3 = (nI (b)) ∨ pInBath g n (nI (b)) < 3))) :: _) _ _ _ _
      refine r_if_eqB (tgt := 35) dX2_quickestBath_22 (by decide) (fun c5 => ?_) (fun c5 => ?_)
      · skip
        have hr := of_decide_eq_false c5
        refine r_iconst (v := (-1)) dX2_quickestBath_35 (by decide) ?_
        exact r_top (by first | exact (if_pos (by assumption)).symm | exact (if_neg (by assumption)).symm) hJ2
      · skip
        have hr := of_decide_eq_true c5
        refine r_aload_n dX2_quickestBath_25 rfl ?_
        refine r_iload_n dX2_quickestBath_26 rfl ?_
        refine r_iload dX2_quickestBath_27 rfl ?_
        refine r_callV (As := [.int (nI (k)), .int (nI (b))]) dX2_quickestBath_29 (tX2_minutesIn hL hI (by omega) (by omega)) rfl hL.lab rfl rfl oX2_minutesIn rfl kX2_164M nX2_minutesIn eX2_minutesIn (by unfold fRoom; decide) (Nat.le_of_ble_eq_true rfl) rfl (bc' := 0) (bs' := 0) rfl rfl ?_
        show fR _ _ _ 32 _ (.int (pReady g (k) (b)) :: _) _ _ _ _
        refine r_goto (tgt := 36) dX2_quickestBath_32 (by decide) ?_
        exact r_top (by first | exact (if_pos (by assumption)).symm | exact (if_neg (by assumption)).symm) hJ2
theorem tX2_best {l : Launch} {κ : KP} {M : Mem} {ad : Nat → Nat} {c : Nat} {g : Nat → Int32} {dn n : Nat} {π : Nat → Nat} (hL : LabAt M ad c g dn n π) (hI : BI g dn n) {k : Nat} (hk : k < n) : fM l κ mX2_quickestBath [.ref (ad c), .int (nI (k))] M (isI (pBF g n k 3) M) := by
  refine fM_of rfl (by decide +kernel) (Nat.le_of_ble_eq_true rfl) ?_
  obtain ⟨fD, hfD, hvD⟩ := hL.drs
  obtain ⟨fS, hfS, hvS⟩ := hL.sps
  obtain ⟨fN, hfN, hvN⟩ := hL.nds
  obtain ⟨fG, hfG, hvG⟩ := hL.dgs
  obtain ⟨fT, hfT, hvT⟩ := hL.sts
  have hdn := hL.dl
  have hn := hL.nl
  show fR l κ mX2_quickestBath 0 [(0, .ref (ad c)), (1, .int (nI (k)))] [] M 0 0 _
  refine r_iconst (v := (-1)) dX2_quickestBath_0 (by decide) ?_
  refine r_istore_n (lv' := [(2, .int (-1)), (0, .ref (ad c)), (1, .int (nI (k)))]) dX2_quickestBath_1 (by decide) rfl ?_
  refine r_sipush (v := nI 201) dX2_quickestBath_2 (by decide) ?_
  refine r_istore_n (lv' := [(3, .int (nI (201))), (2, .int (-1)), (0, .ref (ad c)), (1, .int (nI (k)))]) dX2_quickestBath_5 (by decide) rfl ?_
  refine r_iconst (v := nI 0) dX2_quickestBath_6 (by decide) ?_
  refine r_istore (lv' := [(4, .int (nI (0))), (3, .int (nI (201))), (2, .int (-1)), (0, .ref (ad c)), (1, .int (nI (k)))]) dX2_quickestBath_7 (by decide) rfl ?_
  exact lX2_best hL hI hk 4 0 (by omega) (by omega)
theorem pFar_s {f : Nat → Int32} {b k dg bt : Nat} (h2 : pOf f k 2 = nI dg) (hb : f (28 + b) = nI bt) (h1 : dg ≤ 900) (h3 : bt ≤ 900) (h : pOf f k 3 = nI b) {x : Int32} (hx : x = pFar f b k) : (if x < nI (bt - dg + (dg - bt)) then nI (bt - dg + (dg - bt)) else x) = pFar f b (k + 1) := by
  show _ = (if _ then _ else _)
  rw [if_pos h, h2, hb, pAbsN (by omega) (by omega), Nat.add_comm (dg - bt), hx]
theorem pFar_f {f : Nat → Int32} {b k : Nat} (h : ¬ pOf f k 3 = nI b) : pFar f b k = pFar f b (k + 1) := (if_neg h).symm
theorem lX2_far {l : Launch} {κ : KP} {M : Mem} {ad : Nat → Nat} {c : Nat} {g : Nat → Int32} {dn n : Nat} {π : Nat → Nat} (hL : LabAt M ad c g dn n π) (hI : BI g dn n) {b : Nat} (hb : b < 3) {bt : Nat} (hbt : bt ≤ 900) (ebt : g (28 + b) = nI bt) : ∀ (N k : Nat), n < N + k → k ≤ n → fR l κ mX2_greatestDifferenceIn 4 [(3, .int (nI (k))), (2, .int (pFar g b k)), (0, .ref (ad c)), (1, .int (nI (b)))] [] M 0 0 (isI (pFar g b n) M) := by
  obtain ⟨fD, hfD, hvD⟩ := hL.drs
  obtain ⟨fS, hfS, hvS⟩ := hL.sps
  obtain ⟨fN, hfN, hvN⟩ := hL.nds
  obtain ⟨fG, hfG, hvG⟩ := hL.dgs
  obtain ⟨fT, hfT, hvT⟩ := hL.sts
  have hdn := hL.dl
  have hn := hL.nl
  intro N
  induction N with
  | zero => intro k h1 h2; omega
  | succ N ih =>
    intro k h1 h2
    refine r_iload_n dX2_greatestDifferenceIn_4 rfl ?_
    refine r_aload_n dX2_greatestDifferenceIn_5 rfl ?_
    refine r_get (k := 6) dX2_greatestDifferenceIn_6 hL.lab rfl rfl (by decide) kX2_64F ?_
    refine r_icmp_geN (tgt := 54) dX2_greatestDifferenceIn_9 (by decide) (by omega) (by omega) (fun c1 => ?_) (fun c1 => ?_)
    · skip
      have e : k = n := by omega
      rw [e]
      refine r_iload_n dX2_greatestDifferenceIn_54 rfl ?_
      exact fR_iret dX2_greatestDifferenceIn_55 rfl (isI_of (by rfl))
    · skip
      refine r_aload_n dX2_greatestDifferenceIn_12 rfl ?_
      refine r_get (k := 1) dX2_greatestDifferenceIn_13 hL.lab rfl rfl (by decide) kX2_19F ?_
      refine r_iload_n dX2_greatestDifferenceIn_16 rfl ?_
      refine r_aldqN dX2_greatestDifferenceIn_17 hfS rfl (by omega) (by decide) (hvS _ (by omega)) ?_
      refine r_get (k := 3) dX2_greatestDifferenceIn_18 (hL.sp _ (by omega)).1 rfl rfl (by decide) kX2_116F ?_
      refine r_iload_n dX2_greatestDifferenceIn_21 rfl ?_
      refine r_icmp_ne (tgt := 48) dX2_greatestDifferenceIn_22 (by decide) (fun c2 => ?_) (fun c2 => ?_)
      · skip
        refine r_iinc (v := (nI (k + 1))) (lv' := [(3, .int (nI (k + 1))), (2, .int (pFar g b k)), (0, .ref (ad c)), (1, .int (nI (b)))]) dX2_greatestDifferenceIn_48 rfl (nI_inc _) (by decide) rfl ?_
        refine r_goto (tgt := 4) dX2_greatestDifferenceIn_51 (by decide) ?_
        refine r_lv (lv' := [(3, .int (nI (k + 1))), (2, .int (pFar g b k)), (0, .ref (ad c)), (1, .int (nI (b)))]) (by simp) ?_
        rw [pFar_f (k := k) (by assumption)]
        exact ih (k + 1) (by omega) (by omega)
      · skip
        obtain ⟨dg, hdg, edg⟩ := (hI.spok (show k < n by omega)).2.1
        refine r_iload_n dX2_greatestDifferenceIn_25 rfl ?_
        refine r_aload_n dX2_greatestDifferenceIn_26 rfl ?_
        refine r_iload_n dX2_greatestDifferenceIn_27 rfl ?_
        refine r_callV (As := [.int (nI (b))]) dX2_greatestDifferenceIn_28 (tX2_degreeAround hL hI (by omega)) rfl hL.lab rfl rfl oX2_degreeAround rfl kX2_133M nX2_degreeAround eX2_degreeAround (by unfold fRoom; decide) (Nat.le_of_ble_eq_true rfl) rfl (bc' := 0) (bs' := 0) rfl rfl ?_
        show fR _ _ _ 31 _ (.int (g (28 + (b))) :: _) _ _ _ _
        refine r_top (y := (nI (bt))) ebt ?_
        refine r_aload_n dX2_greatestDifferenceIn_31 rfl ?_
        refine r_get (k := 1) dX2_greatestDifferenceIn_32 hL.lab rfl rfl (by decide) kX2_19F ?_
        refine r_iload_n dX2_greatestDifferenceIn_35 rfl ?_
        refine r_aldqN dX2_greatestDifferenceIn_36 hfS rfl (by omega) (by decide) (hvS _ (by omega)) ?_
        refine r_get (k := 2) dX2_greatestDifferenceIn_37 (hL.sp _ (by omega)).1 rfl rfl (by decide) kX2_130F ?_
        refine r_top (y := (nI (dg))) edg ?_
        refine r_isub dX2_greatestDifferenceIn_40 ?_
        refine r_mabs dX2_greatestDifferenceIn_41 kX2_150M kJ_absS kJ_math kJ_absC (Nat.le_of_ble_eq_true rfl) (Nat.le_of_ble_eq_true rfl) ?_
        refine r_top (y := (nI ((bt - dg + (dg - bt))))) (absN (by omega) (by omega)) ?_
        refine r_mmax dX2_greatestDifferenceIn_44 kX2_98M kJ_maxS kJ_math kJ_maxC (Nat.le_of_ble_eq_true rfl) (Nat.le_of_ble_eq_true rfl) ?_
        refine r_top (y := (pFar g b (k + 1))) (pFar_s (k := k) edg ebt hdg hbt (by assumption) rfl) ?_
        refine r_istore_n (lv' := [(2, .int (pFar g b (k + 1))), (3, .int (nI (k))), (0, .ref (ad c)), (1, .int (nI (b)))]) dX2_greatestDifferenceIn_47 (by decide) rfl ?_
        refine r_iinc (v := (nI (k + 1))) (lv' := [(3, .int (nI (k + 1))), (2, .int (pFar g b (k + 1))), (0, .ref (ad c)), (1, .int (nI (b)))]) dX2_greatestDifferenceIn_48 rfl (nI_inc _) (by decide) rfl ?_
        refine r_goto (tgt := 4) dX2_greatestDifferenceIn_51 (by decide) ?_
        refine r_lv (lv' := [(3, .int (nI (k + 1))), (2, .int (pFar g b (k + 1))), (0, .ref (ad c)), (1, .int (nI (b)))]) (by simp) ?_
        exact ih (k + 1) (by omega) (by omega)
theorem tX2_far {l : Launch} {κ : KP} {M : Mem} {ad : Nat → Nat} {c : Nat} {g : Nat → Int32} {dn n : Nat} {π : Nat → Nat} (hL : LabAt M ad c g dn n π) (hI : BI g dn n) {b : Nat} (hb : b < 3) : fM l κ mX2_greatestDifferenceIn [.ref (ad c), .int (nI (b))] M (isI (pFar g b n) M) := by
  refine fM_of rfl (by decide +kernel) (Nat.le_of_ble_eq_true rfl) ?_
  obtain ⟨fD, hfD, hvD⟩ := hL.drs
  obtain ⟨fS, hfS, hvS⟩ := hL.sps
  obtain ⟨fN, hfN, hvN⟩ := hL.nds
  obtain ⟨fG, hfG, hvG⟩ := hL.dgs
  obtain ⟨fT, hfT, hvT⟩ := hL.sts
  have hdn := hL.dl
  have hn := hL.nl
  obtain ⟨bt, hbt, ebt⟩ := hI.dg b hb
  show fR l κ mX2_greatestDifferenceIn 0 [(0, .ref (ad c)), (1, .int (nI (b)))] [] M 0 0 _
  refine r_iconst (v := (-1)) dX2_greatestDifferenceIn_0 (by decide) ?_
  refine r_istore_n (lv' := [(2, .int (-1)), (0, .ref (ad c)), (1, .int (nI (b)))]) dX2_greatestDifferenceIn_1 (by decide) rfl ?_
  refine r_iconst (v := nI 0) dX2_greatestDifferenceIn_2 (by decide) ?_
  refine r_istore_n (lv' := [(3, .int (nI (0))), (2, .int (-1)), (0, .ref (ad c)), (1, .int (nI (b)))]) dX2_greatestDifferenceIn_3 (by decide) rfl ?_
  exact lX2_far hL hI hb hbt ebt (n + 1) 0 (by omega) (by omega)
theorem tX2_bathNumber_0 {l : Launch} {κ : KP} {M : Mem} {ad : Nat → Nat} {c : Nat} {g : Nat → Int32} {dn n : Nat} {π : Nat → Nat} (hL : LabAt M ad c g dn n π) (hI : BI g dn n) {b : Nat} (hb : b < 3) : fM l κ mX2_bathNumber [.ref (ad c), .int (nI (b)), .int (nI (0))] M (isI (pOfBath g n b 0) M) := by
  refine fM_of rfl (by decide +kernel) (Nat.le_of_ble_eq_true rfl) ?_
  obtain ⟨fD, hfD, hvD⟩ := hL.drs
  obtain ⟨fS, hfS, hvS⟩ := hL.sps
  obtain ⟨fN, hfN, hvN⟩ := hL.nds
  obtain ⟨fG, hfG, hvG⟩ := hL.dgs
  obtain ⟨fT, hfT, hvT⟩ := hL.sts
  have hdn := hL.dl
  have hn := hL.nl
  show fR l κ mX2_bathNumber 0 [(0, .ref (ad c)), (1, .int (nI (b))), (2, .int (nI (0)))] [] M 0 0 _
  refine r_iload_n dX2_bathNumber_0 rfl ?_
  refine r_lookup (off := 27) (tgt := 28) dX2_bathNumber_1 (by decide) (by decide) (by decide) ?_
  refine r_aload_n dX2_bathNumber_28 rfl ?_
  refine r_iload_n dX2_bathNumber_29 rfl ?_
  refine r_callV (As := [.int (nI (b))]) dX2_bathNumber_30 (tX2_degreeAround hL hI (by omega)) rfl hL.lab rfl rfl oX2_degreeAround rfl kX2_133M nX2_degreeAround eX2_degreeAround (by unfold fRoom; decide) (Nat.le_of_ble_eq_true rfl) rfl (bc' := 0) (bs' := 0) rfl rfl ?_
  show fR _ _ _ 33 _ (.int (g (28 + (b))) :: _) _ _ _ _
  exact fR_iret dX2_bathNumber_33 rfl (isI_of (by rfl))
theorem tX2_bathNumber_1 {l : Launch} {κ : KP} {M : Mem} {ad : Nat → Nat} {c : Nat} {g : Nat → Int32} {dn n : Nat} {π : Nat → Nat} (hL : LabAt M ad c g dn n π) (hI : BI g dn n) {b : Nat} (hb : b < 3) : fM l κ mX2_bathNumber [.ref (ad c), .int (nI (b)), .int (nI (1))] M (isI (pOfBath g n b 1) M) := by
  refine fM_of rfl (by decide +kernel) (Nat.le_of_ble_eq_true rfl) ?_
  obtain ⟨fD, hfD, hvD⟩ := hL.drs
  obtain ⟨fS, hfS, hvS⟩ := hL.sps
  obtain ⟨fN, hfN, hvN⟩ := hL.nds
  obtain ⟨fG, hfG, hvG⟩ := hL.dgs
  obtain ⟨fT, hfT, hvT⟩ := hL.sts
  have hdn := hL.dl
  have hn := hL.nl
  show fR l κ mX2_bathNumber 0 [(0, .ref (ad c)), (1, .int (nI (b))), (2, .int (nI (1)))] [] M 0 0 _
  refine r_iload_n dX2_bathNumber_0 rfl ?_
  refine r_lookup (off := 33) (tgt := 34) dX2_bathNumber_1 (by decide) (by decide) (by decide) ?_
  refine r_aload_n dX2_bathNumber_34 rfl ?_
  refine r_iload_n dX2_bathNumber_35 rfl ?_
  refine r_callV (As := [.int (nI (b))]) dX2_bathNumber_36 (tX2_samplesIn hL hI) rfl hL.lab rfl rfl oX2_samplesIn rfl kX2_119M nX2_samplesIn eX2_samplesIn (by unfold fRoom; decide) (Nat.le_of_ble_eq_true rfl) rfl (bc' := 0) (bs' := 0) rfl rfl ?_
  show fR _ _ _ 39 _ (.int (nI (pInBath g n (nI (b)))) :: _) _ _ _ _
  have hib : pInBath g n (nI (b)) ≤ n := pCnt_le _ n
  exact fR_iret dX2_bathNumber_39 rfl (isI_of (by rfl))
theorem tX2_bathNumber_2 {l : Launch} {κ : KP} {M : Mem} {ad : Nat → Nat} {c : Nat} {g : Nat → Int32} {dn n : Nat} {π : Nat → Nat} (hL : LabAt M ad c g dn n π) (hI : BI g dn n) {b : Nat} (hb : b < 3) : fM l κ mX2_bathNumber [.ref (ad c), .int (nI (b)), .int (nI (2))] M (isI (pOfBath g n b 2) M) := by
  refine fM_of rfl (by decide +kernel) (Nat.le_of_ble_eq_true rfl) ?_
  obtain ⟨fD, hfD, hvD⟩ := hL.drs
  obtain ⟨fS, hfS, hvS⟩ := hL.sps
  obtain ⟨fN, hfN, hvN⟩ := hL.nds
  obtain ⟨fG, hfG, hvG⟩ := hL.dgs
  obtain ⟨fT, hfT, hvT⟩ := hL.sts
  have hdn := hL.dl
  have hn := hL.nl
  show fR l κ mX2_bathNumber 0 [(0, .ref (ad c)), (1, .int (nI (b))), (2, .int (nI (2)))] [] M 0 0 _
  refine r_iload_n dX2_bathNumber_0 rfl ?_
  refine r_lookup (off := 39) (tgt := 40) dX2_bathNumber_1 (by decide) (by decide) (by decide) ?_
  refine r_aload_n dX2_bathNumber_40 rfl ?_
  refine r_iload_n dX2_bathNumber_41 rfl ?_
  refine r_callV (As := [.int (nI (b))]) dX2_bathNumber_42 (tX2_far hL hI (by omega)) rfl hL.lab rfl rfl oX2_greatestDifferenceIn rfl kX2_167M nX2_greatestDifferenceIn eX2_greatestDifferenceIn (by unfold fRoom; decide) (Nat.le_of_ble_eq_true rfl) rfl (bc' := 0) (bs' := 0) rfl rfl ?_
  show fR _ _ _ 45 _ (.int (pFar g (b) n) :: _) _ _ _ _
  exact fR_iret dX2_bathNumber_45 rfl (isI_of (by rfl))
theorem tX2_bathNumber {l : Launch} {κ : KP} {M : Mem} {ad : Nat → Nat} {c : Nat} {g : Nat → Int32} {dn n : Nat} {π : Nat → Nat} (hL : LabAt M ad c g dn n π) (hI : BI g dn n) {b : Nat} (hb : b < 3) : ∀ {w : Nat}, w < 3 → fM l κ mX2_bathNumber [.ref (ad c), .int (nI b), .int (nI w)] M (isI (pOfBath g n b w) M)
  | 0, _ => tX2_bathNumber_0 hL hI hb
  | 1, _ => tX2_bathNumber_1 hL hI hb
  | 2, _ => tX2_bathNumber_2 hL hI hb
  | x + 3, h => by omega
theorem lX2_pend {l : Launch} {κ : KP} {M : Mem} {ad : Nat → Nat} {c : Nat} {g : Nat → Int32} {dn n : Nat} {π : Nat → Nat} (hL : LabAt M ad c g dn n π) (hI : BI g dn n)  : ∀ (N k : Nat), n < N + k → k ≤ n → fR l κ mX2_samplesWithPenetration 4 [(2, .int (nI (k))), (1, .int (nI (pPend g k))), (0, .ref (ad c))] [] M 0 0 (isI (nI (pPend g n)) M) := by
  obtain ⟨fD, hfD, hvD⟩ := hL.drs
  obtain ⟨fS, hfS, hvS⟩ := hL.sps
  obtain ⟨fN, hfN, hvN⟩ := hL.nds
  obtain ⟨fG, hfG, hvG⟩ := hL.dgs
  obtain ⟨fT, hfT, hvT⟩ := hL.sts
  have hdn := hL.dl
  have hn := hL.nl
  intro N
  induction N with
  | zero => intro k h1 h2; omega
  | succ N ih =>
    intro k h1 h2
    have hle : pPend g k ≤ k := pCnt_le _ k
    refine r_iload_n dX2_samplesWithPenetration_4 rfl ?_
    refine r_aload_n dX2_samplesWithPenetration_5 rfl ?_
    refine r_get (k := 6) dX2_samplesWithPenetration_6 hL.lab rfl rfl (by decide) kX2_64F ?_
    refine r_icmp_geN (tgt := 39) dX2_samplesWithPenetration_9 (by decide) (by omega) (by omega) (fun c1 => ?_) (fun c1 => ?_)
    · skip
      have e : k = n := by omega
      rw [e]
      refine r_iload_n dX2_samplesWithPenetration_39 rfl ?_
      exact fR_iret dX2_samplesWithPenetration_40 rfl (isI_of (by rfl))
    · skip
      refine r_aload_n dX2_samplesWithPenetration_12 rfl ?_
      refine r_get (k := 1) dX2_samplesWithPenetration_13 hL.lab rfl rfl (by decide) kX2_19F ?_
      refine r_iload_n dX2_samplesWithPenetration_16 rfl ?_
      refine r_aldqN dX2_samplesWithPenetration_17 hfS rfl (by omega) (by decide) (hvS _ (by omega)) ?_
      refine r_aload_n dX2_samplesWithPenetration_18 rfl ?_
      refine r_get (k := 4) dX2_samplesWithPenetration_19 hL.lab rfl rfl (by decide) kX2_44F ?_
      refine r_iconst (v := nI 1) dX2_samplesWithPenetration_22 (by decide) ?_
      refine r_ialdN dX2_samplesWithPenetration_23 hfT (by omega) (by decide) (hvT _ (by omega)) ?_
      refine r_callV (As := [.int (g (5 + (1)))]) dX2_samplesWithPenetration_24 (tX6_why (hL.sp _ (by omega)) (hI.spok (by omega)) rfl) rfl (hL.sp _ (by omega)).1 rfl rfl oX6_whyNoPenetration rfl kX2_170M nX6_whyNoPenetration eX6_whyNoPenetration (by unfold fRoom; decide) (Nat.le_of_ble_eq_true rfl) rfl (bc' := 0) (bs' := 0) rfl rfl ?_
      show fR _ _ _ 27 _ (.int (pWhy g k) :: _) _ _ _ _
      refine r_if_ne (tgt := 33) dX2_samplesWithPenetration_27 (by decide) (fun c2 => ?_) (fun c2 => ?_)
      · skip
        refine r_iinc (v := (nI (k + 1))) (lv' := [(2, .int (nI (k + 1))), (1, .int (nI (pPend g k))), (0, .ref (ad c))]) dX2_samplesWithPenetration_33 rfl (nI_inc _) (by decide) rfl ?_
        refine r_goto (tgt := 4) dX2_samplesWithPenetration_36 (by decide) ?_
        first | rw [show pPend g k + 1 = pPend g (k + 1) from pCnt_t (by assumption)] | rw [show pPend g k = pPend g (k + 1) from pCnt_f (by assumption)]
        exact ih (k + 1) (by omega) (by omega)
      · skip
        refine r_iinc (v := (nI (pPend g k + 1))) (lv' := [(1, .int (nI (pPend g k + 1))), (2, .int (nI (k))), (0, .ref (ad c))]) dX2_samplesWithPenetration_30 rfl (nI_inc _) (by decide) rfl ?_
        refine r_iinc (v := (nI (k + 1))) (lv' := [(2, .int (nI (k + 1))), (1, .int (nI (pPend g k + 1))), (0, .ref (ad c))]) dX2_samplesWithPenetration_33 rfl (nI_inc _) (by decide) rfl ?_
        refine r_goto (tgt := 4) dX2_samplesWithPenetration_36 (by decide) ?_
        first | rw [show pPend g k + 1 = pPend g (k + 1) from pCnt_t (by assumption)] | rw [show pPend g k = pPend g (k + 1) from pCnt_f (by assumption)]
        exact ih (k + 1) (by omega) (by omega)
theorem tX2_pend {l : Launch} {κ : KP} {M : Mem} {ad : Nat → Nat} {c : Nat} {g : Nat → Int32} {dn n : Nat} {π : Nat → Nat} (hL : LabAt M ad c g dn n π) (hI : BI g dn n)  : fM l κ mX2_samplesWithPenetration [.ref (ad c)] M (isI (nI (pPend g n)) M) := by
  refine fM_of rfl (by decide +kernel) (Nat.le_of_ble_eq_true rfl) ?_
  obtain ⟨fD, hfD, hvD⟩ := hL.drs
  obtain ⟨fS, hfS, hvS⟩ := hL.sps
  obtain ⟨fN, hfN, hvN⟩ := hL.nds
  obtain ⟨fG, hfG, hvG⟩ := hL.dgs
  obtain ⟨fT, hfT, hvT⟩ := hL.sts
  have hdn := hL.dl
  have hn := hL.nl
  show fR l κ mX2_samplesWithPenetration 0 [(0, .ref (ad c))] [] M 0 0 _
  refine r_iconst (v := nI 0) dX2_samplesWithPenetration_0 (by decide) ?_
  refine r_istore_n (lv' := [(1, .int (nI (0))), (0, .ref (ad c))]) dX2_samplesWithPenetration_1 (by decide) rfl ?_
  refine r_iconst (v := nI 0) dX2_samplesWithPenetration_2 (by decide) ?_
  refine r_istore_n (lv' := [(2, .int (nI (0))), (1, .int (nI (0))), (0, .ref (ad c))]) dX2_samplesWithPenetration_3 (by decide) rfl ?_
  exact lX2_pend hL hI (n + 1) 0 (by omega) (by omega)
theorem tX2_readings {l : Launch} {κ : KP} {M : Mem} {ad : Nat → Nat} {c : Nat} {g : Nat → Int32} {dn n : Nat} {π : Nat → Nat} (hL : LabAt M ad c g dn n π) (hI : BI g dn n)  : fM l κ mX2_readingsSoFar [.ref (ad c)] M (isI (g 2) M) := by
  refine fM_of rfl (by decide +kernel) (Nat.le_of_ble_eq_true rfl) ?_
  obtain ⟨fD, hfD, hvD⟩ := hL.drs
  obtain ⟨fS, hfS, hvS⟩ := hL.sps
  obtain ⟨fN, hfN, hvN⟩ := hL.nds
  obtain ⟨fG, hfG, hvG⟩ := hL.dgs
  obtain ⟨fT, hfT, hvT⟩ := hL.sts
  have hdn := hL.dl
  have hn := hL.nl
  show fR l κ mX2_readingsSoFar 0 [(0, .ref (ad c))] [] M 0 0 _
  refine r_iconst (v := nI 0) dX2_readingsSoFar_0 (by decide) ?_
  refine r_istore_n (lv' := [(1, .int (nI (0))), (0, .ref (ad c))]) dX2_readingsSoFar_1 (by decide) rfl ?_
  refine r_iconst (v := nI 0) dX2_readingsSoFar_2 (by decide) ?_
  refine r_istore_n (lv' := [(2, .int (nI (0))), (1, .int (nI (0))), (0, .ref (ad c))]) dX2_readingsSoFar_3 (by decide) rfl ?_
  refine r_iload_n dX2_readingsSoFar_4 rfl ?_
  refine r_iconst (v := nI 3) dX2_readingsSoFar_5 (by decide) ?_
  refine r_icmp_geN (tgt := 27) dX2_readingsSoFar_6 (by decide) (by omega) (by omega) (fun c1 => absurd c1 (by omega)) (fun c1 => ?_)
  refine r_iload_n dX2_readingsSoFar_9 rfl ?_
  refine r_aload_n dX2_readingsSoFar_10 rfl ?_
  refine r_get (k := 2) dX2_readingsSoFar_11 hL.lab rfl rfl (by decide) kX2_25F ?_
  refine r_iload_n dX2_readingsSoFar_14 rfl ?_
  refine r_aldqN dX2_readingsSoFar_15 hfN rfl (by omega) (by decide) (hvN _ (by omega)) ?_
  refine r_get (k := 2) dX2_readingsSoFar_16 (hL.nd _ (by omega)) rfl rfl (by decide) kX2_173F ?_
  refine r_iadd dX2_readingsSoFar_19 ?_
  refine r_istore_n (lv' := [(1, .int (((nI (0)) + (g (31 + 3 * (0) + 2))))), (2, .int (nI (0))), (0, .ref (ad c))]) dX2_readingsSoFar_20 (by decide) rfl ?_
  refine r_iinc (v := (nI (0 + 1))) (lv' := [(2, .int (nI (0 + 1))), (1, .int (((nI (0)) + (g (31 + 3 * (0) + 2))))), (0, .ref (ad c))]) dX2_readingsSoFar_21 rfl (nI_inc _) (by decide) rfl ?_
  refine r_goto (tgt := 4) dX2_readingsSoFar_24 (by decide) ?_
  refine r_iload_n dX2_readingsSoFar_4 rfl ?_
  refine r_iconst (v := nI 3) dX2_readingsSoFar_5 (by decide) ?_
  refine r_icmp_geN (tgt := 27) dX2_readingsSoFar_6 (by decide) (by omega) (by omega) (fun c2 => absurd c2 (by omega)) (fun c2 => ?_)
  refine r_iload_n dX2_readingsSoFar_9 rfl ?_
  refine r_aload_n dX2_readingsSoFar_10 rfl ?_
  refine r_get (k := 2) dX2_readingsSoFar_11 hL.lab rfl rfl (by decide) kX2_25F ?_
  refine r_iload_n dX2_readingsSoFar_14 rfl ?_
  refine r_aldqN dX2_readingsSoFar_15 hfN rfl (by omega) (by decide) (hvN _ (by omega)) ?_
  refine r_get (k := 2) dX2_readingsSoFar_16 (hL.nd _ (by omega)) rfl rfl (by decide) kX2_173F ?_
  refine r_iadd dX2_readingsSoFar_19 ?_
  refine r_istore_n (lv' := [(1, .int (((((nI (0)) + (g (31 + 3 * (0) + 2)))) + (g (31 + 3 * (0 + 1) + 2))))), (2, .int (nI (0 + 1))), (0, .ref (ad c))]) dX2_readingsSoFar_20 (by decide) rfl ?_
  refine r_iinc (v := (nI (0 + 1 + 1))) (lv' := [(2, .int (nI (0 + 1 + 1))), (1, .int (((((nI (0)) + (g (31 + 3 * (0) + 2)))) + (g (31 + 3 * (0 + 1) + 2))))), (0, .ref (ad c))]) dX2_readingsSoFar_21 rfl (nI_inc _) (by decide) rfl ?_
  refine r_goto (tgt := 4) dX2_readingsSoFar_24 (by decide) ?_
  refine r_iload_n dX2_readingsSoFar_4 rfl ?_
  refine r_iconst (v := nI 3) dX2_readingsSoFar_5 (by decide) ?_
  refine r_icmp_geN (tgt := 27) dX2_readingsSoFar_6 (by decide) (by omega) (by omega) (fun c3 => absurd c3 (by omega)) (fun c3 => ?_)
  refine r_iload_n dX2_readingsSoFar_9 rfl ?_
  refine r_aload_n dX2_readingsSoFar_10 rfl ?_
  refine r_get (k := 2) dX2_readingsSoFar_11 hL.lab rfl rfl (by decide) kX2_25F ?_
  refine r_iload_n dX2_readingsSoFar_14 rfl ?_
  refine r_aldqN dX2_readingsSoFar_15 hfN rfl (by omega) (by decide) (hvN _ (by omega)) ?_
  refine r_get (k := 2) dX2_readingsSoFar_16 (hL.nd _ (by omega)) rfl rfl (by decide) kX2_173F ?_
  refine r_iadd dX2_readingsSoFar_19 ?_
  refine r_istore_n (lv' := [(1, .int (((((((nI (0)) + (g (31 + 3 * (0) + 2)))) + (g (31 + 3 * (0 + 1) + 2)))) + (g (31 + 3 * (0 + 1 + 1) + 2))))), (2, .int (nI (0 + 1 + 1))), (0, .ref (ad c))]) dX2_readingsSoFar_20 (by decide) rfl ?_
  refine r_iinc (v := (nI (0 + 1 + 1 + 1))) (lv' := [(2, .int (nI (0 + 1 + 1 + 1))), (1, .int (((((((nI (0)) + (g (31 + 3 * (0) + 2)))) + (g (31 + 3 * (0 + 1) + 2)))) + (g (31 + 3 * (0 + 1 + 1) + 2))))), (0, .ref (ad c))]) dX2_readingsSoFar_21 rfl (nI_inc _) (by decide) rfl ?_
  refine r_goto (tgt := 4) dX2_readingsSoFar_24 (by decide) ?_
  refine r_iload_n dX2_readingsSoFar_4 rfl ?_
  refine r_iconst (v := nI 3) dX2_readingsSoFar_5 (by decide) ?_
  refine r_icmp_geN (tgt := 27) dX2_readingsSoFar_6 (by decide) (by omega) (by omega) (fun c4 => ?_) (fun c4 => absurd c4 (by omega))
  refine r_iload_n dX2_readingsSoFar_27 rfl ?_
  exact fR_iret dX2_readingsSoFar_28 rfl (isI_of (by rw [hI.us]; exact congrArg (· + g 36 + g 39) (Int32.zero_add (g 33))))
def bentN (g : Nat → Int32) : Nat → Nat
  | 0 => 0
  | i + 1 => if g (31 + 3 * i + 1) = 0 then bentN g i else bentN g i + 1
theorem bentN_le {g : Nat → Int32} : ∀ i, bentN g i ≤ i
  | 0 => Nat.le_refl _
  | i + 1 => by
    have := bentN_le (g := g) i
    unfold bentN
    split <;> omega
theorem bentN_eq {g : Nat → Int32} {dn n : Nat} (hI : BI g dn n) : nI (bentN g 3) = g (31 + 3 * 0 + 1) + g (31 + 3 * 1 + 1) + g (31 + 3 * 2 + 1) := by
  unfold bentN; unfold bentN; unfold bentN; unfold bentN
  rcases (hI.nd 0 (by omega)).2 with a | a <;> rcases (hI.nd 1 (by omega)).2 with b | b <;> rcases (hI.nd 2 (by omega)).2 with c | c <;> rw [a, b, c] <;> rfl
theorem lX2_bent {l : Launch} {κ : KP} {M : Mem} {ad : Nat → Nat} {c : Nat} {g : Nat → Int32} {dn n : Nat} {π : Nat → Nat} (hL : LabAt M ad c g dn n π) (hI : BI g dn n)  : ∀ (N i : Nat), 3 < N + i → i ≤ 3 → fR l κ mX2_bentNeedles 4 [(2, .int (nI (i))), (1, .int (nI (bentN g i))), (0, .ref (ad c))] [] M 0 0 (isI (nI (bentN g 3)) M) := by
  obtain ⟨fD, hfD, hvD⟩ := hL.drs
  obtain ⟨fS, hfS, hvS⟩ := hL.sps
  obtain ⟨fN, hfN, hvN⟩ := hL.nds
  obtain ⟨fG, hfG, hvG⟩ := hL.dgs
  obtain ⟨fT, hfT, hvT⟩ := hL.sts
  have hdn := hL.dl
  have hn := hL.nl
  intro N
  induction N with
  | zero => intro i h1 h2; omega
  | succ N ih =>
    intro i h1 h2
    have hle := bentN_le (g := g) i
    refine r_iload_n dX2_bentNeedles_4 rfl ?_
    refine r_iconst (v := nI 3) dX2_bentNeedles_5 (by decide) ?_
    refine r_icmp_geN (tgt := 30) dX2_bentNeedles_6 (by decide) (by omega) (by omega) (fun c1 => ?_) (fun c1 => ?_)
    · skip
      have e : i = 3 := by omega
      rw [e]
      refine r_iload_n dX2_bentNeedles_30 rfl ?_
      exact fR_iret dX2_bentNeedles_31 rfl (isI_of (by rfl))
    · skip
      refine r_aload_n dX2_bentNeedles_9 rfl ?_
      refine r_get (k := 2) dX2_bentNeedles_10 hL.lab rfl rfl (by decide) kX2_25F ?_
      refine r_iload_n dX2_bentNeedles_13 rfl ?_
      refine r_aldqN dX2_bentNeedles_14 hfN rfl (by omega) (by decide) (hvN _ (by omega)) ?_
      refine r_get (k := 1) dX2_bentNeedles_15 (hL.nd _ (by omega)) rfl rfl (by decide) kX2_146F ?_
      refine r_if_eq (tgt := 24) dX2_bentNeedles_18 (by decide) (fun c2 => ?_) (fun c2 => ?_)
      · skip
        refine r_iinc (v := (nI (i + 1))) (lv' := [(2, .int (nI (i + 1))), (1, .int (nI (bentN g i))), (0, .ref (ad c))]) dX2_bentNeedles_24 rfl (nI_inc _) (by decide) rfl ?_
        refine r_goto (tgt := 4) dX2_bentNeedles_27 (by decide) ?_
        first | rw [show bentN g i + 1 = bentN g (i + 1) from (if_neg (by assumption)).symm] | rw [show bentN g i = bentN g (i + 1) from (if_pos (by assumption)).symm]
        exact ih (i + 1) (by omega) (by omega)
      · skip
        refine r_iinc (v := (nI (bentN g i + 1))) (lv' := [(1, .int (nI (bentN g i + 1))), (2, .int (nI (i))), (0, .ref (ad c))]) dX2_bentNeedles_21 rfl (nI_inc _) (by decide) rfl ?_
        refine r_iinc (v := (nI (i + 1))) (lv' := [(2, .int (nI (i + 1))), (1, .int (nI (bentN g i + 1))), (0, .ref (ad c))]) dX2_bentNeedles_24 rfl (nI_inc _) (by decide) rfl ?_
        refine r_goto (tgt := 4) dX2_bentNeedles_27 (by decide) ?_
        first | rw [show bentN g i + 1 = bentN g (i + 1) from (if_neg (by assumption)).symm] | rw [show bentN g i = bentN g (i + 1) from (if_pos (by assumption)).symm]
        exact ih (i + 1) (by omega) (by omega)
theorem tX2_bent {l : Launch} {κ : KP} {M : Mem} {ad : Nat → Nat} {c : Nat} {g : Nat → Int32} {dn n : Nat} {π : Nat → Nat} (hL : LabAt M ad c g dn n π) (hI : BI g dn n)  : fM l κ mX2_bentNeedles [.ref (ad c)] M (isI (g (31 + 3 * 0 + 1) + g (31 + 3 * 1 + 1) + g (31 + 3 * 2 + 1)) M) := by
  refine fM_of rfl (by decide +kernel) (Nat.le_of_ble_eq_true rfl) ?_
  obtain ⟨fD, hfD, hvD⟩ := hL.drs
  obtain ⟨fS, hfS, hvS⟩ := hL.sps
  obtain ⟨fN, hfN, hvN⟩ := hL.nds
  obtain ⟨fG, hfG, hvG⟩ := hL.dgs
  obtain ⟨fT, hfT, hvT⟩ := hL.sts
  have hdn := hL.dl
  have hn := hL.nl
  show fR l κ mX2_bentNeedles 0 [(0, .ref (ad c))] [] M 0 0 _
  refine r_iconst (v := nI 0) dX2_bentNeedles_0 (by decide) ?_
  refine r_istore_n (lv' := [(1, .int (nI (0))), (0, .ref (ad c))]) dX2_bentNeedles_1 (by decide) rfl ?_
  refine r_iconst (v := nI 0) dX2_bentNeedles_2 (by decide) ?_
  refine r_istore_n (lv' := [(2, .int (nI (0))), (1, .int (nI (0))), (0, .ref (ad c))]) dX2_bentNeedles_3 (by decide) rfl ?_
  rw [← bentN_eq hI]
  exact lX2_bent hL hI 4 0 (by omega) (by omega)
theorem lX2_sold {l : Launch} {κ : KP} {M : Mem} {ad : Nat → Nat} {c : Nat} {g : Nat → Int32} {dn n : Nat} {π : Nat → Nat} (hL : LabAt M ad c g dn n π) (hI : BI g dn n)  : ∀ (N d : Nat), dn < N + d → d ≤ dn → fR l κ mX2_soldDrums 4 [(2, .int (nI (d))), (1, .int (nI (pSoldD g d))), (0, .ref (ad c))] [] M 0 0 (isI (nI (pSoldD g dn)) M) := by
  obtain ⟨fD, hfD, hvD⟩ := hL.drs
  obtain ⟨fS, hfS, hvS⟩ := hL.sps
  obtain ⟨fN, hfN, hvN⟩ := hL.nds
  obtain ⟨fG, hfG, hvG⟩ := hL.dgs
  obtain ⟨fT, hfT, hvT⟩ := hL.sts
  have hdn := hL.dl
  have hn := hL.nl
  intro N
  induction N with
  | zero => intro d h1 h2; omega
  | succ N ih =>
    intro d h1 h2
    have hle : pSoldD g d ≤ d := pCnt_le _ d
    refine r_iload_n dX2_soldDrums_4 rfl ?_
    refine r_aload_n dX2_soldDrums_5 rfl ?_
    refine r_get (k := 5) dX2_soldDrums_6 hL.lab rfl rfl (by decide) kX2_57F ?_
    refine r_icmp_geN (tgt := 34) dX2_soldDrums_9 (by decide) (by omega) (by omega) (fun c1 => ?_) (fun c1 => ?_)
    · skip
      have e : d = dn := by omega
      rw [e]
      refine r_iload_n dX2_soldDrums_34 rfl ?_
      exact fR_iret dX2_soldDrums_35 rfl (isI_of (by rfl))
    · skip
      refine r_aload_n dX2_soldDrums_12 rfl ?_
      refine r_get (k := 0) dX2_soldDrums_13 hL.lab rfl rfl (by decide) kX2_11F ?_
      refine r_iload_n dX2_soldDrums_16 rfl ?_
      refine r_aldqN dX2_soldDrums_17 hfD rfl (by omega) (by decide) (hvD _ (by omega)) ?_
      refine r_get (k := 2) dX2_soldDrums_18 (hL.dr _ (by omega)) rfl rfl (by decide) kX2_174F ?_
      refine r_iconst (v := (-1)) dX2_soldDrums_21 (by decide) ?_
      refine r_icmp_eq (tgt := 28) dX2_soldDrums_22 (by decide) (fun c2 => ?_) (fun c2 => ?_)
      · skip
        refine r_iinc (v := (nI (d + 1))) (lv' := [(2, .int (nI (d + 1))), (1, .int (nI (pSoldD g d))), (0, .ref (ad c))]) dX2_soldDrums_28 rfl (nI_inc _) (by decide) rfl ?_
        refine r_goto (tgt := 4) dX2_soldDrums_31 (by decide) ?_
        first | rw [show pSoldD g d + 1 = pSoldD g (d + 1) from pCnt_t (by assumption)] | rw [show pSoldD g d = pSoldD g (d + 1) from pCnt_f (not_not_intro (by assumption))]
        exact ih (d + 1) (by omega) (by omega)
      · skip
        refine r_iinc (v := (nI (pSoldD g d + 1))) (lv' := [(1, .int (nI (pSoldD g d + 1))), (2, .int (nI (d))), (0, .ref (ad c))]) dX2_soldDrums_25 rfl (nI_inc _) (by decide) rfl ?_
        refine r_iinc (v := (nI (d + 1))) (lv' := [(2, .int (nI (d + 1))), (1, .int (nI (pSoldD g d + 1))), (0, .ref (ad c))]) dX2_soldDrums_28 rfl (nI_inc _) (by decide) rfl ?_
        refine r_goto (tgt := 4) dX2_soldDrums_31 (by decide) ?_
        first | rw [show pSoldD g d + 1 = pSoldD g (d + 1) from pCnt_t (by assumption)] | rw [show pSoldD g d = pSoldD g (d + 1) from pCnt_f (not_not_intro (by assumption))]
        exact ih (d + 1) (by omega) (by omega)
theorem tX2_sold {l : Launch} {κ : KP} {M : Mem} {ad : Nat → Nat} {c : Nat} {g : Nat → Int32} {dn n : Nat} {π : Nat → Nat} (hL : LabAt M ad c g dn n π) (hI : BI g dn n)  : fM l κ mX2_soldDrums [.ref (ad c)] M (isI (nI (pSoldD g dn)) M) := by
  refine fM_of rfl (by decide +kernel) (Nat.le_of_ble_eq_true rfl) ?_
  obtain ⟨fD, hfD, hvD⟩ := hL.drs
  obtain ⟨fS, hfS, hvS⟩ := hL.sps
  obtain ⟨fN, hfN, hvN⟩ := hL.nds
  obtain ⟨fG, hfG, hvG⟩ := hL.dgs
  obtain ⟨fT, hfT, hvT⟩ := hL.sts
  have hdn := hL.dl
  have hn := hL.nl
  show fR l κ mX2_soldDrums 0 [(0, .ref (ad c))] [] M 0 0 _
  refine r_iconst (v := nI 0) dX2_soldDrums_0 (by decide) ?_
  refine r_istore_n (lv' := [(1, .int (nI (0))), (0, .ref (ad c))]) dX2_soldDrums_1 (by decide) rfl ?_
  refine r_iconst (v := nI 0) dX2_soldDrums_2 (by decide) ?_
  refine r_istore_n (lv' := [(2, .int (nI (0))), (1, .int (nI (0))), (0, .ref (ad c))]) dX2_soldDrums_3 (by decide) rfl ?_
  exact lX2_sold hL hI (dn + 1) 0 (by omega) (by omega)
theorem tX2_total_0 {l : Launch} {κ : KP} {M : Mem} {ad : Nat → Nat} {c : Nat} {g : Nat → Int32} {dn n : Nat} {π : Nat → Nat} (hL : LabAt M ad c g dn n π) (hI : BI g dn n) {sv : Int32} : fM l κ mX2_total [.ref (ad c), .int (nI (0))] M (isI (pCounted g sv n dn 0) M) := by
  refine fM_of rfl (by decide +kernel) (Nat.le_of_ble_eq_true rfl) ?_
  obtain ⟨fD, hfD, hvD⟩ := hL.drs
  obtain ⟨fS, hfS, hvS⟩ := hL.sps
  obtain ⟨fN, hfN, hvN⟩ := hL.nds
  obtain ⟨fG, hfG, hvG⟩ := hL.dgs
  obtain ⟨fT, hfT, hvT⟩ := hL.sts
  have hdn := hL.dl
  have hn := hL.nl
  show fR l κ mX2_total 0 [(0, .ref (ad c)), (1, .int (nI (0)))] [] M 0 0 _
  refine r_iload_n dX2_total_0 rfl ?_
  refine r_tableIn (off := 55) (tgt := 56) dX2_total_1 (by decide) (by decide) (by decide) (by decide) ?_
  refine r_aload_n dX2_total_56 rfl ?_
  refine r_get (k := 5) dX2_total_57 hL.lab rfl rfl (by decide) kX2_57F ?_
  exact fR_iret dX2_total_60 rfl (isI_of (by first | rfl | exact hI.d0.symm | exact hI.n0.symm))
theorem tX2_total_1 {l : Launch} {κ : KP} {M : Mem} {ad : Nat → Nat} {c : Nat} {g : Nat → Int32} {dn n : Nat} {π : Nat → Nat} (hL : LabAt M ad c g dn n π) (hI : BI g dn n) {sv : Int32} : fM l κ mX2_total [.ref (ad c), .int (nI (1))] M (isI (pCounted g sv n dn 1) M) := by
  refine fM_of rfl (by decide +kernel) (Nat.le_of_ble_eq_true rfl) ?_
  obtain ⟨fD, hfD, hvD⟩ := hL.drs
  obtain ⟨fS, hfS, hvS⟩ := hL.sps
  obtain ⟨fN, hfN, hvN⟩ := hL.nds
  obtain ⟨fG, hfG, hvG⟩ := hL.dgs
  obtain ⟨fT, hfT, hvT⟩ := hL.sts
  have hdn := hL.dl
  have hn := hL.nl
  show fR l κ mX2_total 0 [(0, .ref (ad c)), (1, .int (nI (1)))] [] M 0 0 _
  refine r_iload_n dX2_total_0 rfl ?_
  refine r_tableIn (off := 60) (tgt := 61) dX2_total_1 (by decide) (by decide) (by decide) (by decide) ?_
  refine r_aload_n dX2_total_61 rfl ?_
  refine r_get (k := 6) dX2_total_62 hL.lab rfl rfl (by decide) kX2_64F ?_
  exact fR_iret dX2_total_65 rfl (isI_of (by first | rfl | exact hI.d0.symm | exact hI.n0.symm))
theorem tX2_total_2 {l : Launch} {κ : KP} {M : Mem} {ad : Nat → Nat} {c : Nat} {g : Nat → Int32} {dn n : Nat} {π : Nat → Nat} (hL : LabAt M ad c g dn n π) (hI : BI g dn n) {sv : Int32} : fM l κ mX2_total [.ref (ad c), .int (nI (2))] M (isI (pCounted g sv n dn 2) M) := by
  refine fM_of rfl (by decide +kernel) (Nat.le_of_ble_eq_true rfl) ?_
  obtain ⟨fD, hfD, hvD⟩ := hL.drs
  obtain ⟨fS, hfS, hvS⟩ := hL.sps
  obtain ⟨fN, hfN, hvN⟩ := hL.nds
  obtain ⟨fG, hfG, hvG⟩ := hL.dgs
  obtain ⟨fT, hfT, hvT⟩ := hL.sts
  have hdn := hL.dl
  have hn := hL.nl
  show fR l κ mX2_total 0 [(0, .ref (ad c)), (1, .int (nI (2)))] [] M 0 0 _
  refine r_iload_n dX2_total_0 rfl ?_
  refine r_tableIn (off := 65) (tgt := 66) dX2_total_1 (by decide) (by decide) (by decide) (by decide) ?_
  refine r_aload_n dX2_total_66 rfl ?_
  refine r_callV (As := []) dX2_total_67 (tX2_readings hL hI) rfl hL.lab rfl rfl oX2_readingsSoFar rfl kX2_177M nX2_readingsSoFar eX2_readingsSoFar (by unfold fRoom; decide) (Nat.le_of_ble_eq_true rfl) rfl (bc' := 0) (bs' := 0) rfl rfl ?_
  show fR _ _ _ 70 _ (.int (g 2) :: _) _ _ _ _
  exact fR_iret dX2_total_70 rfl (isI_of (by first | rfl | exact hI.d0.symm | exact hI.n0.symm))
theorem tX2_total_3 {l : Launch} {κ : KP} {M : Mem} {ad : Nat → Nat} {c : Nat} {g : Nat → Int32} {dn n : Nat} {π : Nat → Nat} (hL : LabAt M ad c g dn n π) (hI : BI g dn n) {sv : Int32} : fM l κ mX2_total [.ref (ad c), .int (nI (3))] M (isI (pCounted g sv n dn 3) M) := by
  refine fM_of rfl (by decide +kernel) (Nat.le_of_ble_eq_true rfl) ?_
  obtain ⟨fD, hfD, hvD⟩ := hL.drs
  obtain ⟨fS, hfS, hvS⟩ := hL.sps
  obtain ⟨fN, hfN, hvN⟩ := hL.nds
  obtain ⟨fG, hfG, hvG⟩ := hL.dgs
  obtain ⟨fT, hfT, hvT⟩ := hL.sts
  have hdn := hL.dl
  have hn := hL.nl
  show fR l κ mX2_total 0 [(0, .ref (ad c)), (1, .int (nI (3)))] [] M 0 0 _
  refine r_iload_n dX2_total_0 rfl ?_
  refine r_tableIn (off := 70) (tgt := 71) dX2_total_1 (by decide) (by decide) (by decide) (by decide) ?_
  refine r_aload_n dX2_total_71 rfl ?_
  refine r_callV (As := []) dX2_total_72 (tX2_bent hL hI) rfl hL.lab rfl rfl oX2_bentNeedles rfl kX2_180M nX2_bentNeedles eX2_bentNeedles (by unfold fRoom; decide) (Nat.le_of_ble_eq_true rfl) rfl (bc' := 0) (bs' := 0) rfl rfl ?_
  show fR _ _ _ 75 _ (.int ((g (31 + 3 * 0 + 1) + g (31 + 3 * 1 + 1) + g (31 + 3 * 2 + 1))) :: _) _ _ _ _
  exact fR_iret dX2_total_75 rfl (isI_of (by first | rfl | exact hI.d0.symm | exact hI.n0.symm))
theorem tX2_total_4 {l : Launch} {κ : KP} {M : Mem} {ad : Nat → Nat} {c : Nat} {g : Nat → Int32} {dn n : Nat} {π : Nat → Nat} (hL : LabAt M ad c g dn n π) (hI : BI g dn n) {sv : Int32} : fM l κ mX2_total [.ref (ad c), .int (nI (4))] M (isI (pCounted g sv n dn 4) M) := by
  refine fM_of rfl (by decide +kernel) (Nat.le_of_ble_eq_true rfl) ?_
  obtain ⟨fD, hfD, hvD⟩ := hL.drs
  obtain ⟨fS, hfS, hvS⟩ := hL.sps
  obtain ⟨fN, hfN, hvN⟩ := hL.nds
  obtain ⟨fG, hfG, hvG⟩ := hL.dgs
  obtain ⟨fT, hfT, hvT⟩ := hL.sts
  have hdn := hL.dl
  have hn := hL.nl
  show fR l κ mX2_total 0 [(0, .ref (ad c)), (1, .int (nI (4)))] [] M 0 0 _
  refine r_iload_n dX2_total_0 rfl ?_
  refine r_tableIn (off := 75) (tgt := 76) dX2_total_1 (by decide) (by decide) (by decide) (by decide) ?_
  refine r_aload_n dX2_total_76 rfl ?_
  refine r_callV (As := []) dX2_total_77 (tX2_sold hL hI) rfl hL.lab rfl rfl oX2_soldDrums rfl kX2_183M nX2_soldDrums eX2_soldDrums (by unfold fRoom; decide) (Nat.le_of_ble_eq_true rfl) rfl (bc' := 0) (bs' := 0) rfl rfl ?_
  show fR _ _ _ 80 _ (.int (nI (pSoldD g dn)) :: _) _ _ _ _
  exact fR_iret dX2_total_80 rfl (isI_of (by first | rfl | exact hI.d0.symm | exact hI.n0.symm))
theorem tX2_total_5 {l : Launch} {κ : KP} {M : Mem} {ad : Nat → Nat} {c : Nat} {g : Nat → Int32} {dn n : Nat} {π : Nat → Nat} (hL : LabAt M ad c g dn n π) (hI : BI g dn n) {sv : Int32} : fM l κ mX2_total [.ref (ad c), .int (nI (5))] M (isI (pCounted g sv n dn 5) M) := by
  refine fM_of rfl (by decide +kernel) (Nat.le_of_ble_eq_true rfl) ?_
  obtain ⟨fD, hfD, hvD⟩ := hL.drs
  obtain ⟨fS, hfS, hvS⟩ := hL.sps
  obtain ⟨fN, hfN, hvN⟩ := hL.nds
  obtain ⟨fG, hfG, hvG⟩ := hL.dgs
  obtain ⟨fT, hfT, hvT⟩ := hL.sts
  have hdn := hL.dl
  have hn := hL.nl
  show fR l κ mX2_total 0 [(0, .ref (ad c)), (1, .int (nI (5)))] [] M 0 0 _
  refine r_iload_n dX2_total_0 rfl ?_
  refine r_tableIn (off := 80) (tgt := 81) dX2_total_1 (by decide) (by decide) (by decide) (by decide) ?_
  refine r_aload_n dX2_total_81 rfl ?_
  refine r_get (k := 7) dX2_total_82 hL.lab rfl rfl (by decide) kX2_79F ?_
  exact fR_iret dX2_total_85 rfl (isI_of (by first | rfl | exact hI.d0.symm | exact hI.n0.symm))
theorem tX2_total_6 {l : Launch} {κ : KP} {M : Mem} {ad : Nat → Nat} {c : Nat} {g : Nat → Int32} {dn n : Nat} {π : Nat → Nat} (hL : LabAt M ad c g dn n π) (hI : BI g dn n) {sv : Int32} : fM l κ mX2_total [.ref (ad c), .int (nI (6))] M (isI (pCounted g sv n dn 6) M) := by
  refine fM_of rfl (by decide +kernel) (Nat.le_of_ble_eq_true rfl) ?_
  obtain ⟨fD, hfD, hvD⟩ := hL.drs
  obtain ⟨fS, hfS, hvS⟩ := hL.sps
  obtain ⟨fN, hfN, hvN⟩ := hL.nds
  obtain ⟨fG, hfG, hvG⟩ := hL.dgs
  obtain ⟨fT, hfT, hvT⟩ := hL.sts
  have hdn := hL.dl
  have hn := hL.nl
  show fR l κ mX2_total 0 [(0, .ref (ad c)), (1, .int (nI (6)))] [] M 0 0 _
  refine r_iload_n dX2_total_0 rfl ?_
  refine r_tableIn (off := 85) (tgt := 86) dX2_total_1 (by decide) (by decide) (by decide) (by decide) ?_
  refine r_aload_n dX2_total_86 rfl ?_
  refine r_callV (As := []) dX2_total_87 (tX2_pend hL hI) rfl hL.lab rfl rfl oX2_samplesWithPenetration rfl kX2_186M nX2_samplesWithPenetration eX2_samplesWithPenetration (by unfold fRoom; decide) (Nat.le_of_ble_eq_true rfl) rfl (bc' := 0) (bs' := 0) rfl rfl ?_
  show fR _ _ _ 90 _ (.int (nI (pPend g n)) :: _) _ _ _ _
  exact fR_iret dX2_total_90 rfl (isI_of (by first | rfl | exact hI.d0.symm | exact hI.n0.symm))
theorem tX2_total_7 {l : Launch} {κ : KP} {M : Mem} {ad : Nat → Nat} {c : Nat} {g : Nat → Int32} {dn n : Nat} {π : Nat → Nat} (hL : LabAt M ad c g dn n π) (hI : BI g dn n) {sv : Int32} : fM l κ mX2_total [.ref (ad c), .int (nI (7))] M (isI (pCounted g sv n dn 7) M) := by
  refine fM_of rfl (by decide +kernel) (Nat.le_of_ble_eq_true rfl) ?_
  obtain ⟨fD, hfD, hvD⟩ := hL.drs
  obtain ⟨fS, hfS, hvS⟩ := hL.sps
  obtain ⟨fN, hfN, hvN⟩ := hL.nds
  obtain ⟨fG, hfG, hvG⟩ := hL.dgs
  obtain ⟨fT, hfT, hvT⟩ := hL.sts
  have hdn := hL.dl
  have hn := hL.nl
  show fR l κ mX2_total 0 [(0, .ref (ad c)), (1, .int (nI (7)))] [] M 0 0 _
  refine r_iload_n dX2_total_0 rfl ?_
  refine r_tableIn (off := 90) (tgt := 91) dX2_total_1 (by decide) (by decide) (by decide) (by decide) ?_
  refine r_aload_n dX2_total_91 rfl ?_
  refine r_get (k := 8) dX2_total_92 hL.lab rfl rfl (by decide) kX2_82F ?_
  exact fR_iret dX2_total_95 rfl (isI_of (by first | rfl | exact hI.d0.symm | exact hI.n0.symm))
theorem tX2_total_8 {l : Launch} {κ : KP} {M : Mem} {ad : Nat → Nat} {c : Nat} {g : Nat → Int32} {dn n : Nat} {π : Nat → Nat} (hL : LabAt M ad c g dn n π) (hI : BI g dn n) {sv : Int32} : fM l κ mX2_total [.ref (ad c), .int (nI (8))] M (isI (pCounted g sv n dn 8) M) := by
  refine fM_of rfl (by decide +kernel) (Nat.le_of_ble_eq_true rfl) ?_
  obtain ⟨fD, hfD, hvD⟩ := hL.drs
  obtain ⟨fS, hfS, hvS⟩ := hL.sps
  obtain ⟨fN, hfN, hvN⟩ := hL.nds
  obtain ⟨fG, hfG, hvG⟩ := hL.dgs
  obtain ⟨fT, hfT, hvT⟩ := hL.sts
  have hdn := hL.dl
  have hn := hL.nl
  show fR l κ mX2_total 0 [(0, .ref (ad c)), (1, .int (nI (8)))] [] M 0 0 _
  refine r_iload_n dX2_total_0 rfl ?_
  refine r_tableIn (off := 95) (tgt := 96) dX2_total_1 (by decide) (by decide) (by decide) (by decide) ?_
  refine r_aload_n dX2_total_96 rfl ?_
  refine r_get (k := 4) dX2_total_97 hL.lab rfl rfl (by decide) kX2_44F ?_
  refine r_iconst (v := nI 0) dX2_total_100 (by decide) ?_
  refine r_ialdN dX2_total_101 hfT (by omega) (by decide) (hvT _ (by omega)) ?_
  exact fR_iret dX2_total_102 rfl (isI_of (by first | rfl | exact hI.d0.symm | exact hI.n0.symm))
theorem tX2_total_9 {l : Launch} {κ : KP} {M : Mem} {ad : Nat → Nat} {c : Nat} {g : Nat → Int32} {dn n : Nat} {π : Nat → Nat} (hL : LabAt M ad c g dn n π) (hI : BI g dn n) {sv : Int32} : fM l κ mX2_total [.ref (ad c), .int (nI (9))] M (isI (pCounted g sv n dn 9) M) := by
  refine fM_of rfl (by decide +kernel) (Nat.le_of_ble_eq_true rfl) ?_
  obtain ⟨fD, hfD, hvD⟩ := hL.drs
  obtain ⟨fS, hfS, hvS⟩ := hL.sps
  obtain ⟨fN, hfN, hvN⟩ := hL.nds
  obtain ⟨fG, hfG, hvG⟩ := hL.dgs
  obtain ⟨fT, hfT, hvT⟩ := hL.sts
  have hdn := hL.dl
  have hn := hL.nl
  show fR l κ mX2_total 0 [(0, .ref (ad c)), (1, .int (nI (9)))] [] M 0 0 _
  refine r_iload_n dX2_total_0 rfl ?_
  refine r_tableIn (off := 102) (tgt := 103) dX2_total_1 (by decide) (by decide) (by decide) (by decide) ?_
  refine r_aload_n dX2_total_103 rfl ?_
  refine r_get (k := 4) dX2_total_104 hL.lab rfl rfl (by decide) kX2_44F ?_
  refine r_iconst (v := nI 1) dX2_total_107 (by decide) ?_
  refine r_ialdN dX2_total_108 hfT (by omega) (by decide) (hvT _ (by omega)) ?_
  exact fR_iret dX2_total_109 rfl (isI_of (by first | rfl | exact hI.d0.symm | exact hI.n0.symm))
theorem tX2_total_10 {l : Launch} {κ : KP} {M : Mem} {ad : Nat → Nat} {c : Nat} {g : Nat → Int32} {dn n : Nat} {π : Nat → Nat} (hL : LabAt M ad c g dn n π) (hI : BI g dn n) {sv : Int32} : fM l κ mX2_total [.ref (ad c), .int (nI (10))] M (isI (pCounted g sv n dn 10) M) := by
  refine fM_of rfl (by decide +kernel) (Nat.le_of_ble_eq_true rfl) ?_
  obtain ⟨fD, hfD, hvD⟩ := hL.drs
  obtain ⟨fS, hfS, hvS⟩ := hL.sps
  obtain ⟨fN, hfN, hvN⟩ := hL.nds
  obtain ⟨fG, hfG, hvG⟩ := hL.dgs
  obtain ⟨fT, hfT, hvT⟩ := hL.sts
  have hdn := hL.dl
  have hn := hL.nl
  show fR l κ mX2_total 0 [(0, .ref (ad c)), (1, .int (nI (10)))] [] M 0 0 _
  refine r_iload_n dX2_total_0 rfl ?_
  refine r_tableOut (tgt := 110) dX2_total_1 (by decide) (by decide) ?_
  refine r_aload_n dX2_total_110 rfl ?_
  refine r_get (k := 4) dX2_total_111 hL.lab rfl rfl (by decide) kX2_44F ?_
  refine r_iconst (v := nI 2) dX2_total_114 (by decide) ?_
  refine r_ialdN dX2_total_115 hfT (by omega) (by decide) (hvT _ (by omega)) ?_
  exact fR_iret dX2_total_116 rfl (isI_of (by first | rfl | exact hI.d0.symm | exact hI.n0.symm))
theorem tX2_total {l : Launch} {κ : KP} {M : Mem} {ad : Nat → Nat} {c : Nat} {g : Nat → Int32} {dn n : Nat} {π : Nat → Nat} (hL : LabAt M ad c g dn n π) (hI : BI g dn n) {sv : Int32} : ∀ {w : Nat}, w < 11 → fM l κ mX2_total [.ref (ad c), .int (nI w)] M (isI (pCounted g sv n dn w) M)
  | 0, _ => tX2_total_0 hL hI
  | 1, _ => tX2_total_1 hL hI
  | 2, _ => tX2_total_2 hL hI
  | 3, _ => tX2_total_3 hL hI
  | 4, _ => tX2_total_4 hL hI
  | 5, _ => tX2_total_5 hL hI
  | 6, _ => tX2_total_6 hL hI
  | 7, _ => tX2_total_7 hL hI
  | 8, _ => tX2_total_8 hL hI
  | 9, _ => tX2_total_9 hL hI
  | 10, _ => tX2_total_10 hL hI
  | x + 11, h => by omega
