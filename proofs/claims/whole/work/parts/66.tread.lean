/-! THE CLASS'S TEXT -/
def eP (ch : Nat → Nat) (ln : Nat) : Nat → Nat → MS → Nat × MS
  | 0, i, s => (i, s)
  | N + 1, i, s => if i < ln then (if ch i = 59 ∧ cmpN s = true then eP ch ln N (i + 1) clrS else if (accN s (ch i)).1 = true then eP ch ln N (i + 1) (accN s (ch i)).2 else (i, (accN s (ch i)).2)) else (i, s)
theorem eP_c {ch : Nat → Nat} {ln N i : Nat} {s : MS} : eP ch ln (N + 1) i s = if i < ln then (if ch i = 59 ∧ cmpN s = true then eP ch ln N (i + 1) clrS else if (accN s (ch i)).1 = true then eP ch ln N (i + 1) (accN s (ch i)).2 else (i, (accN s (ch i)).2)) else (i, s) := rfl
def nP (ch : Nat → Nat) (ln : Nat) : Nat → Nat → MS → Nat × MS
  | 0, i, s => (i, s)
  | N + 1, i, s => if i < ln ∧ ch i ≠ 59 then nP ch ln N (i + 1) (accN s (ch i)).2 else (i, s)
theorem nP_c {ch : Nat → Nat} {ln N i : Nat} {s : MS} : nP ch ln (N + 1) i s = if i < ln ∧ ch i ≠ 59 then nP ch ln N (i + 1) (accN s (ch i)).2 else (i, s) := rfl
def ePost (κ : KP) (ad : Nat → Nat) (M : Mem) (R : Nat × MS) : FPost := fun o M' => o = .inl (some (.int (nI R.1))) ∧ PtAt κ ad M' R.2 ∧ MI R.2 60 ∧ OffP ad M M'
def TxAt (ad : Nat → Nat) (M : Mem) (fc : Nat → Int32) (ln : Nat) (pl : Int32) : Prop := M (ad 248) = some (.inl (4, [.ref (ad 249), .ref (ad 250), .int (nI ln), .int pl])) ∧ M (ad 249) = some (.inr (1, 60, .inl fc))
theorem TxAt.off {ad : Nat → Nat} {M M1 : Mem} {fc : Nat → Int32} {ln : Nat} {pl : Int32} (h : TxAt ad M fc ln pl) (hA : aInj ad) (ho : OffP ad M M1) : TxAt ad M1 fc ln pl := ⟨(ho.at hA (by omega) (by omega) (by omega)).trans h.1, (ho.at hA (by omega) (by omega) (by omega)).trans h.2⟩
theorem lX4_errorPlace {l : Launch} {κ : KP} {ad : Nat → Nat} {fc : Nat → Int32} {ln : Nat} {ch : Nat → Nat} (hA : aInj ad) (hl : ln ≤ 60) (hcv : ∀ i, i < ln → fc i = nI (ch i)) (h126 : ∀ i, ch i ≤ 126) : ∀ (N i : Nat) (s : MS) (M : Mem) (pl : Int32), ln < N + i → i ≤ ln → MI s i → PtAt κ ad M s → TxAt ad M fc ln pl → fR l κ mX4_errorPlace 9 [(1, .int (nI (i))), (0, .ref (ad 248))] [] M 0 0 (ePost κ ad M (eP ch ln N i s)) := by
  intro N
  induction N with
  | zero => intro i s M pl h1 h2; omega
  | succ N ih =>
    intro i s M pl h1 h2 hI hp hT
    have h9 := h126 i
    refine r_iload_n dX4_errorPlace_9 rfl ?_
    refine r_aload_n dX4_errorPlace_10 rfl ?_
    refine r_get (k := 2) dX4_errorPlace_11 hT.1 rfl rfl (by decide) kX4_22F ?_
    refine r_icmp_geN (tgt := 69) dX4_errorPlace_14 (by decide) (by omega) (by omega) (fun c1 => ?_) (fun c1 => ?_)
    · skip
      refine r_aload_n dX4_errorPlace_69 rfl ?_
      refine r_get (k := 2) dX4_errorPlace_70 hT.1 rfl rfl (by decide) kX4_22F ?_
      have ei : i = ln := by omega
      refine fR_iret dX4_errorPlace_73 rfl ?_
      rw [eP_c, if_neg (by omega)]
      exact ⟨by rw [ei], hp, hI.mono (by omega), OffP.refl⟩
    · skip
      refine r_aload_n dX4_errorPlace_17 rfl ?_
      refine r_get (k := 0) dX4_errorPlace_18 hT.1 rfl rfl (by decide) kX4_9F ?_
      refine r_iload_n dX4_errorPlace_21 rfl ?_
      refine r_caldN dX4_errorPlace_22 hT.2 (by omega) (by decide) (hcv _ (by omega)) ?_
      refine r_istore_n (lv' := [(2, .int (nI (ch (i)))), (1, .int (nI (i))), (0, .ref (ad 248))]) dX4_errorPlace_23 (by decide) rfl ?_
      refine r_iload_n dX4_errorPlace_24 rfl ?_
      refine r_bipush (v := nI 59) dX4_errorPlace_25 (by decide) ?_
      refine r_icmp_neN (tgt := 50) dX4_errorPlace_27 (by decide) (by omega) (by omega) (fun c2 => ?_) (fun c2 => ?_)
      · skip
        refine r_aload_n dX4_errorPlace_50 rfl ?_
        refine r_get (k := 1) dX4_errorPlace_51 hT.1 rfl rfl (by decide) kX4_18F ?_
        refine r_iload_n dX4_errorPlace_54 rfl ?_
        obtain ⟨x0, x2, x3, jq, fq, hjq, hpq, hfq⟩ := hp.raw hI
        refine r_callVP (As := [.int (nI (ch (i)))]) dX4_errorPlace_55 (tX5_accept hA hp (hI.mono (by omega)) (c := ch i) (by have := h126 i; omega)) rfl hpq rfl rfl oX5_accept rfl kX4_33M nX5_accept eX5_accept (by unfold fRoom; decide) (Nat.le_of_ble_eq_true rfl) rfl (bc' := 0) (bs' := 0) rfl rfl (fun E M9 h => by cases h.1) (fun v M1 hq => ?_)
        obtain ⟨hv1, hp1, ho1⟩ := hq
        cases hv1
        have hT1 := hT.off hA ho1
        have hI1 := MI_acc hI (show ch i < 128 by have := h126 i; omega)
        show fR _ _ _ 58 _ (.int (bI ((accN s (ch i)).1)) :: _) _ _ _ _
        refine r_if_neB (tgt := 63) dX4_errorPlace_58 (by decide) (fun c3 => ?_) (fun c3 => ?_)
        · skip
          refine r_iinc (v := (nI (i + 1))) (lv' := [(1, .int (nI (i + 1))), (2, .int (nI (ch (i)))), (0, .ref (ad 248))]) dX4_errorPlace_63 rfl (nI_inc _) (by decide) rfl ?_
          refine r_goto (tgt := 9) dX4_errorPlace_66 (by decide) ?_
          refine r_lv (lv' := [(1, .int (nI (i + 1))), (0, .ref (ad 248))]) (by simp) ?_
          have e : eP ch ln (N + 1) i s = eP ch ln N (i + 1) (accN s (ch i)).2 := eP_c.trans ((if_pos (by omega)).trans ((if_neg (fun z => absurd z.1 (by omega))).trans (if_pos (by assumption))))
          rw [e]
          exact fR.mono (ih (i + 1) _ M1 pl (by omega) (by omega) hI1 hp1 hT1) (fun o M' h => ⟨h.1, h.2.1, h.2.2.1, ho1.trans h.2.2.2⟩)
        · skip
          refine r_iload_n dX4_errorPlace_61 rfl ?_
          have e : eP ch ln (N + 1) i s = (i, (accN s (ch i)).2) := eP_c.trans ((if_pos (by omega)).trans ((if_neg (fun z => absurd z.1 (by omega))).trans (if_neg (bne_of (by assumption)))))
          rw [e]
          exact fR_iret dX4_errorPlace_62 rfl ⟨rfl, hp1, hI1.mono (by omega), ho1⟩
      · skip
        refine r_aload_n dX4_errorPlace_30 rfl ?_
        refine r_get (k := 1) dX4_errorPlace_31 hT.1 rfl rfl (by decide) kX4_18F ?_
        obtain ⟨x0, x2, x3, jq, fq, hjq, hpq, hfq⟩ := hp.raw hI
        refine r_callV (As := []) dX4_errorPlace_34 (tX5_cmp hA hp (hI.mono (by omega))) rfl hpq rfl rfl oX5_isComplete rfl kX4_29M nX5_isComplete eX5_isComplete (by unfold fRoom; decide) (Nat.le_of_ble_eq_true rfl) rfl (bc' := 0) (bs' := 0) rfl rfl ?_
        show fR _ _ _ 37 _ (.int (bI (cmpN s)) :: _) _ _ _ _
        refine r_if_eqB (tgt := 50) dX4_errorPlace_37 (by decide) (fun c4 => ?_) (fun c4 => ?_)
        · skip
          refine r_aload_n dX4_errorPlace_50 rfl ?_
          refine r_get (k := 1) dX4_errorPlace_51 hT.1 rfl rfl (by decide) kX4_18F ?_
          refine r_iload_n dX4_errorPlace_54 rfl ?_
          obtain ⟨x0, x2, x3, jq, fq, hjq, hpq, hfq⟩ := hp.raw hI
          refine r_callVP (As := [.int (nI (ch (i)))]) dX4_errorPlace_55 (tX5_accept hA hp (hI.mono (by omega)) (c := ch i) (by have := h126 i; omega)) rfl hpq rfl rfl oX5_accept rfl kX4_33M nX5_accept eX5_accept (by unfold fRoom; decide) (Nat.le_of_ble_eq_true rfl) rfl (bc' := 0) (bs' := 0) rfl rfl (fun E M9 h => by cases h.1) (fun v M1 hq => ?_)
          obtain ⟨hv1, hp1, ho1⟩ := hq
          cases hv1
          have hT1 := hT.off hA ho1
          have hI1 := MI_acc hI (show ch i < 128 by have := h126 i; omega)
          show fR _ _ _ 58 _ (.int (bI ((accN s (ch i)).1)) :: _) _ _ _ _
          refine r_if_neB (tgt := 63) dX4_errorPlace_58 (by decide) (fun c5 => ?_) (fun c5 => ?_)
          · skip
            refine r_iinc (v := (nI (i + 1))) (lv' := [(1, .int (nI (i + 1))), (2, .int (nI (ch (i)))), (0, .ref (ad 248))]) dX4_errorPlace_63 rfl (nI_inc _) (by decide) rfl ?_
            refine r_goto (tgt := 9) dX4_errorPlace_66 (by decide) ?_
            refine r_lv (lv' := [(1, .int (nI (i + 1))), (0, .ref (ad 248))]) (by simp) ?_
            have e : eP ch ln (N + 1) i s = eP ch ln N (i + 1) (accN s (ch i)).2 := eP_c.trans ((if_pos (by omega)).trans ((if_neg (fun z => bne_of (by assumption) z.2)).trans (if_pos (by assumption))))
            rw [e]
            exact fR.mono (ih (i + 1) _ M1 pl (by omega) (by omega) hI1 hp1 hT1) (fun o M' h => ⟨h.1, h.2.1, h.2.2.1, ho1.trans h.2.2.2⟩)
          · skip
            refine r_iload_n dX4_errorPlace_61 rfl ?_
            have e : eP ch ln (N + 1) i s = (i, (accN s (ch i)).2) := eP_c.trans ((if_pos (by omega)).trans ((if_neg (fun z => bne_of (by assumption) z.2)).trans (if_neg (bne_of (by assumption)))))
            rw [e]
            exact fR_iret dX4_errorPlace_62 rfl ⟨rfl, hp1, hI1.mono (by omega), ho1⟩
        · skip
          refine r_aload_n dX4_errorPlace_40 rfl ?_
          refine r_get (k := 1) dX4_errorPlace_41 hT.1 rfl rfl (by decide) kX4_18F ?_
          obtain ⟨x0, x2, x3, jq, fq, hjq, hpq, hfq⟩ := hp.raw hI
          refine r_callVP (As := []) dX4_errorPlace_44 (tX5_clear hA hpq hfq) rfl hpq rfl rfl oX5_clear rfl kX4_26M nX5_clear eX5_clear (by unfold fRoom; decide) (Nat.le_of_ble_eq_true rfl) rfl (bc' := 0) (bs' := 0) rfl rfl (fun E M9 h => by cases h.1) (fun v M1 hq => ?_)
          obtain ⟨hv1, hp1, ho1⟩ := hq
          cases hv1
          have hT1 := hT.off hA ho1
          show fR _ _ _ 47 _ _ _ _ _ _
          refine r_goto (tgt := 63) dX4_errorPlace_47 (by decide) ?_
          refine r_iinc (v := (nI (i + 1))) (lv' := [(1, .int (nI (i + 1))), (2, .int (nI (ch (i)))), (0, .ref (ad 248))]) dX4_errorPlace_63 rfl (nI_inc _) (by decide) rfl ?_
          refine r_goto (tgt := 9) dX4_errorPlace_66 (by decide) ?_
          refine r_lv (lv' := [(1, .int (nI (i + 1))), (0, .ref (ad 248))]) (by simp) ?_
          have e : eP ch ln (N + 1) i s = eP ch ln N (i + 1) clrS := eP_c.trans ((if_pos (by omega)).trans (if_pos ⟨by omega, by assumption⟩))
          rw [e]
          exact fR.mono (ih (i + 1) _ M1 pl (by omega) (by omega) (MI_clr.mono (by omega)) hp1 hT1) (fun o M' h => ⟨h.1, h.2.1, h.2.2.1, ho1.trans h.2.2.2⟩)
theorem tX4_errorPlace {l : Launch} {κ : KP} {M : Mem} {ad : Nat → Nat} {fc : Nat → Int32} {ln : Nat} {ch : Nat → Nat} (hA : aInj ad) (hl : ln ≤ 60) (hcv : ∀ i, i < ln → fc i = nI (ch i)) (h126 : ∀ i, ch i ≤ 126) {pl : Int32} {x0 x2 x3 : Int32} {jq : Nat} {fq : Nat → Int32} (hpq : M (ad 250) = some (.inl (5, [.int x0, .ref (kK κ jq), .int x2, .int x3, .ref (ad 251)]))) (hfq : M (ad 251) = some (.inr (0, 6, .inl fq))) (hT : TxAt ad M fc ln pl) : fM l κ mX4_errorPlace [.ref (ad 248)] M (ePost κ ad M (eP ch ln 61 0 clrS)) := by
  refine fM_of rfl (by decide +kernel) (Nat.le_of_ble_eq_true rfl) ?_
  show fR l κ mX4_errorPlace 0 [(0, .ref (ad 248))] [] M 0 0 _
  refine r_aload_n dX4_errorPlace_0 rfl ?_
  refine r_get (k := 1) dX4_errorPlace_1 hT.1 rfl rfl (by decide) kX4_18F ?_
  refine r_callVP (As := []) dX4_errorPlace_4 (tX5_clear hA hpq hfq) rfl hpq rfl rfl oX5_clear rfl kX4_26M nX5_clear eX5_clear (by unfold fRoom; decide) (Nat.le_of_ble_eq_true rfl) rfl (bc' := 0) (bs' := 0) rfl rfl (fun E M9 h => by cases h.1) (fun v M1 hq => ?_)
  obtain ⟨hv1, hp1, ho1⟩ := hq
  cases hv1
  have hT1 := hT.off hA ho1
  show fR _ _ _ 7 _ _ _ _ _ _
  refine r_iconst (v := nI 0) dX4_errorPlace_7 (by decide) ?_
  refine r_istore_n (lv' := [(1, .int (nI (0))), (0, .ref (ad 248))]) dX4_errorPlace_8 (by decide) rfl ?_
  exact fR.mono (lX4_errorPlace hA hl hcv h126 61 0 clrS M1 pl (by omega) (by omega) MI_clr hp1 hT1) (fun o M' h => ⟨h.1, h.2.1, h.2.2.1, ho1.trans h.2.2.2⟩)
theorem eP_le {ch : Nat → Nat} {ln : Nat} : ∀ (N i : Nat) (s : MS), i ≤ ln → (eP ch ln N i s).1 ≤ ln
  | 0, i, s, h => h
  | N + 1, i, s, h => by
    rw [eP_c]
    split
    · split
      · exact eP_le N _ _ (by omega)
      · split
        · exact eP_le N _ _ (by omega)
        · exact h
    · exact h
theorem tX4_isComplete {l : Launch} {κ : KP} {M : Mem} {ad : Nat → Nat} {fc : Nat → Int32} {ln : Nat} {ch : Nat → Nat} (hA : aInj ad) (hl : ln ≤ 60) (hcv : ∀ i, i < ln → fc i = nI (ch i)) (h126 : ∀ i, ch i ≤ 126) {pl : Int32} {x0 x2 x3 : Int32} {jq : Nat} {fq : Nat → Int32} (hpq : M (ad 250) = some (.inl (5, [.int x0, .ref (kK κ jq), .int x2, .int x3, .ref (ad 251)]))) (hfq : M (ad 251) = some (.inr (0, 6, .inl fq))) (hT : TxAt ad M fc ln pl) : fM l κ mX4_isComplete [.ref (ad 248)] M ((fun o M' => o = .inl (some (.int (bI (decide ((eP ch ln 61 0 clrS).1 = ln ∧ cmpN (eP ch ln 61 0 clrS).2 = true))))) ∧ TxAt ad M' fc ln (nI 0) ∧ PtAt κ ad M' (eP ch ln 61 0 clrS).2 ∧ MI (eP ch ln 61 0 clrS).2 60 ∧ ∀ b, b ≠ ad 248 → b ≠ ad 250 → b ≠ ad 251 → M' b = M b)) := by
  refine fM_of rfl (by decide +kernel) (Nat.le_of_ble_eq_true rfl) ?_
  show fR l κ mX4_isComplete 0 [(0, .ref (ad 248))] [] M 0 0 _
  refine r_aload_n dX4_isComplete_0 rfl ?_
  have he := eP_le (ch := ch) (ln := ln) 61 0 clrS (Nat.zero_le _)
  refine r_callVP (As := []) dX4_isComplete_1 (tX4_errorPlace hA hl hcv h126 hpq hfq hT) rfl hT.1 rfl rfl oX4_errorPlace rfl kX4_37M nX4_errorPlace eX4_errorPlace (by unfold fRoom; decide) (Nat.le_of_ble_eq_true rfl) rfl (bc' := 0) (bs' := 0) rfl rfl (fun E M9 h => by cases h.1) (fun v M1 hq => ?_)
  obtain ⟨hv1, hp1, hI1, ho1⟩ := hq
  cases hv1
  have hT1 := hT.off hA ho1
  show fR _ _ _ 4 _ (.int (nI ((eP ch ln 61 0 clrS).1)) :: _) _ _ _ _
  refine r_aload_n dX4_isComplete_4 rfl ?_
  refine r_get (k := 2) dX4_isComplete_5 hT1.1 rfl rfl (by decide) kX4_22F ?_
  refine r_icmp_neN (tgt := 25) dX4_isComplete_8 (by decide) (by omega) (by omega) (fun c1 => ?_) (fun c1 => ?_)
  · skip
    refine r_iconst (v := nI 0) dX4_isComplete_25 (by decide) ?_
    refine r_istore_n (lv' := [(1, .int (nI (0))), (0, .ref (ad 248))]) dX4_isComplete_26 (by decide) rfl ?_
    refine r_aload_n dX4_isComplete_27 rfl ?_
    refine r_iconst (v := nI 0) dX4_isComplete_28 (by decide) ?_
    refine r_put (k := 3) (fs' := [.ref (ad 249), .ref (ad 250), .int (nI (ln)), .int (nI (0))]) dX4_isComplete_29 hT1.1 rfl (by decide) kX4_41F rfl rfl rfl (Nat.le_of_ble_eq_true rfl) rfl ?_
    refine r_iload_n dX4_isComplete_32 rfl ?_
    exact fR_zret dX4_isComplete_33 rfl rfl ⟨congrArg (fun z => Sum.inl (some (Value.int z))) (bJ_f (decide_eq_false (fun z => by omega))), ⟨fup_eq, (fup_ne (hA.ne (by omega) (by omega) (by omega))).trans hT1.2⟩, hp1.eq (fup_ne (hA.ne (by omega) (by omega) (by omega))) (fup_ne (hA.ne (by omega) (by omega) (by omega))), hI1, fun b a0 a1 a2 => (fup_ne a0).trans (ho1 b a1 a2)⟩
  · skip
    refine r_aload_n dX4_isComplete_11 rfl ?_
    refine r_get (k := 1) dX4_isComplete_12 hT1.1 rfl rfl (by decide) kX4_18F ?_
    obtain ⟨x0, x2, x3, jq, fq, hjq, hpq, hfq⟩ := hp1.raw hI1
    refine r_callV (As := []) dX4_isComplete_15 (tX5_cmp hA hp1 hI1) rfl hpq rfl rfl oX5_isComplete rfl kX4_29M nX5_isComplete eX5_isComplete (by unfold fRoom; decide) (Nat.le_of_ble_eq_true rfl) rfl (bc' := 0) (bs' := 0) rfl rfl ?_
    show fR _ _ _ 18 _ (.int (bI (cmpN (eP ch ln 61 0 clrS).2)) :: _) _ _ _ _
    refine r_if_eqB (tgt := 25) dX4_isComplete_18 (by decide) (fun c2 => ?_) (fun c2 => ?_)
    · skip
      refine r_iconst (v := nI 0) dX4_isComplete_25 (by decide) ?_
      refine r_istore_n (lv' := [(1, .int (nI (0))), (0, .ref (ad 248))]) dX4_isComplete_26 (by decide) rfl ?_
      refine r_aload_n dX4_isComplete_27 rfl ?_
      refine r_iconst (v := nI 0) dX4_isComplete_28 (by decide) ?_
      refine r_put (k := 3) (fs' := [.ref (ad 249), .ref (ad 250), .int (nI (ln)), .int (nI (0))]) dX4_isComplete_29 hT1.1 rfl (by decide) kX4_41F rfl rfl rfl (Nat.le_of_ble_eq_true rfl) rfl ?_
      refine r_iload_n dX4_isComplete_32 rfl ?_
      exact fR_zret dX4_isComplete_33 rfl rfl ⟨congrArg (fun z => Sum.inl (some (Value.int z))) (bJ_f (decide_eq_false (fun z => bne_of (by assumption) z.2))), ⟨fup_eq, (fup_ne (hA.ne (by omega) (by omega) (by omega))).trans hT1.2⟩, hp1.eq (fup_ne (hA.ne (by omega) (by omega) (by omega))) (fup_ne (hA.ne (by omega) (by omega) (by omega))), hI1, fun b a0 a1 a2 => (fup_ne a0).trans (ho1 b a1 a2)⟩
    · skip
      refine r_iconst (v := nI 1) dX4_isComplete_21 (by decide) ?_
      refine r_goto (tgt := 26) dX4_isComplete_22 (by decide) ?_
      refine r_istore_n (lv' := [(1, .int (nI (1))), (0, .ref (ad 248))]) dX4_isComplete_26 (by decide) rfl ?_
      refine r_aload_n dX4_isComplete_27 rfl ?_
      refine r_iconst (v := nI 0) dX4_isComplete_28 (by decide) ?_
      refine r_put (k := 3) (fs' := [.ref (ad 249), .ref (ad 250), .int (nI (ln)), .int (nI (0))]) dX4_isComplete_29 hT1.1 rfl (by decide) kX4_41F rfl rfl rfl (Nat.le_of_ble_eq_true rfl) rfl ?_
      refine r_iload_n dX4_isComplete_32 rfl ?_
      exact fR_zret dX4_isComplete_33 rfl rfl ⟨congrArg (fun z => Sum.inl (some (Value.int z))) (bJ_t (decide_eq_true ⟨by omega, by assumption⟩)), ⟨fup_eq, (fup_ne (hA.ne (by omega) (by omega) (by omega))).trans hT1.2⟩, hp1.eq (fup_ne (hA.ne (by omega) (by omega) (by omega))) (fup_ne (hA.ne (by omega) (by omega) (by omega))), hI1, fun b a0 a1 a2 => (fup_ne a0).trans (ho1 b a1 a2)⟩
theorem lX4_nextPart {l : Launch} {κ : KP} {ad : Nat → Nat} {fc : Nat → Int32} {ln : Nat} {ch : Nat → Nat} (hA : aInj ad) (hl : ln ≤ 60) (hcv : ∀ i, i < ln → fc i = nI (ch i)) (h126 : ∀ i, ch i ≤ 126) : ∀ (N i : Nat) (s : MS) (M : Mem) (pl : Int32), ln < N + i → i ≤ ln → MI s i → PtAt κ ad M s → TxAt ad M fc ln pl → fR l κ mX4_nextPart 25 [(1, .int (nI (i))), (0, .ref (ad 248))] [] M 0 0 ((fun o M' => o = .inl (some (.int (bI true))) ∧ TxAt ad M' fc ln (nI ((nP ch ln N i s).1 + 1)) ∧ PtAt κ ad M' (nP ch ln N i s).2 ∧ MI (nP ch ln N i s).2 60 ∧ ∀ b, b ≠ ad 248 → b ≠ ad 250 → b ≠ ad 251 → M' b = M b)) := by
  intro N
  induction N with
  | zero => intro i s M pl h1 h2; omega
  | succ N ih =>
    intro i s M pl h1 h2 hI hp hT
    have h9 := h126 i
    refine r_iload_n dX4_nextPart_25 rfl ?_
    refine r_aload_n dX4_nextPart_26 rfl ?_
    refine r_get (k := 2) dX4_nextPart_27 hT.1 rfl rfl (by decide) kX4_22F ?_
    refine r_icmp_geN (tgt := 64) dX4_nextPart_30 (by decide) (by omega) (by omega) (fun c1 => ?_) (fun c1 => ?_)
    · skip
      refine r_aload_n dX4_nextPart_64 rfl ?_
      refine r_iload_n dX4_nextPart_65 rfl ?_
      refine r_iconst (v := nI 1) dX4_nextPart_66 (by decide) ?_
      refine r_iaddN dX4_nextPart_67 ?_
      refine r_put (k := 3) (fs' := [.ref (ad 249), .ref (ad 250), .int (nI (ln)), .int (nI ((i + 1)))]) dX4_nextPart_68 hT.1 rfl (by decide) kX4_41F rfl rfl rfl (Nat.le_of_ble_eq_true rfl) rfl ?_
      refine r_iconst (v := nI 1) dX4_nextPart_71 (by decide) ?_
      have e : nP ch ln (N + 1) i s = (i, s) := nP_c.trans (if_neg (fun z => by omega))
      rw [e]
      exact fR_zret dX4_nextPart_72 rfl rfl ⟨rfl, ⟨fup_eq, (fup_ne (hA.ne (by omega) (by omega) (by omega))).trans hT.2⟩, hp.eq (fup_ne (hA.ne (by omega) (by omega) (by omega))) (fup_ne (hA.ne (by omega) (by omega) (by omega))), hI.mono (by omega), fun b a0 a1 a2 => fup_ne a0⟩
    · skip
      refine r_aload_n dX4_nextPart_33 rfl ?_
      refine r_get (k := 0) dX4_nextPart_34 hT.1 rfl rfl (by decide) kX4_9F ?_
      refine r_iload_n dX4_nextPart_37 rfl ?_
      refine r_caldN dX4_nextPart_38 hT.2 (by omega) (by decide) (hcv _ (by omega)) ?_
      refine r_bipush (v := nI 59) dX4_nextPart_39 (by decide) ?_
      refine r_icmp_eqN (tgt := 64) dX4_nextPart_41 (by decide) (by omega) (by omega) (fun c2 => ?_) (fun c2 => ?_)
      · skip
        refine r_aload_n dX4_nextPart_64 rfl ?_
        refine r_iload_n dX4_nextPart_65 rfl ?_
        refine r_iconst (v := nI 1) dX4_nextPart_66 (by decide) ?_
        refine r_iaddN dX4_nextPart_67 ?_
        refine r_put (k := 3) (fs' := [.ref (ad 249), .ref (ad 250), .int (nI (ln)), .int (nI ((i + 1)))]) dX4_nextPart_68 hT.1 rfl (by decide) kX4_41F rfl rfl rfl (Nat.le_of_ble_eq_true rfl) rfl ?_
        refine r_iconst (v := nI 1) dX4_nextPart_71 (by decide) ?_
        have e : nP ch ln (N + 1) i s = (i, s) := nP_c.trans (if_neg (fun z => by omega))
        rw [e]
        exact fR_zret dX4_nextPart_72 rfl rfl ⟨rfl, ⟨fup_eq, (fup_ne (hA.ne (by omega) (by omega) (by omega))).trans hT.2⟩, hp.eq (fup_ne (hA.ne (by omega) (by omega) (by omega))) (fup_ne (hA.ne (by omega) (by omega) (by omega))), hI.mono (by omega), fun b a0 a1 a2 => fup_ne a0⟩
      · skip
        refine r_aload_n dX4_nextPart_44 rfl ?_
        refine r_get (k := 1) dX4_nextPart_45 hT.1 rfl rfl (by decide) kX4_18F ?_
        refine r_aload_n dX4_nextPart_48 rfl ?_
        refine r_get (k := 0) dX4_nextPart_49 hT.1 rfl rfl (by decide) kX4_9F ?_
        refine r_iload_n dX4_nextPart_52 rfl ?_
        refine r_caldN dX4_nextPart_53 hT.2 (by omega) (by decide) (hcv _ (by omega)) ?_
        obtain ⟨x0, x2, x3, jq, fq, hjq, hpq, hfq⟩ := hp.raw hI
        refine r_callVP (As := [.int (nI (ch (i)))]) dX4_nextPart_54 (tX5_accept hA hp (hI.mono (by omega)) (c := ch i) (by have := h126 i; omega)) rfl hpq rfl rfl oX5_accept rfl kX4_33M nX5_accept eX5_accept (by unfold fRoom; decide) (Nat.le_of_ble_eq_true rfl) rfl (bc' := 0) (bs' := 0) rfl rfl (fun E M9 h => by cases h.1) (fun v M1 hq => ?_)
        obtain ⟨hv1, hp1, ho1⟩ := hq
        cases hv1
        have hT1 := hT.off hA ho1
        have hI1 := MI_acc hI (show ch i < 128 by have := h126 i; omega)
        show fR _ _ _ 57 _ (.int (bI ((accN s (ch i)).1)) :: _) _ _ _ _
        refine r_pop dX4_nextPart_57 rfl ?_
        refine r_iinc (v := (nI (i + 1))) (lv' := [(1, .int (nI (i + 1))), (0, .ref (ad 248))]) dX4_nextPart_58 rfl (nI_inc _) (by decide) rfl ?_
        refine r_goto (tgt := 25) dX4_nextPart_61 (by decide) ?_
        have e : nP ch ln (N + 1) i s = nP ch ln N (i + 1) (accN s (ch i)).2 := nP_c.trans (if_pos ⟨by omega, by omega⟩)
        rw [e]
        exact fR.mono (ih (i + 1) _ M1 pl (by omega) (by omega) hI1 hp1 hT1) (fun o M' h => ⟨h.1, h.2.1, h.2.2.1, h.2.2.2.1, fun b a0 a1 a2 => (h.2.2.2.2 b a0 a1 a2).trans (ho1 b a1 a2)⟩)
theorem tX4_nextPart_1 {l : Launch} {κ : KP} {M : Mem} {ad : Nat → Nat} {fc : Nat → Int32} {ln : Nat} {ch : Nat → Nat} (hA : aInj ad) (hl : ln ≤ 60) (hcv : ∀ i, i < ln → fc i = nI (ch i)) (h126 : ∀ i, ch i ≤ 126) {p : Nat} {x0 x2 x3 : Int32} {jq : Nat} {fq : Nat → Int32} (hpq : M (ad 250) = some (.inl (5, [.int x0, .ref (kK κ jq), .int x2, .int x3, .ref (ad 251)]))) (hfq : M (ad 251) = some (.inr (0, 6, .inl fq))) (hT : TxAt ad M fc ln (nI p)) (hpn : p < 100) (hlt : p < ln) : fM l κ mX4_nextPart [.ref (ad 248)] M ((fun o M' => o = .inl (some (.int (bI true))) ∧ TxAt ad M' fc ln (nI ((nP ch ln 61 p clrS).1 + 1)) ∧ PtAt κ ad M' (nP ch ln 61 p clrS).2 ∧ MI (nP ch ln 61 p clrS).2 60 ∧ ∀ b, b ≠ ad 248 → b ≠ ad 250 → b ≠ ad 251 → M' b = M b)) := by
  refine fM_of rfl (by decide +kernel) (Nat.le_of_ble_eq_true rfl) ?_
  show fR l κ mX4_nextPart 0 [(0, .ref (ad 248))] [] M 0 0 _
  refine r_aload_n dX4_nextPart_0 rfl ?_
  refine r_get (k := 3) dX4_nextPart_1 hT.1 rfl rfl (by decide) kX4_41F ?_
  refine r_aload_n dX4_nextPart_4 rfl ?_
  refine r_get (k := 2) dX4_nextPart_5 hT.1 rfl rfl (by decide) kX4_22F ?_
  refine r_icmp_ltN (tgt := 13) dX4_nextPart_8 (by decide) (by omega) (by omega) (fun c1 => ?_) (fun c1 => ?_)
  · skip
    refine r_aload_n dX4_nextPart_13 rfl ?_
    refine r_get (k := 1) dX4_nextPart_14 hT.1 rfl rfl (by decide) kX4_18F ?_
    refine r_callVP (As := []) dX4_nextPart_17 (tX5_clear hA hpq hfq) rfl hpq rfl rfl oX5_clear rfl kX4_26M nX5_clear eX5_clear (by unfold fRoom; decide) (Nat.le_of_ble_eq_true rfl) rfl (bc' := 0) (bs' := 0) rfl rfl (fun E M9 h => by cases h.1) (fun v M1 hq => ?_)
    obtain ⟨hv1, hp1, ho1⟩ := hq
    cases hv1
    have hT1 := hT.off hA ho1
    show fR _ _ _ 20 _ _ _ _ _ _
    refine r_aload_n dX4_nextPart_20 rfl ?_
    refine r_get (k := 3) dX4_nextPart_21 hT1.1 rfl rfl (by decide) kX4_41F ?_
    refine r_istore_n (lv' := [(1, .int (nI (p))), (0, .ref (ad 248))]) dX4_nextPart_24 (by decide) rfl ?_
    exact fR.mono (lX4_nextPart hA hl hcv h126 61 p clrS M1 (nI p) (by omega) (by omega) (MI_clr.mono (by omega)) hp1 hT1) (fun o M' h => ⟨h.1, h.2.1, h.2.2.1, h.2.2.2.1, fun b a0 a1 a2 => (h.2.2.2.2 b a0 a1 a2).trans (ho1 b a1 a2)⟩)
  · skip
    exact absurd hlt (by omega)
theorem tX4_nextPart_0 {l : Launch} {κ : KP} {M : Mem} {ad : Nat → Nat} {fc : Nat → Int32} {ln : Nat} {ch : Nat → Nat} (hA : aInj ad) (hl : ln ≤ 60) (hcv : ∀ i, i < ln → fc i = nI (ch i)) (h126 : ∀ i, ch i ≤ 126) {p : Nat} {x0 x2 x3 : Int32} {jq : Nat} {fq : Nat → Int32} (hpq : M (ad 250) = some (.inl (5, [.int x0, .ref (kK κ jq), .int x2, .int x3, .ref (ad 251)]))) (hfq : M (ad 251) = some (.inr (0, 6, .inl fq))) (hT : TxAt ad M fc ln (nI p)) (hpn : p < 100) (hlt : ¬ p < ln) : fM l κ mX4_nextPart [.ref (ad 248)] M (isI (bI false) M) := by
  refine fM_of rfl (by decide +kernel) (Nat.le_of_ble_eq_true rfl) ?_
  show fR l κ mX4_nextPart 0 [(0, .ref (ad 248))] [] M 0 0 _
  refine r_aload_n dX4_nextPart_0 rfl ?_
  refine r_get (k := 3) dX4_nextPart_1 hT.1 rfl rfl (by decide) kX4_41F ?_
  refine r_aload_n dX4_nextPart_4 rfl ?_
  refine r_get (k := 2) dX4_nextPart_5 hT.1 rfl rfl (by decide) kX4_22F ?_
  refine r_icmp_ltN (tgt := 13) dX4_nextPart_8 (by decide) (by omega) (by omega) (fun c1 => ?_) (fun c1 => ?_)
  · skip
    exact absurd (by assumption) hlt
  · skip
    refine r_iconst (v := nI 0) dX4_nextPart_11 (by decide) ?_
    exact fR_zret dX4_nextPart_12 rfl rfl (isI_of (by rfl))
