/-! THE LAW'S METHODS: contracts -/
theorem ClsAt.frame {κ : KP} {ad : Nat → Nat} {M M1 : Mem} {z : Zs} {dn n : Nat} (h : ClsAt κ ad M z dn n) (hM : ∀ t, t < 256 → M1 (ad t) = M (ad t)) : ClsAt κ ad M1 z dn n := by
  obtain ⟨h1, h2, h3, h4, h5⟩ := h
  exact ⟨(hM _ (by omega)).trans h1, h2.frame (fun i hi _ => hM i hi), h3, h4.eq (fun i _ hi => hM i (by omega)), h5⟩
def lPost (κ : KP) (ad : Nat → Nat) (M : Mem) (q : Nat) (O : Oc) : FPost := fun o M' => O.1 ≤ 3 ∧ o = .inl (some (.int (nI O.1))) ∧ (∃ dn' n', ClsAt κ ad M' O.2.2 dn' n') ∧ (∃ f, M' q = some (.inr (2, 1, .inr (.inl f))) ∧ (O.1 = 0 → f 0 = O.2.1.toInt64)) ∧ ∀ b, b ≠ q → (∀ t, t < 256 → b ≠ ad t) → M' b = M b
theorem ex_of1 {t : Nat} {e a : String} (h0 : t ≠ 0) (h : [a][t - 1]? = some e) : t = 1 ∧ e = a := by
  match t, h0, h with
  | 1, _, h => exact ⟨rfl, (Option.some.inj h).symm⟩
  | t + 2, _, h => cases h
theorem ex_of2 {t : Nat} {e a b : String} (h0 : t ≠ 0) (h : [a, b][t - 1]? = some e) : (t = 1 ∧ e = a) ∨ (t = 2 ∧ e = b) := by
  match t, h0, h with
  | 1, _, h => exact Or.inl ⟨rfl, (Option.some.inj h).symm⟩
  | 2, _, h => exact Or.inr ⟨rfl, (Option.some.inj h).symm⟩
  | t + 3, _, h => cases h
theorem ex_of3 {t : Nat} {e a b c : String} (h0 : t ≠ 0) (h : [a, b, c][t - 1]? = some e) : (t = 1 ∧ e = a) ∨ (t = 2 ∧ e = b) ∨ (t = 3 ∧ e = c) := by
  match t, h0, h with
  | 1, _, h => exact Or.inl ⟨rfl, (Option.some.inj h).symm⟩
  | 2, _, h => exact Or.inr (Or.inl ⟨rfl, (Option.some.inj h).symm⟩)
  | 3, _, h => exact Or.inr (Or.inr ⟨rfl, (Option.some.inj h).symm⟩)
  | t + 4, _, h => cases h
theorem lPost_x {κ : KP} {ad : Nat → Nat} {M M1 : Mem} {q : Nat} {O : Oc} {dn n i : Nat} {f : Nat → Int64} {v : Int32} (hC : ClsAt κ ad M1 O.2.2 dn n) (hO : OffC ad M M1) (hq : M q = some (.inr (2, 1, .inr (.inl f)))) (hqa : ∀ t, t < 256 → q ≠ ad t) (h : O.1 = i) (hi : i ≠ 0) (h3 : i ≤ 3) (hv : v = nI i) : lPost κ ad M q O (.inl (some (.int v))) M1 :=
  ⟨by omega, by rw [h, hv], ⟨dn, n, hC⟩, ⟨f, (hO q hqa).trans hq, fun z => absurd (h.symm.trans z) hi⟩, fun b _ hb => hO b hb⟩
theorem lPost_0 {κ : KP} {ad : Nat → Nat} {M M1 : Mem} {q : Nat} {O : Oc} {dn n : Nat} {f : Nat → Int64} (hC : ClsAt κ ad M1 O.2.2 dn n) (hO : OffC ad M M1) (hqa : ∀ t, t < 256 → q ≠ ad t) (h : O.1 = 0) (hf : f 0 = O.2.1.toInt64) : lPost κ ad M q O (.inl (some (.int (nI 0)))) (fup M1 q (.inr (2, 1, .inr (.inl f)))) :=
  ⟨by omega, by rw [h], ⟨dn, n, hC.frame (fun t ht => fup_ne (hqa t ht).symm)⟩, ⟨f, fup_eq, fun _ => hf⟩, fun b h1 hb => (fup_ne h1).trans (hO b hb)⟩
theorem tL_drum {l : Launch} {κ : KP} {M : Mem} {ad : Nat → Nat} {g tx : Nat → Int32} {dn n sn ln : Nat} {kp : Bool} (hA : aInj ad) (hC : ClsAt κ ad M ⟨g, sn, kp, tx, ln⟩ dn n) {p0 : Int32} {q : Nat} {f : Nat → Int64} (hq : M q = some (.inr (2, 1, .inr (.inl f)))) (hqa : ∀ t, t < 256 → q ≠ ad t) : fM l κ mL_drum [.ref (ad 254), .int p0, .ref q] M (lPost κ ad M q (oDrum ⟨g, sn, kp, tx, ln⟩ dn n p0)) := by
  refine fM_ofH rfl (by decide +kernel) (Nat.le_of_ble_eq_true rfl) ?_
  show fR l κ mL_drum 0 [(0, .ref (ad 254)), (1, .int p0), (2, .ref q)] [] M 2 12 _
  refine r_aload_n dL_drum_0 rfl ?_
  refine r_iconst (v := nI 0) dL_drum_1 (by decide) ?_
  refine r_aload_n dL_drum_2 rfl ?_
  refine r_iload_n dL_drum_3 rfl ?_
  refine fR_catchV (As := [.int p0]) dL_drum_4 (tX8_drum hA hC) rfl hC.1 rfl rfl oX8_drum rfl kL_7M nX8_drum eX8_drum (by unfold fRoom; decide) (Nat.le_of_ble_eq_true rfl) (fun v M1 h => ?_) (fun E M1 h => ?_)
  · obtain ⟨⟨dn', n', hC1⟩, hO, ⟨h0, hv⟩ | ⟨-, e, -, hv⟩⟩ := h
    · cases hv
      show fR _ _ _ 7 _ (.int (oDrum ⟨g, sn, kp, tx, ln⟩ dn n p0).2.1 :: .int (nI 0) :: .ref q :: []) _ _ _ _
      refine r_i2l dL_drum_7 ?_
      refine r_last dL_drum_8 ((hO q hqa).trans hq) (vp_in_nI (by omega) (by decide)) ?_
      refine r_goto (tgt := 18) dL_drum_9 (by decide) ?_
      refine r_iconst (v := nI 0) dL_drum_18 (by decide) ?_
      exact fR_iret dL_drum_19 rfl (lPost_0 hC1 hO hqa h0 (by rfl))
    · cases hv
  · obtain ⟨⟨dn', n', hC1⟩, hO, ⟨-, hv⟩ | ⟨h0, e, hl, hv⟩⟩ := h
    · cases hv
    · cases hv
      rcases ex_of2 h0 hl with ⟨ht, rfl⟩ | ⟨ht, rfl⟩
      · refine ⟨12, ⟨[], [⟨0, 9, 15, 15⟩], ⟨0, 9, 12, 13⟩, _, rfl, ?_, by decide, by decide, kL_13C, kN_IllegalArgumentException, rfl⟩, fun q9 => ?_⟩
        · intro z hz; cases hz
        · refine r_astore_n (lv' := (3, .ref q9) :: [(0, .ref (ad 254)), (1, .int p0), (2, .ref q)]) dL_drum_12 (by decide) rfl ?_
          refine r_iconst (v := nI 1) dL_drum_13 (by decide) ?_
          exact fR_iret dL_drum_14 rfl (lPost_x hC1 hO hq hqa ht (by decide) (by decide) rfl)
      · refine ⟨15, ⟨[⟨0, 9, 12, 13⟩], [], ⟨0, 9, 15, 15⟩, _, rfl, ?_, by decide, by decide, kL_15C, kN_IllegalStateException, rfl⟩, fun q9 => ?_⟩
        · intro z hz
          simp only [List.mem_cons, List.not_mem_nil, or_false] at hz
          subst hz
          exact ⟨by decide, _, kL_13C, by decide⟩
        · refine r_astore_n (lv' := (3, .ref q9) :: [(0, .ref (ad 254)), (1, .int p0), (2, .ref q)]) dL_drum_15 (by decide) rfl ?_
          refine r_iconst (v := nI 2) dL_drum_16 (by decide) ?_
          exact fR_iret dL_drum_17 rfl (lPost_x hC1 hO hq hqa ht (by decide) (by decide) rfl)
theorem tL_age {l : Launch} {κ : KP} {M : Mem} {ad : Nat → Nat} {g tx : Nat → Int32} {dn n sn ln : Nat} {kp : Bool} (hA : aInj ad) (hC : ClsAt κ ad M ⟨g, sn, kp, tx, ln⟩ dn n) {p0 : Int32} {q : Nat} {f : Nat → Int64} (hq : M q = some (.inr (2, 1, .inr (.inl f)))) (hqa : ∀ t, t < 256 → q ≠ ad t) : fM l κ mL_age [.ref (ad 254), .int p0, .ref q] M (lPost κ ad M q (oAge ⟨g, sn, kp, tx, ln⟩ dn n p0)) := by
  refine fM_ofH rfl (by decide +kernel) (Nat.le_of_ble_eq_true rfl) ?_
  show fR l κ mL_age 0 [(0, .ref (ad 254)), (1, .int p0), (2, .ref q)] [] M 1 6 _
  refine r_aload_n dL_age_0 rfl ?_
  refine r_iconst (v := nI 0) dL_age_1 (by decide) ?_
  refine r_aload_n dL_age_2 rfl ?_
  refine r_iload_n dL_age_3 rfl ?_
  refine fR_catchV (As := [.int p0]) dL_age_4 (tX8_age hA hC) rfl hC.1 rfl rfl oX8_age rfl kL_17M nX8_age eX8_age (by unfold fRoom; decide) (Nat.le_of_ble_eq_true rfl) (fun v M1 h => ?_) (fun E M1 h => ?_)
  · obtain ⟨⟨dn', n', hC1⟩, hO, ⟨h0, hv⟩ | ⟨-, e, -, hv⟩⟩ := h
    · cases hv
      show fR _ _ _ 7 _ (.int (oAge ⟨g, sn, kp, tx, ln⟩ dn n p0).2.1 :: .int (nI 0) :: .ref q :: []) _ _ _ _
      refine r_i2l dL_age_7 ?_
      refine r_last dL_age_8 ((hO q hqa).trans hq) (vp_in_nI (by omega) (by decide)) ?_
      refine r_goto (tgt := 15) dL_age_9 (by decide) ?_
      refine r_iconst (v := nI 0) dL_age_15 (by decide) ?_
      exact fR_iret dL_age_16 rfl (lPost_0 hC1 hO hqa h0 (by rfl))
    · cases hv
  · obtain ⟨⟨dn', n', hC1⟩, hO, ⟨-, hv⟩ | ⟨h0, e, hl, hv⟩⟩ := h
    · cases hv
    · cases hv
      obtain ⟨ht, rfl⟩ := ex_of1 h0 hl
      refine ⟨12, ⟨[], [], ⟨0, 9, 12, 13⟩, _, rfl, ?_, by decide, by decide, kL_13C, kN_IllegalArgumentException, rfl⟩, fun q9 => ?_⟩
      · intro z hz; cases hz
      · refine r_astore_n (lv' := (3, .ref q9) :: [(0, .ref (ad 254)), (1, .int p0), (2, .ref q)]) dL_age_12 (by decide) rfl ?_
        refine r_iconst (v := nI 1) dL_age_13 (by decide) ?_
        exact fR_iret dL_age_14 rfl (lPost_x hC1 hO hq hqa ht (by decide) (by decide) rfl)
theorem tL_sample {l : Launch} {κ : KP} {M : Mem} {ad : Nat → Nat} {g tx : Nat → Int32} {dn n sn ln : Nat} {kp : Bool} (hA : aInj ad) (hC : ClsAt κ ad M ⟨g, sn, kp, tx, ln⟩ dn n) {p0 : Int32} {q : Nat} {f : Nat → Int64} (hq : M q = some (.inr (2, 1, .inr (.inl f)))) (hqa : ∀ t, t < 256 → q ≠ ad t) : fM l κ mL_sample [.ref (ad 254), .int p0, .ref q] M (lPost κ ad M q (oSample ⟨g, sn, kp, tx, ln⟩ dn n p0)) := by
  refine fM_ofH rfl (by decide +kernel) (Nat.le_of_ble_eq_true rfl) ?_
  show fR l κ mL_sample 0 [(0, .ref (ad 254)), (1, .int p0), (2, .ref q)] [] M 1 6 _
  refine r_aload_n dL_sample_0 rfl ?_
  refine r_iconst (v := nI 0) dL_sample_1 (by decide) ?_
  refine r_aload_n dL_sample_2 rfl ?_
  refine r_iload_n dL_sample_3 rfl ?_
  refine fR_catchV (As := [.int p0]) dL_sample_4 (tX8_sample hA hC) rfl hC.1 rfl rfl oX8_sample rfl kL_20M nX8_sample eX8_sample (by unfold fRoom; decide) (Nat.le_of_ble_eq_true rfl) (fun v M1 h => ?_) (fun E M1 h => ?_)
  · obtain ⟨⟨dn', n', hC1⟩, hO, ⟨h0, hv⟩ | ⟨-, e, -, hv⟩⟩ := h
    · cases hv
      show fR _ _ _ 7 _ (.int (oSample ⟨g, sn, kp, tx, ln⟩ dn n p0).2.1 :: .int (nI 0) :: .ref q :: []) _ _ _ _
      refine r_i2l dL_sample_7 ?_
      refine r_last dL_sample_8 ((hO q hqa).trans hq) (vp_in_nI (by omega) (by decide)) ?_
      refine r_goto (tgt := 18) dL_sample_9 (by decide) ?_
      refine r_iconst (v := nI 0) dL_sample_18 (by decide) ?_
      exact fR_iret dL_sample_19 rfl (lPost_0 hC1 hO hqa h0 (by rfl))
    · cases hv
  · obtain ⟨⟨dn', n', hC1⟩, hO, ⟨-, hv⟩ | ⟨h0, e, hl, hv⟩⟩ := h
    · cases hv
    · cases hv
      rcases ex_of2 h0 hl with ⟨ht, rfl⟩ | ⟨ht, rfl⟩
      · refine ⟨12, ⟨[], [⟨0, 9, 15, 15⟩], ⟨0, 9, 12, 23⟩, _, rfl, ?_, by decide, by decide, kL_23C, kN_IndexOutOfBoundsException, rfl⟩, fun q9 => ?_⟩
        · intro z hz; cases hz
        · refine r_astore_n (lv' := (3, .ref q9) :: [(0, .ref (ad 254)), (1, .int p0), (2, .ref q)]) dL_sample_12 (by decide) rfl ?_
          refine r_iconst (v := nI 1) dL_sample_13 (by decide) ?_
          exact fR_iret dL_sample_14 rfl (lPost_x hC1 hO hq hqa ht (by decide) (by decide) rfl)
      · refine ⟨15, ⟨[⟨0, 9, 12, 23⟩], [], ⟨0, 9, 15, 15⟩, _, rfl, ?_, by decide, by decide, kL_15C, kN_IllegalStateException, rfl⟩, fun q9 => ?_⟩
        · intro z hz
          simp only [List.mem_cons, List.not_mem_nil, or_false] at hz
          subst hz
          exact ⟨by decide, _, kL_23C, by decide⟩
        · refine r_astore_n (lv' := (3, .ref q9) :: [(0, .ref (ad 254)), (1, .int p0), (2, .ref q)]) dL_sample_15 (by decide) rfl ?_
          refine r_iconst (v := nI 2) dL_sample_16 (by decide) ?_
          exact fR_iret dL_sample_17 rfl (lPost_x hC1 hO hq hqa ht (by decide) (by decide) rfl)
theorem tL_toss {l : Launch} {κ : KP} {M : Mem} {ad : Nat → Nat} {g tx : Nat → Int32} {dn n sn ln : Nat} {kp : Bool} (hA : aInj ad) (hC : ClsAt κ ad M ⟨g, sn, kp, tx, ln⟩ dn n) {p0 : Int32} {q : Nat} {f : Nat → Int64} (hq : M q = some (.inr (2, 1, .inr (.inl f)))) (hqa : ∀ t, t < 256 → q ≠ ad t) : fM l κ mL_toss [.ref (ad 254), .int p0, .ref q] M (lPost κ ad M q (oToss ⟨g, sn, kp, tx, ln⟩ dn n p0)) := by
  refine fM_ofH rfl (by decide +kernel) (Nat.le_of_ble_eq_true rfl) ?_
  show fR l κ mL_toss 0 [(0, .ref (ad 254)), (1, .int p0), (2, .ref q)] [] M 1 6 _
  refine r_aload_n dL_toss_0 rfl ?_
  refine r_iconst (v := nI 0) dL_toss_1 (by decide) ?_
  refine r_aload_n dL_toss_2 rfl ?_
  refine r_iload_n dL_toss_3 rfl ?_
  refine fR_catchV (As := [.int p0]) dL_toss_4 (tX8_toss hA hC) rfl hC.1 rfl rfl oX8_toss rfl kL_25M nX8_toss eX8_toss (by unfold fRoom; decide) (Nat.le_of_ble_eq_true rfl) (fun v M1 h => ?_) (fun E M1 h => ?_)
  · obtain ⟨⟨dn', n', hC1⟩, hO, ⟨h0, hv⟩ | ⟨-, e, -, hv⟩⟩ := h
    · cases hv
      show fR _ _ _ 7 _ (.int (oToss ⟨g, sn, kp, tx, ln⟩ dn n p0).2.1 :: .int (nI 0) :: .ref q :: []) _ _ _ _
      refine r_i2l dL_toss_7 ?_
      refine r_last dL_toss_8 ((hO q hqa).trans hq) (vp_in_nI (by omega) (by decide)) ?_
      refine r_goto (tgt := 15) dL_toss_9 (by decide) ?_
      refine r_iconst (v := nI 0) dL_toss_15 (by decide) ?_
      exact fR_iret dL_toss_16 rfl (lPost_0 hC1 hO hqa h0 (by rfl))
    · cases hv
  · obtain ⟨⟨dn', n', hC1⟩, hO, ⟨-, hv⟩ | ⟨h0, e, hl, hv⟩⟩ := h
    · cases hv
    · cases hv
      obtain ⟨ht, rfl⟩ := ex_of1 h0 hl
      refine ⟨12, ⟨[], [], ⟨0, 9, 12, 23⟩, _, rfl, ?_, by decide, by decide, kL_23C, kN_IndexOutOfBoundsException, rfl⟩, fun q9 => ?_⟩
      · intro z hz; cases hz
      · refine r_astore_n (lv' := (3, .ref q9) :: [(0, .ref (ad 254)), (1, .int p0), (2, .ref q)]) dL_toss_12 (by decide) rfl ?_
        refine r_iconst (v := nI 1) dL_toss_13 (by decide) ?_
        exact fR_iret dL_toss_14 rfl (lPost_x hC1 hO hq hqa ht (by decide) (by decide) rfl)
theorem tL_bath {l : Launch} {κ : KP} {M : Mem} {ad : Nat → Nat} {g tx : Nat → Int32} {dn n sn ln : Nat} {kp : Bool} (hA : aInj ad) (hC : ClsAt κ ad M ⟨g, sn, kp, tx, ln⟩ dn n) {p0 : Int32} {p1 : Int32} {q : Nat} {f : Nat → Int64} (hq : M q = some (.inr (2, 1, .inr (.inl f)))) (hqa : ∀ t, t < 256 → q ≠ ad t) : fM l κ mL_bath [.ref (ad 254), .int p0, .int p1, .ref q] M (lPost κ ad M q (oBath ⟨g, sn, kp, tx, ln⟩ dn n p0 p1)) := by
  refine fM_ofH rfl (by decide +kernel) (Nat.le_of_ble_eq_true rfl) ?_
  show fR l κ mL_bath 0 [(0, .ref (ad 254)), (1, .int p0), (2, .int p1), (3, .ref q)] [] M 2 12 _
  refine r_aload_n dL_bath_0 rfl ?_
  refine r_iconst (v := nI 0) dL_bath_1 (by decide) ?_
  refine r_aload_n dL_bath_2 rfl ?_
  refine r_iload_n dL_bath_3 rfl ?_
  refine r_iload_n dL_bath_4 rfl ?_
  refine fR_catchV (As := [.int p0, .int p1]) dL_bath_5 (tX8_bath hA hC) rfl hC.1 rfl rfl oX8_bath rfl kL_28M nX8_bath eX8_bath (by unfold fRoom; decide) (Nat.le_of_ble_eq_true rfl) (fun v M1 h => ?_) (fun E M1 h => ?_)
  · obtain ⟨⟨dn', n', hC1⟩, hO, ⟨h0, hv⟩ | ⟨-, e, -, hv⟩⟩ := h
    · cases hv
      show fR _ _ _ 8 _ (.int (oBath ⟨g, sn, kp, tx, ln⟩ dn n p0 p1).2.1 :: .int (nI 0) :: .ref q :: []) _ _ _ _
      refine r_i2l dL_bath_8 ?_
      refine r_last dL_bath_9 ((hO q hqa).trans hq) (vp_in_nI (by omega) (by decide)) ?_
      refine r_goto (tgt := 21) dL_bath_10 (by decide) ?_
      refine r_iconst (v := nI 0) dL_bath_21 (by decide) ?_
      exact fR_iret dL_bath_22 rfl (lPost_0 hC1 hO hqa h0 (by rfl))
    · cases hv
  · obtain ⟨⟨dn', n', hC1⟩, hO, ⟨-, hv⟩ | ⟨h0, e, hl, hv⟩⟩ := h
    · cases hv
    · cases hv
      rcases ex_of2 h0 hl with ⟨ht, rfl⟩ | ⟨ht, rfl⟩
      · refine ⟨13, ⟨[], [⟨0, 10, 17, 15⟩], ⟨0, 10, 13, 23⟩, _, rfl, ?_, by decide, by decide, kL_23C, kN_IndexOutOfBoundsException, rfl⟩, fun q9 => ?_⟩
        · intro z hz; cases hz
        · refine r_astore (lv' := (4, .ref q9) :: [(0, .ref (ad 254)), (1, .int p0), (2, .int p1), (3, .ref q)]) dL_bath_13 (by decide) rfl ?_
          refine r_iconst (v := nI 1) dL_bath_15 (by decide) ?_
          exact fR_iret dL_bath_16 rfl (lPost_x hC1 hO hq hqa ht (by decide) (by decide) rfl)
      · refine ⟨17, ⟨[⟨0, 10, 13, 23⟩], [], ⟨0, 10, 17, 15⟩, _, rfl, ?_, by decide, by decide, kL_15C, kN_IllegalStateException, rfl⟩, fun q9 => ?_⟩
        · intro z hz
          simp only [List.mem_cons, List.not_mem_nil, or_false] at hz
          subst hz
          exact ⟨by decide, _, kL_23C, by decide⟩
        · refine r_astore (lv' := (4, .ref q9) :: [(0, .ref (ad 254)), (1, .int p0), (2, .int p1), (3, .ref q)]) dL_bath_17 (by decide) rfl ?_
          refine r_iconst (v := nI 2) dL_bath_19 (by decide) ?_
          exact fR_iret dL_bath_20 rfl (lPost_x hC1 hO hq hqa ht (by decide) (by decide) rfl)
theorem tL_warm {l : Launch} {κ : KP} {M : Mem} {ad : Nat → Nat} {g tx : Nat → Int32} {dn n sn ln : Nat} {kp : Bool} (hA : aInj ad) (hC : ClsAt κ ad M ⟨g, sn, kp, tx, ln⟩ dn n) {p0 : Int32} {p1 : Int32} {q : Nat} {f : Nat → Int64} (hq : M q = some (.inr (2, 1, .inr (.inl f)))) (hqa : ∀ t, t < 256 → q ≠ ad t) : fM l κ mL_warm [.ref (ad 254), .int p0, .int p1, .ref q] M (lPost κ ad M q (oWarm ⟨g, sn, kp, tx, ln⟩ dn n p0 p1)) := by
  refine fM_ofH rfl (by decide +kernel) (Nat.le_of_ble_eq_true rfl) ?_
  show fR l κ mL_warm 0 [(0, .ref (ad 254)), (1, .int p0), (2, .int p1), (3, .ref q)] [] M 2 12 _
  refine r_aload_n dL_warm_0 rfl ?_
  refine r_iconst (v := nI 0) dL_warm_1 (by decide) ?_
  refine r_aload_n dL_warm_2 rfl ?_
  refine r_iload_n dL_warm_3 rfl ?_
  refine r_iload_n dL_warm_4 rfl ?_
  refine fR_catchV (As := [.int p0, .int p1]) dL_warm_5 (tX8_warm hA hC) rfl hC.1 rfl rfl oX8_warm rfl kL_32M nX8_warm eX8_warm (by unfold fRoom; decide) (Nat.le_of_ble_eq_true rfl) (fun v M1 h => ?_) (fun E M1 h => ?_)
  · obtain ⟨⟨dn', n', hC1⟩, hO, ⟨h0, hv⟩ | ⟨-, e, -, hv⟩⟩ := h
    · cases hv
      show fR _ _ _ 8 _ (.int (oWarm ⟨g, sn, kp, tx, ln⟩ dn n p0 p1).2.1 :: .int (nI 0) :: .ref q :: []) _ _ _ _
      refine r_i2l dL_warm_8 ?_
      refine r_last dL_warm_9 ((hO q hqa).trans hq) (vp_in_nI (by omega) (by decide)) ?_
      refine r_goto (tgt := 21) dL_warm_10 (by decide) ?_
      refine r_iconst (v := nI 0) dL_warm_21 (by decide) ?_
      exact fR_iret dL_warm_22 rfl (lPost_0 hC1 hO hqa h0 (by rfl))
    · cases hv
  · obtain ⟨⟨dn', n', hC1⟩, hO, ⟨-, hv⟩ | ⟨h0, e, hl, hv⟩⟩ := h
    · cases hv
    · cases hv
      rcases ex_of2 h0 hl with ⟨ht, rfl⟩ | ⟨ht, rfl⟩
      · refine ⟨13, ⟨[], [⟨0, 10, 17, 13⟩], ⟨0, 10, 13, 23⟩, _, rfl, ?_, by decide, by decide, kL_23C, kN_IndexOutOfBoundsException, rfl⟩, fun q9 => ?_⟩
        · intro z hz; cases hz
        · refine r_astore (lv' := (4, .ref q9) :: [(0, .ref (ad 254)), (1, .int p0), (2, .int p1), (3, .ref q)]) dL_warm_13 (by decide) rfl ?_
          refine r_iconst (v := nI 1) dL_warm_15 (by decide) ?_
          exact fR_iret dL_warm_16 rfl (lPost_x hC1 hO hq hqa ht (by decide) (by decide) rfl)
      · refine ⟨17, ⟨[⟨0, 10, 13, 23⟩], [], ⟨0, 10, 17, 13⟩, _, rfl, ?_, by decide, by decide, kL_13C, kN_IllegalArgumentException, rfl⟩, fun q9 => ?_⟩
        · intro z hz
          simp only [List.mem_cons, List.not_mem_nil, or_false] at hz
          subst hz
          exact ⟨by decide, _, kL_23C, by decide⟩
        · refine r_astore (lv' := (4, .ref q9) :: [(0, .ref (ad 254)), (1, .int p0), (2, .int p1), (3, .ref q)]) dL_warm_17 (by decide) rfl ?_
          refine r_iconst (v := nI 2) dL_warm_19 (by decide) ?_
          exact fR_iret dL_warm_20 rfl (lPost_x hC1 hO hq hqa ht (by decide) (by decide) rfl)
theorem tL_pass {l : Launch} {κ : KP} {M : Mem} {ad : Nat → Nat} {g tx : Nat → Int32} {dn n sn ln : Nat} {kp : Bool} (hA : aInj ad) (hC : ClsAt κ ad M ⟨g, sn, kp, tx, ln⟩ dn n) {p0 : Int32} {q : Nat} {f : Nat → Int64} (hq : M q = some (.inr (2, 1, .inr (.inl f)))) (hqa : ∀ t, t < 256 → q ≠ ad t) : fM l κ mL_pass [.ref (ad 254), .int p0, .ref q] M (lPost κ ad M q (oPass ⟨g, sn, kp, tx, ln⟩ dn n p0)) := by
  refine fM_ofH rfl (by decide +kernel) (Nat.le_of_ble_eq_true rfl) ?_
  show fR l κ mL_pass 0 [(0, .ref (ad 254)), (1, .int p0), (2, .ref q)] [] M 1 6 _
  refine r_aload_n dL_pass_0 rfl ?_
  refine r_iconst (v := nI 0) dL_pass_1 (by decide) ?_
  refine r_aload_n dL_pass_2 rfl ?_
  refine r_iload_n dL_pass_3 rfl ?_
  refine fR_catchV (As := [.int p0]) dL_pass_4 (tX8_pass hA hC) rfl hC.1 rfl rfl oX8_pass rfl kL_35M nX8_pass eX8_pass (by unfold fRoom; decide) (Nat.le_of_ble_eq_true rfl) (fun v M1 h => ?_) (fun E M1 h => ?_)
  · obtain ⟨⟨dn', n', hC1⟩, hO, ⟨h0, hv⟩ | ⟨-, e, -, hv⟩⟩ := h
    · cases hv
      show fR _ _ _ 7 _ (.int (oPass ⟨g, sn, kp, tx, ln⟩ dn n p0).2.1 :: .int (nI 0) :: .ref q :: []) _ _ _ _
      refine r_i2l dL_pass_7 ?_
      refine r_last dL_pass_8 ((hO q hqa).trans hq) (vp_in_nI (by omega) (by decide)) ?_
      refine r_goto (tgt := 15) dL_pass_9 (by decide) ?_
      refine r_iconst (v := nI 0) dL_pass_15 (by decide) ?_
      exact fR_iret dL_pass_16 rfl (lPost_0 hC1 hO hqa h0 (by rfl))
    · cases hv
  · obtain ⟨⟨dn', n', hC1⟩, hO, ⟨-, hv⟩ | ⟨h0, e, hl, hv⟩⟩ := h
    · cases hv
    · cases hv
      obtain ⟨ht, rfl⟩ := ex_of1 h0 hl
      refine ⟨12, ⟨[], [], ⟨0, 9, 12, 13⟩, _, rfl, ?_, by decide, by decide, kL_13C, kN_IllegalArgumentException, rfl⟩, fun q9 => ?_⟩
      · intro z hz; cases hz
      · refine r_astore_n (lv' := (3, .ref q9) :: [(0, .ref (ad 254)), (1, .int p0), (2, .ref q)]) dL_pass_12 (by decide) rfl ?_
        refine r_iconst (v := nI 1) dL_pass_13 (by decide) ?_
        exact fR_iret dL_pass_14 rfl (lPost_x hC1 hO hq hqa ht (by decide) (by decide) rfl)
theorem tL_sink {l : Launch} {κ : KP} {M : Mem} {ad : Nat → Nat} {g tx : Nat → Int32} {dn n sn ln : Nat} {kp : Bool} (hA : aInj ad) (hC : ClsAt κ ad M ⟨g, sn, kp, tx, ln⟩ dn n) {p0 : Int32} {p1 : Int32} {p2 : Int32} {p3 : Int32} {q : Nat} {f : Nat → Int64} (hq : M q = some (.inr (2, 1, .inr (.inl f)))) (hqa : ∀ t, t < 256 → q ≠ ad t) : fM l κ mL_sink [.ref (ad 254), .int p0, .int p1, .int p2, .int p3, .ref q] M (lPost κ ad M q (oSink ⟨g, sn, kp, tx, ln⟩ dn n p0 p1 p2 p3)) := by
  refine fM_ofH rfl (by decide +kernel) (Nat.le_of_ble_eq_true rfl) ?_
  show fR l κ mL_sink 0 [(0, .ref (ad 254)), (1, .int p0), (2, .int p1), (3, .int p2), (4, .int p3), (5, .ref q)] [] M 5 30 _
  refine r_aload dL_sink_0 rfl ?_
  refine r_iconst (v := nI 0) dL_sink_2 (by decide) ?_
  refine r_aload_n dL_sink_3 rfl ?_
  refine r_iload_n dL_sink_4 rfl ?_
  refine r_iload_n dL_sink_5 rfl ?_
  refine r_iload_n dL_sink_6 rfl ?_
  refine r_iload dL_sink_7 rfl ?_
  refine fR_catchV (As := [.int p0, .int p1, .int p2, .int p3]) dL_sink_9 (tX8_sink hA hC) rfl hC.1 rfl rfl oX8_sink rfl kL_38M nX8_sink eX8_sink (by unfold fRoom; decide) (Nat.le_of_ble_eq_true rfl) (fun v M1 h => ?_) (fun E M1 h => ?_)
  · obtain ⟨⟨dn', n', hC1⟩, hO, ⟨h0, hv⟩ | ⟨-, e, -, hv⟩⟩ := h
    · cases hv
      show fR _ _ _ 12 _ (.int (oSink ⟨g, sn, kp, tx, ln⟩ dn n p0 p1 p2 p3).2.1 :: .int (nI 0) :: .ref q :: []) _ _ _ _
      refine r_i2l dL_sink_12 ?_
      refine r_last dL_sink_13 ((hO q hqa).trans hq) (vp_in_nI (by omega) (by decide)) ?_
      refine r_goto (tgt := 29) dL_sink_14 (by decide) ?_
      refine r_iconst (v := nI 0) dL_sink_29 (by decide) ?_
      exact fR_iret dL_sink_30 rfl (lPost_0 hC1 hO hqa h0 (by rfl))
    · cases hv
  · obtain ⟨⟨dn', n', hC1⟩, hO, ⟨-, hv⟩ | ⟨h0, e, hl, hv⟩⟩ := h
    · cases hv
    · cases hv
      rcases ex_of3 h0 hl with ⟨ht, rfl⟩ | ⟨ht, rfl⟩ | ⟨ht, rfl⟩
      · refine ⟨17, ⟨[], [⟨0, 14, 21, 13⟩, ⟨0, 14, 25, 15⟩], ⟨0, 14, 17, 23⟩, _, rfl, ?_, by decide, by decide, kL_23C, kN_IndexOutOfBoundsException, rfl⟩, fun q9 => ?_⟩
        · intro z hz; cases hz
        · refine r_astore (lv' := (6, .ref q9) :: [(0, .ref (ad 254)), (1, .int p0), (2, .int p1), (3, .int p2), (4, .int p3), (5, .ref q)]) dL_sink_17 (by decide) rfl ?_
          refine r_iconst (v := nI 1) dL_sink_19 (by decide) ?_
          exact fR_iret dL_sink_20 rfl (lPost_x hC1 hO hq hqa ht (by decide) (by decide) rfl)
      · refine ⟨21, ⟨[⟨0, 14, 17, 23⟩], [⟨0, 14, 25, 15⟩], ⟨0, 14, 21, 13⟩, _, rfl, ?_, by decide, by decide, kL_13C, kN_IllegalArgumentException, rfl⟩, fun q9 => ?_⟩
        · intro z hz
          simp only [List.mem_cons, List.not_mem_nil, or_false] at hz
          subst hz
          exact ⟨by decide, _, kL_23C, by decide⟩
        · refine r_astore (lv' := (6, .ref q9) :: [(0, .ref (ad 254)), (1, .int p0), (2, .int p1), (3, .int p2), (4, .int p3), (5, .ref q)]) dL_sink_21 (by decide) rfl ?_
          refine r_iconst (v := nI 2) dL_sink_23 (by decide) ?_
          exact fR_iret dL_sink_24 rfl (lPost_x hC1 hO hq hqa ht (by decide) (by decide) rfl)
      · refine ⟨25, ⟨[⟨0, 14, 17, 23⟩, ⟨0, 14, 21, 13⟩], [], ⟨0, 14, 25, 15⟩, _, rfl, ?_, by decide, by decide, kL_15C, kN_IllegalStateException, rfl⟩, fun q9 => ?_⟩
        · intro z hz
          simp only [List.mem_cons, List.not_mem_nil, or_false] at hz
          rcases hz with rfl | rfl
          · exact ⟨by decide, _, kL_23C, by decide⟩
          · exact ⟨by decide, _, kL_13C, by decide⟩
        · refine r_astore (lv' := (6, .ref q9) :: [(0, .ref (ad 254)), (1, .int p0), (2, .int p1), (3, .int p2), (4, .int p3), (5, .ref q)]) dL_sink_25 (by decide) rfl ?_
          refine r_iconst (v := nI 3) dL_sink_27 (by decide) ?_
          exact fR_iret dL_sink_28 rfl (lPost_x hC1 hO hq hqa ht (by decide) (by decide) rfl)
theorem tL_renew {l : Launch} {κ : KP} {M : Mem} {ad : Nat → Nat} {g tx : Nat → Int32} {dn n sn ln : Nat} {kp : Bool} (hA : aInj ad) (hC : ClsAt κ ad M ⟨g, sn, kp, tx, ln⟩ dn n) {p0 : Int32} {q : Nat} {f : Nat → Int64} (hq : M q = some (.inr (2, 1, .inr (.inl f)))) (hqa : ∀ t, t < 256 → q ≠ ad t) : fM l κ mL_renew [.ref (ad 254), .int p0, .ref q] M (lPost κ ad M q (oRenew ⟨g, sn, kp, tx, ln⟩ dn n p0)) := by
  refine fM_ofH rfl (by decide +kernel) (Nat.le_of_ble_eq_true rfl) ?_
  show fR l κ mL_renew 0 [(0, .ref (ad 254)), (1, .int p0), (2, .ref q)] [] M 1 6 _
  refine r_aload_n dL_renew_0 rfl ?_
  refine r_iconst (v := nI 0) dL_renew_1 (by decide) ?_
  refine r_aload_n dL_renew_2 rfl ?_
  refine r_iload_n dL_renew_3 rfl ?_
  refine fR_catchV (As := [.int p0]) dL_renew_4 (tX8_renew hA hC) rfl hC.1 rfl rfl oX8_renew rfl kL_42M nX8_renew eX8_renew (by unfold fRoom; decide) (Nat.le_of_ble_eq_true rfl) (fun v M1 h => ?_) (fun E M1 h => ?_)
  · obtain ⟨⟨dn', n', hC1⟩, hO, ⟨h0, hv⟩ | ⟨-, e, -, hv⟩⟩ := h
    · cases hv
      show fR _ _ _ 7 _ (.int (oRenew ⟨g, sn, kp, tx, ln⟩ dn n p0).2.1 :: .int (nI 0) :: .ref q :: []) _ _ _ _
      refine r_i2l dL_renew_7 ?_
      refine r_last dL_renew_8 ((hO q hqa).trans hq) (vp_in_nI (by omega) (by decide)) ?_
      refine r_goto (tgt := 15) dL_renew_9 (by decide) ?_
      refine r_iconst (v := nI 0) dL_renew_15 (by decide) ?_
      exact fR_iret dL_renew_16 rfl (lPost_0 hC1 hO hqa h0 (by rfl))
    · cases hv
  · obtain ⟨⟨dn', n', hC1⟩, hO, ⟨-, hv⟩ | ⟨h0, e, hl, hv⟩⟩ := h
    · cases hv
    · cases hv
      obtain ⟨ht, rfl⟩ := ex_of1 h0 hl
      refine ⟨12, ⟨[], [], ⟨0, 9, 12, 23⟩, _, rfl, ?_, by decide, by decide, kL_23C, kN_IndexOutOfBoundsException, rfl⟩, fun q9 => ?_⟩
      · intro z hz; cases hz
      · refine r_astore_n (lv' := (3, .ref q9) :: [(0, .ref (ad 254)), (1, .int p0), (2, .ref q)]) dL_renew_12 (by decide) rfl ?_
        refine r_iconst (v := nI 1) dL_renew_13 (by decide) ?_
        exact fR_iret dL_renew_14 rfl (lPost_x hC1 hO hq hqa ht (by decide) (by decide) rfl)
theorem tL_ring {l : Launch} {κ : KP} {M : Mem} {ad : Nat → Nat} {g tx : Nat → Int32} {dn n sn ln : Nat} {kp : Bool} (hA : aInj ad) (hC : ClsAt κ ad M ⟨g, sn, kp, tx, ln⟩ dn n) {p0 : Int32} {q : Nat} {f : Nat → Int64} (hq : M q = some (.inr (2, 1, .inr (.inl f)))) (hqa : ∀ t, t < 256 → q ≠ ad t) : fM l κ mL_ring [.ref (ad 254), .int p0, .ref q] M (lPost κ ad M q (oRing ⟨g, sn, kp, tx, ln⟩ dn n p0)) := by
  refine fM_ofH rfl (by decide +kernel) (Nat.le_of_ble_eq_true rfl) ?_
  show fR l κ mL_ring 0 [(0, .ref (ad 254)), (1, .int p0), (2, .ref q)] [] M 1 6 _
  refine r_aload_n dL_ring_0 rfl ?_
  refine r_iconst (v := nI 0) dL_ring_1 (by decide) ?_
  refine r_aload_n dL_ring_2 rfl ?_
  refine r_iload_n dL_ring_3 rfl ?_
  refine fR_catchV (As := [.int p0]) dL_ring_4 (tX8_ring hA hC) rfl hC.1 rfl rfl oX8_ring rfl kL_45M nX8_ring eX8_ring (by unfold fRoom; decide) (Nat.le_of_ble_eq_true rfl) (fun v M1 h => ?_) (fun E M1 h => ?_)
  · obtain ⟨⟨dn', n', hC1⟩, hO, ⟨h0, hv⟩ | ⟨-, e, -, hv⟩⟩ := h
    · cases hv
      show fR _ _ _ 7 _ (.int (oRing ⟨g, sn, kp, tx, ln⟩ dn n p0).2.1 :: .int (nI 0) :: .ref q :: []) _ _ _ _
      refine r_i2l dL_ring_7 ?_
      refine r_last dL_ring_8 ((hO q hqa).trans hq) (vp_in_nI (by omega) (by decide)) ?_
      refine r_goto (tgt := 18) dL_ring_9 (by decide) ?_
      refine r_iconst (v := nI 0) dL_ring_18 (by decide) ?_
      exact fR_iret dL_ring_19 rfl (lPost_0 hC1 hO hqa h0 (by rfl))
    · cases hv
  · obtain ⟨⟨dn', n', hC1⟩, hO, ⟨-, hv⟩ | ⟨h0, e, hl, hv⟩⟩ := h
    · cases hv
    · cases hv
      rcases ex_of2 h0 hl with ⟨ht, rfl⟩ | ⟨ht, rfl⟩
      · refine ⟨12, ⟨[], [⟨0, 9, 15, 15⟩], ⟨0, 9, 12, 23⟩, _, rfl, ?_, by decide, by decide, kL_23C, kN_IndexOutOfBoundsException, rfl⟩, fun q9 => ?_⟩
        · intro z hz; cases hz
        · refine r_astore_n (lv' := (3, .ref q9) :: [(0, .ref (ad 254)), (1, .int p0), (2, .ref q)]) dL_ring_12 (by decide) rfl ?_
          refine r_iconst (v := nI 1) dL_ring_13 (by decide) ?_
          exact fR_iret dL_ring_14 rfl (lPost_x hC1 hO hq hqa ht (by decide) (by decide) rfl)
      · refine ⟨15, ⟨[⟨0, 9, 12, 23⟩], [], ⟨0, 9, 15, 15⟩, _, rfl, ?_, by decide, by decide, kL_15C, kN_IllegalStateException, rfl⟩, fun q9 => ?_⟩
        · intro z hz
          simp only [List.mem_cons, List.not_mem_nil, or_false] at hz
          subst hz
          exact ⟨by decide, _, kL_23C, by decide⟩
        · refine r_astore_n (lv' := (3, .ref q9) :: [(0, .ref (ad 254)), (1, .int p0), (2, .ref q)]) dL_ring_15 (by decide) rfl ?_
          refine r_iconst (v := nI 2) dL_ring_16 (by decide) ?_
          exact fR_iret dL_ring_17 rfl (lPost_x hC1 hO hq hqa ht (by decide) (by decide) rfl)
theorem tL_sell {l : Launch} {κ : KP} {M : Mem} {ad : Nat → Nat} {g tx : Nat → Int32} {dn n sn ln : Nat} {kp : Bool} (hA : aInj ad) (hC : ClsAt κ ad M ⟨g, sn, kp, tx, ln⟩ dn n) {p0 : Int32} {q : Nat} {f : Nat → Int64} (hq : M q = some (.inr (2, 1, .inr (.inl f)))) (hqa : ∀ t, t < 256 → q ≠ ad t) : fM l κ mL_sell [.ref (ad 254), .int p0, .ref q] M (lPost κ ad M q (oSell ⟨g, sn, kp, tx, ln⟩ dn n p0)) := by
  refine fM_ofH rfl (by decide +kernel) (Nat.le_of_ble_eq_true rfl) ?_
  show fR l κ mL_sell 0 [(0, .ref (ad 254)), (1, .int p0), (2, .ref q)] [] M 1 6 _
  refine r_aload_n dL_sell_0 rfl ?_
  refine r_iconst (v := nI 0) dL_sell_1 (by decide) ?_
  refine r_aload_n dL_sell_2 rfl ?_
  refine r_iload_n dL_sell_3 rfl ?_
  refine fR_catchV (As := [.int p0]) dL_sell_4 (tX8_sell hA hC) rfl hC.1 rfl rfl oX8_sell rfl kL_48M nX8_sell eX8_sell (by unfold fRoom; decide) (Nat.le_of_ble_eq_true rfl) (fun v M1 h => ?_) (fun E M1 h => ?_)
  · obtain ⟨⟨dn', n', hC1⟩, hO, ⟨h0, hv⟩ | ⟨-, e, -, hv⟩⟩ := h
    · cases hv
      show fR _ _ _ 7 _ (.int (oSell ⟨g, sn, kp, tx, ln⟩ dn n p0).2.1 :: .int (nI 0) :: .ref q :: []) _ _ _ _
      refine r_i2l dL_sell_7 ?_
      refine r_last dL_sell_8 ((hO q hqa).trans hq) (vp_in_nI (by omega) (by decide)) ?_
      refine r_goto (tgt := 18) dL_sell_9 (by decide) ?_
      refine r_iconst (v := nI 0) dL_sell_18 (by decide) ?_
      exact fR_iret dL_sell_19 rfl (lPost_0 hC1 hO hqa h0 (by rfl))
    · cases hv
  · obtain ⟨⟨dn', n', hC1⟩, hO, ⟨-, hv⟩ | ⟨h0, e, hl, hv⟩⟩ := h
    · cases hv
    · cases hv
      rcases ex_of2 h0 hl with ⟨ht, rfl⟩ | ⟨ht, rfl⟩
      · refine ⟨12, ⟨[], [⟨0, 9, 15, 15⟩], ⟨0, 9, 12, 23⟩, _, rfl, ?_, by decide, by decide, kL_23C, kN_IndexOutOfBoundsException, rfl⟩, fun q9 => ?_⟩
        · intro z hz; cases hz
        · refine r_astore_n (lv' := (3, .ref q9) :: [(0, .ref (ad 254)), (1, .int p0), (2, .ref q)]) dL_sell_12 (by decide) rfl ?_
          refine r_iconst (v := nI 1) dL_sell_13 (by decide) ?_
          exact fR_iret dL_sell_14 rfl (lPost_x hC1 hO hq hqa ht (by decide) (by decide) rfl)
      · refine ⟨15, ⟨[⟨0, 9, 12, 23⟩], [], ⟨0, 9, 15, 15⟩, _, rfl, ?_, by decide, by decide, kL_15C, kN_IllegalStateException, rfl⟩, fun q9 => ?_⟩
        · intro z hz
          simp only [List.mem_cons, List.not_mem_nil, or_false] at hz
          subst hz
          exact ⟨by decide, _, kL_23C, by decide⟩
        · refine r_astore_n (lv' := (3, .ref q9) :: [(0, .ref (ad 254)), (1, .int p0), (2, .ref q)]) dL_sell_15 (by decide) rfl ?_
          refine r_iconst (v := nI 2) dL_sell_16 (by decide) ?_
          exact fR_iret dL_sell_17 rfl (lPost_x hC1 hO hq hqa ht (by decide) (by decide) rfl)
theorem tL_set {l : Launch} {κ : KP} {M : Mem} {ad : Nat → Nat} {g tx : Nat → Int32} {dn n sn ln : Nat} {kp : Bool} (hA : aInj ad) (hC : ClsAt κ ad M ⟨g, sn, kp, tx, ln⟩ dn n) {p0 : Int32} {p1 : Int32} {q : Nat} {f : Nat → Int64} (hq : M q = some (.inr (2, 1, .inr (.inl f)))) (hqa : ∀ t, t < 256 → q ≠ ad t) : fM l κ mL_set [.ref (ad 254), .int p0, .int p1, .ref q] M (lPost κ ad M q (oSet ⟨g, sn, kp, tx, ln⟩ dn n p0 p1)) := by
  refine fM_ofH rfl (by decide +kernel) (Nat.le_of_ble_eq_true rfl) ?_
  show fR l κ mL_set 0 [(0, .ref (ad 254)), (1, .int p0), (2, .int p1), (3, .ref q)] [] M 2 12 _
  refine r_aload_n dL_set_0 rfl ?_
  refine r_iconst (v := nI 0) dL_set_1 (by decide) ?_
  refine r_aload_n dL_set_2 rfl ?_
  refine r_iload_n dL_set_3 rfl ?_
  refine r_iload_n dL_set_4 rfl ?_
  refine fR_catchV (As := [.int p0, .int p1]) dL_set_5 (tX8_set hA hC) rfl hC.1 rfl rfl oX8_set rfl kL_51M nX8_set eX8_set (by unfold fRoom; decide) (Nat.le_of_ble_eq_true rfl) (fun v M1 h => ?_) (fun E M1 h => ?_)
  · obtain ⟨⟨dn', n', hC1⟩, hO, ⟨h0, hv⟩ | ⟨-, e, -, hv⟩⟩ := h
    · cases hv
      show fR _ _ _ 8 _ (.int (oSet ⟨g, sn, kp, tx, ln⟩ dn n p0 p1).2.1 :: .int (nI 0) :: .ref q :: []) _ _ _ _
      refine r_i2l dL_set_8 ?_
      refine r_last dL_set_9 ((hO q hqa).trans hq) (vp_in_nI (by omega) (by decide)) ?_
      refine r_goto (tgt := 21) dL_set_10 (by decide) ?_
      refine r_iconst (v := nI 0) dL_set_21 (by decide) ?_
      exact fR_iret dL_set_22 rfl (lPost_0 hC1 hO hqa h0 (by rfl))
    · cases hv
  · obtain ⟨⟨dn', n', hC1⟩, hO, ⟨-, hv⟩ | ⟨h0, e, hl, hv⟩⟩ := h
    · cases hv
    · cases hv
      rcases ex_of2 h0 hl with ⟨ht, rfl⟩ | ⟨ht, rfl⟩
      · refine ⟨13, ⟨[], [⟨0, 10, 17, 13⟩], ⟨0, 10, 13, 23⟩, _, rfl, ?_, by decide, by decide, kL_23C, kN_IndexOutOfBoundsException, rfl⟩, fun q9 => ?_⟩
        · intro z hz; cases hz
        · refine r_astore (lv' := (4, .ref q9) :: [(0, .ref (ad 254)), (1, .int p0), (2, .int p1), (3, .ref q)]) dL_set_13 (by decide) rfl ?_
          refine r_iconst (v := nI 1) dL_set_15 (by decide) ?_
          exact fR_iret dL_set_16 rfl (lPost_x hC1 hO hq hqa ht (by decide) (by decide) rfl)
      · refine ⟨17, ⟨[⟨0, 10, 13, 23⟩], [], ⟨0, 10, 17, 13⟩, _, rfl, ?_, by decide, by decide, kL_13C, kN_IllegalArgumentException, rfl⟩, fun q9 => ?_⟩
        · intro z hz
          simp only [List.mem_cons, List.not_mem_nil, or_false] at hz
          subst hz
          exact ⟨by decide, _, kL_23C, by decide⟩
        · refine r_astore (lv' := (4, .ref q9) :: [(0, .ref (ad 254)), (1, .int p0), (2, .int p1), (3, .ref q)]) dL_set_17 (by decide) rfl ?_
          refine r_iconst (v := nI 2) dL_set_19 (by decide) ?_
          exact fR_iret dL_set_20 rfl (lPost_x hC1 hO hq hqa ht (by decide) (by decide) rfl)
theorem tL_append {l : Launch} {κ : KP} {M : Mem} {ad : Nat → Nat} {g tx : Nat → Int32} {dn n sn ln : Nat} {kp : Bool} (hA : aInj ad) (hC : ClsAt κ ad M ⟨g, sn, kp, tx, ln⟩ dn n) {p0 : Int32} {q : Nat} {f : Nat → Int64} (hq : M q = some (.inr (2, 1, .inr (.inl f)))) (hqa : ∀ t, t < 256 → q ≠ ad t) : fM l κ mL_append [.ref (ad 254), .int p0, .ref q] M (lPost κ ad M q (oAppend ⟨g, sn, kp, tx, ln⟩ dn n p0)) := by
  refine fM_ofH rfl (by decide +kernel) (Nat.le_of_ble_eq_true rfl) ?_
  show fR l κ mL_append 0 [(0, .ref (ad 254)), (1, .int p0), (2, .ref q)] [] M 2 12 _
  refine r_aload_n dL_append_0 rfl ?_
  refine r_iconst (v := nI 0) dL_append_1 (by decide) ?_
  refine r_aload_n dL_append_2 rfl ?_
  refine r_iload_n dL_append_3 rfl ?_
  refine fR_catchV (As := [.int p0]) dL_append_4 (tX8_append hA hC) rfl hC.1 rfl rfl oX8_append rfl kL_54M nX8_append eX8_append (by unfold fRoom; decide) (Nat.le_of_ble_eq_true rfl) (fun v M1 h => ?_) (fun E M1 h => ?_)
  · obtain ⟨⟨dn', n', hC1⟩, hO, ⟨h0, hv⟩ | ⟨-, e, -, hv⟩⟩ := h
    · cases hv
      show fR _ _ _ 7 _ (.int (oAppend ⟨g, sn, kp, tx, ln⟩ dn n p0).2.1 :: .int (nI 0) :: .ref q :: []) _ _ _ _
      refine r_i2l dL_append_7 ?_
      refine r_last dL_append_8 ((hO q hqa).trans hq) (vp_in_nI (by omega) (by decide)) ?_
      refine r_goto (tgt := 18) dL_append_9 (by decide) ?_
      refine r_iconst (v := nI 0) dL_append_18 (by decide) ?_
      exact fR_iret dL_append_19 rfl (lPost_0 hC1 hO hqa h0 (by rfl))
    · cases hv
  · obtain ⟨⟨dn', n', hC1⟩, hO, ⟨-, hv⟩ | ⟨h0, e, hl, hv⟩⟩ := h
    · cases hv
    · cases hv
      rcases ex_of2 h0 hl with ⟨ht, rfl⟩ | ⟨ht, rfl⟩
      · refine ⟨12, ⟨[], [⟨0, 9, 15, 15⟩], ⟨0, 9, 12, 13⟩, _, rfl, ?_, by decide, by decide, kL_13C, kN_IllegalArgumentException, rfl⟩, fun q9 => ?_⟩
        · intro z hz; cases hz
        · refine r_astore_n (lv' := (3, .ref q9) :: [(0, .ref (ad 254)), (1, .int p0), (2, .ref q)]) dL_append_12 (by decide) rfl ?_
          refine r_iconst (v := nI 1) dL_append_13 (by decide) ?_
          exact fR_iret dL_append_14 rfl (lPost_x hC1 hO hq hqa ht (by decide) (by decide) rfl)
      · refine ⟨15, ⟨[⟨0, 9, 12, 13⟩], [], ⟨0, 9, 15, 15⟩, _, rfl, ?_, by decide, by decide, kL_15C, kN_IllegalStateException, rfl⟩, fun q9 => ?_⟩
        · intro z hz
          simp only [List.mem_cons, List.not_mem_nil, or_false] at hz
          subst hz
          exact ⟨by decide, _, kL_13C, by decide⟩
        · refine r_astore_n (lv' := (3, .ref q9) :: [(0, .ref (ad 254)), (1, .int p0), (2, .ref q)]) dL_append_15 (by decide) rfl ?_
          refine r_iconst (v := nI 2) dL_append_16 (by decide) ?_
          exact fR_iret dL_append_17 rfl (lPost_x hC1 hO hq hqa ht (by decide) (by decide) rfl)
theorem tL_obey {l : Launch} {κ : KP} {M : Mem} {ad : Nat → Nat} {g tx : Nat → Int32} {dn n sn ln : Nat} {kp : Bool} (hA : aInj ad) (hC : ClsAt κ ad M ⟨g, sn, kp, tx, ln⟩ dn n)  {q : Nat} {f : Nat → Int64} (hq : M q = some (.inr (2, 1, .inr (.inl f)))) (hqa : ∀ t, t < 256 → q ≠ ad t) : fM l κ mL_obey [.ref (ad 254), .ref q] M (lPost κ ad M q (oObey ⟨g, sn, kp, tx, ln⟩ dn n)) := by
  refine fM_ofH rfl (by decide +kernel) (Nat.le_of_ble_eq_true rfl) ?_
  show fR l κ mL_obey 0 [(0, .ref (ad 254)), (1, .ref q)] [] M 1 6 _
  refine r_aload_n dL_obey_0 rfl ?_
  refine r_iconst (v := nI 0) dL_obey_1 (by decide) ?_
  refine r_aload_n dL_obey_2 rfl ?_
  refine fR_catchV (As := []) dL_obey_3 (tX8_obey hA hC) rfl hC.1 rfl rfl oX8_obey rfl kL_57M nX8_obey eX8_obey (by unfold fRoom; decide) (Nat.le_of_ble_eq_true rfl) (fun v M1 h => ?_) (fun E M1 h => ?_)
  · obtain ⟨⟨dn', n', hC1⟩, hO, ⟨h0, hv⟩ | ⟨-, e, -, hv⟩⟩ := h
    · cases hv
      show fR _ _ _ 6 _ (.int (oObey ⟨g, sn, kp, tx, ln⟩ dn n).2.1 :: .int (nI 0) :: .ref q :: []) _ _ _ _
      refine r_i2l dL_obey_6 ?_
      refine r_last dL_obey_7 ((hO q hqa).trans hq) (vp_in_nI (by omega) (by decide)) ?_
      refine r_goto (tgt := 14) dL_obey_8 (by decide) ?_
      refine r_iconst (v := nI 0) dL_obey_14 (by decide) ?_
      exact fR_iret dL_obey_15 rfl (lPost_0 hC1 hO hqa h0 (by rfl))
    · cases hv
  · obtain ⟨⟨dn', n', hC1⟩, hO, ⟨-, hv⟩ | ⟨h0, e, hl, hv⟩⟩ := h
    · cases hv
    · cases hv
      obtain ⟨ht, rfl⟩ := ex_of1 h0 hl
      refine ⟨11, ⟨[], [], ⟨0, 8, 11, 13⟩, _, rfl, ?_, by decide, by decide, kL_13C, kN_IllegalArgumentException, rfl⟩, fun q9 => ?_⟩
      · intro z hz; cases hz
      · refine r_astore_n (lv' := (2, .ref q9) :: [(0, .ref (ad 254)), (1, .ref q)]) dL_obey_11 (by decide) rfl ?_
        refine r_iconst (v := nI 1) dL_obey_12 (by decide) ?_
        exact fR_iret dL_obey_13 rfl (lPost_x hC1 hO hq hqa ht (by decide) (by decide) rfl)
theorem tL_stopped {l : Launch} {κ : KP} {M : Mem} {ad : Nat → Nat} {g tx : Nat → Int32} {dn n sn ln : Nat} {kp : Bool} (hA : aInj ad) (hC : ClsAt κ ad M ⟨g, sn, kp, tx, ln⟩ dn n) {p0 : Int32} {q : Nat} {f : Nat → Int64} (hq : M q = some (.inr (2, 1, .inr (.inl f)))) (hqa : ∀ t, t < 256 → q ≠ ad t) : fM l κ mL_stopped [.ref (ad 254), .int p0, .ref q] M (lPost κ ad M q (oStopped ⟨g, sn, kp, tx, ln⟩ dn n p0)) := by
  refine fM_ofH rfl (by decide +kernel) (Nat.le_of_ble_eq_true rfl) ?_
  show fR l κ mL_stopped 0 [(0, .ref (ad 254)), (1, .int p0), (2, .ref q)] [] M 1 6 _
  refine r_aload_n dL_stopped_0 rfl ?_
  refine r_iconst (v := nI 0) dL_stopped_1 (by decide) ?_
  refine r_aload_n dL_stopped_2 rfl ?_
  refine r_iload_n dL_stopped_3 rfl ?_
  refine fR_catchV (As := [.int p0]) dL_stopped_4 (tX8_stopped hA hC) rfl hC.1 rfl rfl oX8_stopped rfl kL_61M nX8_stopped eX8_stopped (by unfold fRoom; decide) (Nat.le_of_ble_eq_true rfl) (fun v M1 h => ?_) (fun E M1 h => ?_)
  · obtain ⟨⟨dn', n', hC1⟩, hO, ⟨h0, hv⟩ | ⟨-, e, -, hv⟩⟩ := h
    · cases hv
      show fR _ _ _ 7 _ (.int (oStopped ⟨g, sn, kp, tx, ln⟩ dn n p0).2.1 :: .int (nI 0) :: .ref q :: []) _ _ _ _
      refine r_i2l dL_stopped_7 ?_
      refine r_last dL_stopped_8 ((hO q hqa).trans hq) (vp_in_nI (by omega) (by decide)) ?_
      refine r_goto (tgt := 15) dL_stopped_9 (by decide) ?_
      refine r_iconst (v := nI 0) dL_stopped_15 (by decide) ?_
      exact fR_iret dL_stopped_16 rfl (lPost_0 hC1 hO hqa h0 (by rfl))
    · cases hv
  · obtain ⟨⟨dn', n', hC1⟩, hO, ⟨-, hv⟩ | ⟨h0, e, hl, hv⟩⟩ := h
    · cases hv
    · cases hv
      obtain ⟨ht, rfl⟩ := ex_of1 h0 hl
      refine ⟨12, ⟨[], [], ⟨0, 9, 12, 13⟩, _, rfl, ?_, by decide, by decide, kL_13C, kN_IllegalArgumentException, rfl⟩, fun q9 => ?_⟩
      · intro z hz; cases hz
      · refine r_astore_n (lv' := (3, .ref q9) :: [(0, .ref (ad 254)), (1, .int p0), (2, .ref q)]) dL_stopped_12 (by decide) rfl ?_
        refine r_iconst (v := nI 1) dL_stopped_13 (by decide) ?_
        exact fR_iret dL_stopped_14 rfl (lPost_x hC1 hO hq hqa ht (by decide) (by decide) rfl)
theorem tL_undo {l : Launch} {κ : KP} {M : Mem} {ad : Nat → Nat} {g tx : Nat → Int32} {dn n sn ln : Nat} {kp : Bool} (hA : aInj ad) (hC : ClsAt κ ad M ⟨g, sn, kp, tx, ln⟩ dn n)  {q : Nat} {f : Nat → Int64} (hq : M q = some (.inr (2, 1, .inr (.inl f)))) (hqa : ∀ t, t < 256 → q ≠ ad t) : fM l κ mL_undo [.ref (ad 254), .ref q] M (lPost κ ad M q (oUndo ⟨g, sn, kp, tx, ln⟩ dn n)) := by
  refine fM_ofH rfl (by decide +kernel) (Nat.le_of_ble_eq_true rfl) ?_
  show fR l κ mL_undo 0 [(0, .ref (ad 254)), (1, .ref q)] [] M 1 6 _
  refine r_aload_n dL_undo_0 rfl ?_
  refine r_iconst (v := nI 0) dL_undo_1 (by decide) ?_
  refine r_aload_n dL_undo_2 rfl ?_
  refine fR_catchV (As := []) dL_undo_3 (tX8_undo hA hC) rfl hC.1 rfl rfl oX8_undo rfl kL_64M nX8_undo eX8_undo (by unfold fRoom; decide) (Nat.le_of_ble_eq_true rfl) (fun v M1 h => ?_) (fun E M1 h => ?_)
  · obtain ⟨⟨dn', n', hC1⟩, hO, ⟨h0, hv⟩ | ⟨-, e, -, hv⟩⟩ := h
    · cases hv
      show fR _ _ _ 6 _ (.int (oUndo ⟨g, sn, kp, tx, ln⟩ dn n).2.1 :: .int (nI 0) :: .ref q :: []) _ _ _ _
      refine r_i2l dL_undo_6 ?_
      refine r_last dL_undo_7 ((hO q hqa).trans hq) (vp_in_nI (by omega) (by decide)) ?_
      refine r_goto (tgt := 14) dL_undo_8 (by decide) ?_
      refine r_iconst (v := nI 0) dL_undo_14 (by decide) ?_
      exact fR_iret dL_undo_15 rfl (lPost_0 hC1 hO hqa h0 (by rfl))
    · cases hv
  · obtain ⟨⟨dn', n', hC1⟩, hO, ⟨-, hv⟩ | ⟨h0, e, hl, hv⟩⟩ := h
    · cases hv
    · cases hv
      obtain ⟨ht, rfl⟩ := ex_of1 h0 hl
      refine ⟨11, ⟨[], [], ⟨0, 8, 11, 15⟩, _, rfl, ?_, by decide, by decide, kL_15C, kN_IllegalStateException, rfl⟩, fun q9 => ?_⟩
      · intro z hz; cases hz
      · refine r_astore_n (lv' := (2, .ref q9) :: [(0, .ref (ad 254)), (1, .ref q)]) dL_undo_11 (by decide) rfl ?_
        refine r_iconst (v := nI 1) dL_undo_12 (by decide) ?_
        exact fR_iret dL_undo_13 rfl (lPost_x hC1 hO hq hqa ht (by decide) (by decide) rfl)
theorem tL_restore {l : Launch} {κ : KP} {M : Mem} {ad : Nat → Nat} {g tx : Nat → Int32} {dn n sn ln : Nat} {kp : Bool} (hA : aInj ad) (hC : ClsAt κ ad M ⟨g, sn, kp, tx, ln⟩ dn n)  {q : Nat} {f : Nat → Int64} (hq : M q = some (.inr (2, 1, .inr (.inl f)))) (hqa : ∀ t, t < 256 → q ≠ ad t) : fM l κ mL_restore [.ref (ad 254), .ref q] M (lPost κ ad M q (oRestore ⟨g, sn, kp, tx, ln⟩ dn n)) := by
  refine fM_ofH rfl (by decide +kernel) (Nat.le_of_ble_eq_true rfl) ?_
  show fR l κ mL_restore 0 [(0, .ref (ad 254)), (1, .ref q)] [] M 1 6 _
  refine r_aload_n dL_restore_0 rfl ?_
  refine r_iconst (v := nI 0) dL_restore_1 (by decide) ?_
  refine r_aload_n dL_restore_2 rfl ?_
  refine fR_catchV (As := []) dL_restore_3 (tX8_restore hA hC) rfl hC.1 rfl rfl oX8_restore rfl kL_67M nX8_restore eX8_restore (by unfold fRoom; decide) (Nat.le_of_ble_eq_true rfl) (fun v M1 h => ?_) (fun E M1 h => ?_)
  · obtain ⟨⟨dn', n', hC1⟩, hO, ⟨h0, hv⟩ | ⟨-, e, -, hv⟩⟩ := h
    · cases hv
      show fR _ _ _ 6 _ (.int (oRestore ⟨g, sn, kp, tx, ln⟩ dn n).2.1 :: .int (nI 0) :: .ref q :: []) _ _ _ _
      refine r_i2l dL_restore_6 ?_
      refine r_last dL_restore_7 ((hO q hqa).trans hq) (vp_in_nI (by omega) (by decide)) ?_
      refine r_goto (tgt := 14) dL_restore_8 (by decide) ?_
      refine r_iconst (v := nI 0) dL_restore_14 (by decide) ?_
      exact fR_iret dL_restore_15 rfl (lPost_0 hC1 hO hqa h0 (by rfl))
    · cases hv
  · obtain ⟨⟨dn', n', hC1⟩, hO, ⟨-, hv⟩ | ⟨h0, e, hl, hv⟩⟩ := h
    · cases hv
    · cases hv
      obtain ⟨ht, rfl⟩ := ex_of1 h0 hl
      refine ⟨11, ⟨[], [], ⟨0, 8, 11, 15⟩, _, rfl, ?_, by decide, by decide, kL_15C, kN_IllegalStateException, rfl⟩, fun q9 => ?_⟩
      · intro z hz; cases hz
      · refine r_astore_n (lv' := (2, .ref q9) :: [(0, .ref (ad 254)), (1, .ref q)]) dL_restore_11 (by decide) rfl ?_
        refine r_iconst (v := nI 1) dL_restore_12 (by decide) ?_
        exact fR_iret dL_restore_13 rfl (lPost_x hC1 hO hq hqa ht (by decide) (by decide) rfl)
theorem tL_drumOf {l : Launch} {κ : KP} {M : Mem} {ad : Nat → Nat} {g tx : Nat → Int32} {dn n sn ln : Nat} {kp : Bool} (hA : aInj ad) (hC : ClsAt κ ad M ⟨g, sn, kp, tx, ln⟩ dn n) {p0 : Int32} {p1 : Int32} {q : Nat} {f : Nat → Int64} (hq : M q = some (.inr (2, 1, .inr (.inl f)))) (hqa : ∀ t, t < 256 → q ≠ ad t) : fM l κ mL_drumOf [.ref (ad 254), .int p0, .int p1, .ref q] M (lPost κ ad M q (oDrumOf ⟨g, sn, kp, tx, ln⟩ dn n p0 p1)) := by
  refine fM_ofH rfl (by decide +kernel) (Nat.le_of_ble_eq_true rfl) ?_
  show fR l κ mL_drumOf 0 [(0, .ref (ad 254)), (1, .int p0), (2, .int p1), (3, .ref q)] [] M 2 12 _
  refine r_aload_n dL_drumOf_0 rfl ?_
  refine r_iconst (v := nI 0) dL_drumOf_1 (by decide) ?_
  refine r_aload_n dL_drumOf_2 rfl ?_
  refine r_iload_n dL_drumOf_3 rfl ?_
  refine r_iload_n dL_drumOf_4 rfl ?_
  refine fR_catchV (As := [.int p0, .int p1]) dL_drumOf_5 (tX8_drumOf hA hC) rfl hC.1 rfl rfl oX8_drumOf rfl kL_70M nX8_drumOf eX8_drumOf (by unfold fRoom; decide) (Nat.le_of_ble_eq_true rfl) (fun v M1 h => ?_) (fun E M1 h => ?_)
  · obtain ⟨⟨dn', n', hC1⟩, hO, ⟨h0, hv⟩ | ⟨-, e, -, hv⟩⟩ := h
    · cases hv
      show fR _ _ _ 8 _ (.int (oDrumOf ⟨g, sn, kp, tx, ln⟩ dn n p0 p1).2.1 :: .int (nI 0) :: .ref q :: []) _ _ _ _
      refine r_i2l dL_drumOf_8 ?_
      refine r_last dL_drumOf_9 ((hO q hqa).trans hq) (vp_in_nI (by omega) (by decide)) ?_
      refine r_goto (tgt := 21) dL_drumOf_10 (by decide) ?_
      refine r_iconst (v := nI 0) dL_drumOf_21 (by decide) ?_
      exact fR_iret dL_drumOf_22 rfl (lPost_0 hC1 hO hqa h0 (by rfl))
    · cases hv
  · obtain ⟨⟨dn', n', hC1⟩, hO, ⟨-, hv⟩ | ⟨h0, e, hl, hv⟩⟩ := h
    · cases hv
    · cases hv
      rcases ex_of2 h0 hl with ⟨ht, rfl⟩ | ⟨ht, rfl⟩
      · refine ⟨13, ⟨[], [⟨0, 10, 17, 13⟩], ⟨0, 10, 13, 23⟩, _, rfl, ?_, by decide, by decide, kL_23C, kN_IndexOutOfBoundsException, rfl⟩, fun q9 => ?_⟩
        · intro z hz; cases hz
        · refine r_astore (lv' := (4, .ref q9) :: [(0, .ref (ad 254)), (1, .int p0), (2, .int p1), (3, .ref q)]) dL_drumOf_13 (by decide) rfl ?_
          refine r_iconst (v := nI 1) dL_drumOf_15 (by decide) ?_
          exact fR_iret dL_drumOf_16 rfl (lPost_x hC1 hO hq hqa ht (by decide) (by decide) rfl)
      · refine ⟨17, ⟨[⟨0, 10, 13, 23⟩], [], ⟨0, 10, 17, 13⟩, _, rfl, ?_, by decide, by decide, kL_13C, kN_IllegalArgumentException, rfl⟩, fun q9 => ?_⟩
        · intro z hz
          simp only [List.mem_cons, List.not_mem_nil, or_false] at hz
          subst hz
          exact ⟨by decide, _, kL_23C, by decide⟩
        · refine r_astore (lv' := (4, .ref q9) :: [(0, .ref (ad 254)), (1, .int p0), (2, .int p1), (3, .ref q)]) dL_drumOf_17 (by decide) rfl ?_
          refine r_iconst (v := nI 2) dL_drumOf_19 (by decide) ?_
          exact fR_iret dL_drumOf_20 rfl (lPost_x hC1 hO hq hqa ht (by decide) (by decide) rfl)
theorem tL_sampleOf {l : Launch} {κ : KP} {M : Mem} {ad : Nat → Nat} {g tx : Nat → Int32} {dn n sn ln : Nat} {kp : Bool} (hA : aInj ad) (hC : ClsAt κ ad M ⟨g, sn, kp, tx, ln⟩ dn n) {p0 : Int32} {p1 : Int32} {q : Nat} {f : Nat → Int64} (hq : M q = some (.inr (2, 1, .inr (.inl f)))) (hqa : ∀ t, t < 256 → q ≠ ad t) : fM l κ mL_sampleOf [.ref (ad 254), .int p0, .int p1, .ref q] M (lPost κ ad M q (oSampleOf ⟨g, sn, kp, tx, ln⟩ dn n p0 p1)) := by
  refine fM_ofH rfl (by decide +kernel) (Nat.le_of_ble_eq_true rfl) ?_
  show fR l κ mL_sampleOf 0 [(0, .ref (ad 254)), (1, .int p0), (2, .int p1), (3, .ref q)] [] M 2 12 _
  refine r_aload_n dL_sampleOf_0 rfl ?_
  refine r_iconst (v := nI 0) dL_sampleOf_1 (by decide) ?_
  refine r_aload_n dL_sampleOf_2 rfl ?_
  refine r_iload_n dL_sampleOf_3 rfl ?_
  refine r_iload_n dL_sampleOf_4 rfl ?_
  refine fR_catchV (As := [.int p0, .int p1]) dL_sampleOf_5 (tX8_sampleOf hA hC) rfl hC.1 rfl rfl oX8_sampleOf rfl kL_73M nX8_sampleOf eX8_sampleOf (by unfold fRoom; decide) (Nat.le_of_ble_eq_true rfl) (fun v M1 h => ?_) (fun E M1 h => ?_)
  · obtain ⟨⟨dn', n', hC1⟩, hO, ⟨h0, hv⟩ | ⟨-, e, -, hv⟩⟩ := h
    · cases hv
      show fR _ _ _ 8 _ (.int (oSampleOf ⟨g, sn, kp, tx, ln⟩ dn n p0 p1).2.1 :: .int (nI 0) :: .ref q :: []) _ _ _ _
      refine r_i2l dL_sampleOf_8 ?_
      refine r_last dL_sampleOf_9 ((hO q hqa).trans hq) (vp_in_nI (by omega) (by decide)) ?_
      refine r_goto (tgt := 21) dL_sampleOf_10 (by decide) ?_
      refine r_iconst (v := nI 0) dL_sampleOf_21 (by decide) ?_
      exact fR_iret dL_sampleOf_22 rfl (lPost_0 hC1 hO hqa h0 (by rfl))
    · cases hv
  · obtain ⟨⟨dn', n', hC1⟩, hO, ⟨-, hv⟩ | ⟨h0, e, hl, hv⟩⟩ := h
    · cases hv
    · cases hv
      rcases ex_of2 h0 hl with ⟨ht, rfl⟩ | ⟨ht, rfl⟩
      · refine ⟨13, ⟨[], [⟨0, 10, 17, 13⟩], ⟨0, 10, 13, 23⟩, _, rfl, ?_, by decide, by decide, kL_23C, kN_IndexOutOfBoundsException, rfl⟩, fun q9 => ?_⟩
        · intro z hz; cases hz
        · refine r_astore (lv' := (4, .ref q9) :: [(0, .ref (ad 254)), (1, .int p0), (2, .int p1), (3, .ref q)]) dL_sampleOf_13 (by decide) rfl ?_
          refine r_iconst (v := nI 1) dL_sampleOf_15 (by decide) ?_
          exact fR_iret dL_sampleOf_16 rfl (lPost_x hC1 hO hq hqa ht (by decide) (by decide) rfl)
      · refine ⟨17, ⟨[⟨0, 10, 13, 23⟩], [], ⟨0, 10, 17, 13⟩, _, rfl, ?_, by decide, by decide, kL_13C, kN_IllegalArgumentException, rfl⟩, fun q9 => ?_⟩
        · intro z hz
          simp only [List.mem_cons, List.not_mem_nil, or_false] at hz
          subst hz
          exact ⟨by decide, _, kL_23C, by decide⟩
        · refine r_astore (lv' := (4, .ref q9) :: [(0, .ref (ad 254)), (1, .int p0), (2, .int p1), (3, .ref q)]) dL_sampleOf_17 (by decide) rfl ?_
          refine r_iconst (v := nI 2) dL_sampleOf_19 (by decide) ?_
          exact fR_iret dL_sampleOf_20 rfl (lPost_x hC1 hO hq hqa ht (by decide) (by decide) rfl)
theorem tL_reading {l : Launch} {κ : KP} {M : Mem} {ad : Nat → Nat} {g tx : Nat → Int32} {dn n sn ln : Nat} {kp : Bool} (hA : aInj ad) (hC : ClsAt κ ad M ⟨g, sn, kp, tx, ln⟩ dn n) {p0 : Int32} {p1 : Int32} {p2 : Int32} {q : Nat} {f : Nat → Int64} (hq : M q = some (.inr (2, 1, .inr (.inl f)))) (hqa : ∀ t, t < 256 → q ≠ ad t) : fM l κ mL_reading [.ref (ad 254), .int p0, .int p1, .int p2, .ref q] M (lPost κ ad M q (oReading ⟨g, sn, kp, tx, ln⟩ dn n p0 p1 p2)) := by
  refine fM_ofH rfl (by decide +kernel) (Nat.le_of_ble_eq_true rfl) ?_
  show fR l κ mL_reading 0 [(0, .ref (ad 254)), (1, .int p0), (2, .int p1), (3, .int p2), (4, .ref q)] [] M 3 18 _
  refine r_aload dL_reading_0 rfl ?_
  refine r_iconst (v := nI 0) dL_reading_2 (by decide) ?_
  refine r_aload_n dL_reading_3 rfl ?_
  refine r_iload_n dL_reading_4 rfl ?_
  refine r_iload_n dL_reading_5 rfl ?_
  refine r_iload_n dL_reading_6 rfl ?_
  refine fR_catchV (As := [.int p0, .int p1, .int p2]) dL_reading_7 (tX8_reading hA hC) rfl hC.1 rfl rfl oX8_reading rfl kL_76M nX8_reading eX8_reading (by unfold fRoom; decide) (Nat.le_of_ble_eq_true rfl) (fun v M1 h => ?_) (fun E M1 h => ?_)
  · obtain ⟨⟨dn', n', hC1⟩, hO, ⟨h0, hv⟩ | ⟨-, e, -, hv⟩⟩ := h
    · cases hv
      show fR _ _ _ 10 _ (.int (oReading ⟨g, sn, kp, tx, ln⟩ dn n p0 p1 p2).2.1 :: .int (nI 0) :: .ref q :: []) _ _ _ _
      refine r_i2l dL_reading_10 ?_
      refine r_last dL_reading_11 ((hO q hqa).trans hq) (vp_in_nI (by omega) (by decide)) ?_
      refine r_goto (tgt := 23) dL_reading_12 (by decide) ?_
      refine r_iconst (v := nI 0) dL_reading_23 (by decide) ?_
      exact fR_iret dL_reading_24 rfl (lPost_0 hC1 hO hqa h0 (by rfl))
    · cases hv
  · obtain ⟨⟨dn', n', hC1⟩, hO, ⟨-, hv⟩ | ⟨h0, e, hl, hv⟩⟩ := h
    · cases hv
    · cases hv
      rcases ex_of2 h0 hl with ⟨ht, rfl⟩ | ⟨ht, rfl⟩
      · refine ⟨15, ⟨[], [⟨0, 12, 19, 13⟩], ⟨0, 12, 15, 23⟩, _, rfl, ?_, by decide, by decide, kL_23C, kN_IndexOutOfBoundsException, rfl⟩, fun q9 => ?_⟩
        · intro z hz; cases hz
        · refine r_astore (lv' := (5, .ref q9) :: [(0, .ref (ad 254)), (1, .int p0), (2, .int p1), (3, .int p2), (4, .ref q)]) dL_reading_15 (by decide) rfl ?_
          refine r_iconst (v := nI 1) dL_reading_17 (by decide) ?_
          exact fR_iret dL_reading_18 rfl (lPost_x hC1 hO hq hqa ht (by decide) (by decide) rfl)
      · refine ⟨19, ⟨[⟨0, 12, 15, 23⟩], [], ⟨0, 12, 19, 13⟩, _, rfl, ?_, by decide, by decide, kL_13C, kN_IllegalArgumentException, rfl⟩, fun q9 => ?_⟩
        · intro z hz
          simp only [List.mem_cons, List.not_mem_nil, or_false] at hz
          subst hz
          exact ⟨by decide, _, kL_23C, by decide⟩
        · refine r_astore (lv' := (5, .ref q9) :: [(0, .ref (ad 254)), (1, .int p0), (2, .int p1), (3, .int p2), (4, .ref q)]) dL_reading_19 (by decide) rfl ?_
          refine r_iconst (v := nI 2) dL_reading_21 (by decide) ?_
          exact fR_iret dL_reading_22 rfl (lPost_x hC1 hO hq hqa ht (by decide) (by decide) rfl)
theorem tL_needle {l : Launch} {κ : KP} {M : Mem} {ad : Nat → Nat} {g tx : Nat → Int32} {dn n sn ln : Nat} {kp : Bool} (hA : aInj ad) (hC : ClsAt κ ad M ⟨g, sn, kp, tx, ln⟩ dn n) {p0 : Int32} {p1 : Int32} {q : Nat} {f : Nat → Int64} (hq : M q = some (.inr (2, 1, .inr (.inl f)))) (hqa : ∀ t, t < 256 → q ≠ ad t) : fM l κ mL_needle [.ref (ad 254), .int p0, .int p1, .ref q] M (lPost κ ad M q (oNeedle ⟨g, sn, kp, tx, ln⟩ dn n p0 p1)) := by
  refine fM_ofH rfl (by decide +kernel) (Nat.le_of_ble_eq_true rfl) ?_
  show fR l κ mL_needle 0 [(0, .ref (ad 254)), (1, .int p0), (2, .int p1), (3, .ref q)] [] M 2 12 _
  refine r_aload_n dL_needle_0 rfl ?_
  refine r_iconst (v := nI 0) dL_needle_1 (by decide) ?_
  refine r_aload_n dL_needle_2 rfl ?_
  refine r_iload_n dL_needle_3 rfl ?_
  refine r_iload_n dL_needle_4 rfl ?_
  refine fR_catchV (As := [.int p0, .int p1]) dL_needle_5 (tX8_needle hA hC) rfl hC.1 rfl rfl oX8_needle rfl kL_80M nX8_needle eX8_needle (by unfold fRoom; decide) (Nat.le_of_ble_eq_true rfl) (fun v M1 h => ?_) (fun E M1 h => ?_)
  · obtain ⟨⟨dn', n', hC1⟩, hO, ⟨h0, hv⟩ | ⟨-, e, -, hv⟩⟩ := h
    · cases hv
      show fR _ _ _ 8 _ (.int (oNeedle ⟨g, sn, kp, tx, ln⟩ dn n p0 p1).2.1 :: .int (nI 0) :: .ref q :: []) _ _ _ _
      refine r_i2l dL_needle_8 ?_
      refine r_last dL_needle_9 ((hO q hqa).trans hq) (vp_in_nI (by omega) (by decide)) ?_
      refine r_goto (tgt := 21) dL_needle_10 (by decide) ?_
      refine r_iconst (v := nI 0) dL_needle_21 (by decide) ?_
      exact fR_iret dL_needle_22 rfl (lPost_0 hC1 hO hqa h0 (by rfl))
    · cases hv
  · obtain ⟨⟨dn', n', hC1⟩, hO, ⟨-, hv⟩ | ⟨h0, e, hl, hv⟩⟩ := h
    · cases hv
    · cases hv
      rcases ex_of2 h0 hl with ⟨ht, rfl⟩ | ⟨ht, rfl⟩
      · refine ⟨13, ⟨[], [⟨0, 10, 17, 13⟩], ⟨0, 10, 13, 23⟩, _, rfl, ?_, by decide, by decide, kL_23C, kN_IndexOutOfBoundsException, rfl⟩, fun q9 => ?_⟩
        · intro z hz; cases hz
        · refine r_astore (lv' := (4, .ref q9) :: [(0, .ref (ad 254)), (1, .int p0), (2, .int p1), (3, .ref q)]) dL_needle_13 (by decide) rfl ?_
          refine r_iconst (v := nI 1) dL_needle_15 (by decide) ?_
          exact fR_iret dL_needle_16 rfl (lPost_x hC1 hO hq hqa ht (by decide) (by decide) rfl)
      · refine ⟨17, ⟨[⟨0, 10, 13, 23⟩], [], ⟨0, 10, 17, 13⟩, _, rfl, ?_, by decide, by decide, kL_13C, kN_IllegalArgumentException, rfl⟩, fun q9 => ?_⟩
        · intro z hz
          simp only [List.mem_cons, List.not_mem_nil, or_false] at hz
          subst hz
          exact ⟨by decide, _, kL_23C, by decide⟩
        · refine r_astore (lv' := (4, .ref q9) :: [(0, .ref (ad 254)), (1, .int p0), (2, .int p1), (3, .ref q)]) dL_needle_17 (by decide) rfl ?_
          refine r_iconst (v := nI 2) dL_needle_19 (by decide) ?_
          exact fR_iret dL_needle_20 rfl (lPost_x hC1 hO hq hqa ht (by decide) (by decide) rfl)
theorem tL_bathOf {l : Launch} {κ : KP} {M : Mem} {ad : Nat → Nat} {g tx : Nat → Int32} {dn n sn ln : Nat} {kp : Bool} (hA : aInj ad) (hC : ClsAt κ ad M ⟨g, sn, kp, tx, ln⟩ dn n) {p0 : Int32} {p1 : Int32} {q : Nat} {f : Nat → Int64} (hq : M q = some (.inr (2, 1, .inr (.inl f)))) (hqa : ∀ t, t < 256 → q ≠ ad t) : fM l κ mL_bathOf [.ref (ad 254), .int p0, .int p1, .ref q] M (lPost κ ad M q (oBathOf ⟨g, sn, kp, tx, ln⟩ dn n p0 p1)) := by
  refine fM_ofH rfl (by decide +kernel) (Nat.le_of_ble_eq_true rfl) ?_
  show fR l κ mL_bathOf 0 [(0, .ref (ad 254)), (1, .int p0), (2, .int p1), (3, .ref q)] [] M 2 12 _
  refine r_aload_n dL_bathOf_0 rfl ?_
  refine r_iconst (v := nI 0) dL_bathOf_1 (by decide) ?_
  refine r_aload_n dL_bathOf_2 rfl ?_
  refine r_iload_n dL_bathOf_3 rfl ?_
  refine r_iload_n dL_bathOf_4 rfl ?_
  refine fR_catchV (As := [.int p0, .int p1]) dL_bathOf_5 (tX8_bathOf hA hC) rfl hC.1 rfl rfl oX8_bathOf rfl kL_83M nX8_bathOf eX8_bathOf (by unfold fRoom; decide) (Nat.le_of_ble_eq_true rfl) (fun v M1 h => ?_) (fun E M1 h => ?_)
  · obtain ⟨⟨dn', n', hC1⟩, hO, ⟨h0, hv⟩ | ⟨-, e, -, hv⟩⟩ := h
    · cases hv
      show fR _ _ _ 8 _ (.int (oBathOf ⟨g, sn, kp, tx, ln⟩ dn n p0 p1).2.1 :: .int (nI 0) :: .ref q :: []) _ _ _ _
      refine r_i2l dL_bathOf_8 ?_
      refine r_last dL_bathOf_9 ((hO q hqa).trans hq) (vp_in_nI (by omega) (by decide)) ?_
      refine r_goto (tgt := 21) dL_bathOf_10 (by decide) ?_
      refine r_iconst (v := nI 0) dL_bathOf_21 (by decide) ?_
      exact fR_iret dL_bathOf_22 rfl (lPost_0 hC1 hO hqa h0 (by rfl))
    · cases hv
  · obtain ⟨⟨dn', n', hC1⟩, hO, ⟨-, hv⟩ | ⟨h0, e, hl, hv⟩⟩ := h
    · cases hv
    · cases hv
      rcases ex_of2 h0 hl with ⟨ht, rfl⟩ | ⟨ht, rfl⟩
      · refine ⟨13, ⟨[], [⟨0, 10, 17, 13⟩], ⟨0, 10, 13, 23⟩, _, rfl, ?_, by decide, by decide, kL_23C, kN_IndexOutOfBoundsException, rfl⟩, fun q9 => ?_⟩
        · intro z hz; cases hz
        · refine r_astore (lv' := (4, .ref q9) :: [(0, .ref (ad 254)), (1, .int p0), (2, .int p1), (3, .ref q)]) dL_bathOf_13 (by decide) rfl ?_
          refine r_iconst (v := nI 1) dL_bathOf_15 (by decide) ?_
          exact fR_iret dL_bathOf_16 rfl (lPost_x hC1 hO hq hqa ht (by decide) (by decide) rfl)
      · refine ⟨17, ⟨[⟨0, 10, 13, 23⟩], [], ⟨0, 10, 17, 13⟩, _, rfl, ?_, by decide, by decide, kL_13C, kN_IllegalArgumentException, rfl⟩, fun q9 => ?_⟩
        · intro z hz
          simp only [List.mem_cons, List.not_mem_nil, or_false] at hz
          subst hz
          exact ⟨by decide, _, kL_23C, by decide⟩
        · refine r_astore (lv' := (4, .ref q9) :: [(0, .ref (ad 254)), (1, .int p0), (2, .int p1), (3, .ref q)]) dL_bathOf_17 (by decide) rfl ?_
          refine r_iconst (v := nI 2) dL_bathOf_19 (by decide) ?_
          exact fR_iret dL_bathOf_20 rfl (lPost_x hC1 hO hq hqa ht (by decide) (by decide) rfl)
theorem tL_count {l : Launch} {κ : KP} {M : Mem} {ad : Nat → Nat} {g tx : Nat → Int32} {dn n sn ln : Nat} {kp : Bool} (hA : aInj ad) (hC : ClsAt κ ad M ⟨g, sn, kp, tx, ln⟩ dn n) {p0 : Int32} {q : Nat} {f : Nat → Int64} (hq : M q = some (.inr (2, 1, .inr (.inl f)))) (hqa : ∀ t, t < 256 → q ≠ ad t) : fM l κ mL_count [.ref (ad 254), .int p0, .ref q] M (lPost κ ad M q (oCount ⟨g, sn, kp, tx, ln⟩ dn n p0)) := by
  refine fM_ofH rfl (by decide +kernel) (Nat.le_of_ble_eq_true rfl) ?_
  show fR l κ mL_count 0 [(0, .ref (ad 254)), (1, .int p0), (2, .ref q)] [] M 1 6 _
  refine r_aload_n dL_count_0 rfl ?_
  refine r_iconst (v := nI 0) dL_count_1 (by decide) ?_
  refine r_aload_n dL_count_2 rfl ?_
  refine r_iload_n dL_count_3 rfl ?_
  refine fR_catchV (As := [.int p0]) dL_count_4 (tX8_count hA hC) rfl hC.1 rfl rfl oX8_count rfl kL_86M nX8_count eX8_count (by unfold fRoom; decide) (Nat.le_of_ble_eq_true rfl) (fun v M1 h => ?_) (fun E M1 h => ?_)
  · obtain ⟨⟨dn', n', hC1⟩, hO, ⟨h0, hv⟩ | ⟨-, e, -, hv⟩⟩ := h
    · cases hv
      show fR _ _ _ 7 _ (.int (oCount ⟨g, sn, kp, tx, ln⟩ dn n p0).2.1 :: .int (nI 0) :: .ref q :: []) _ _ _ _
      refine r_i2l dL_count_7 ?_
      refine r_last dL_count_8 ((hO q hqa).trans hq) (vp_in_nI (by omega) (by decide)) ?_
      refine r_goto (tgt := 15) dL_count_9 (by decide) ?_
      refine r_iconst (v := nI 0) dL_count_15 (by decide) ?_
      exact fR_iret dL_count_16 rfl (lPost_0 hC1 hO hqa h0 (by rfl))
    · cases hv
  · obtain ⟨⟨dn', n', hC1⟩, hO, ⟨-, hv⟩ | ⟨h0, e, hl, hv⟩⟩ := h
    · cases hv
    · cases hv
      obtain ⟨ht, rfl⟩ := ex_of1 h0 hl
      refine ⟨12, ⟨[], [], ⟨0, 9, 12, 13⟩, _, rfl, ?_, by decide, by decide, kL_13C, kN_IllegalArgumentException, rfl⟩, fun q9 => ?_⟩
      · intro z hz; cases hz
      · refine r_astore_n (lv' := (3, .ref q9) :: [(0, .ref (ad 254)), (1, .int p0), (2, .ref q)]) dL_count_12 (by decide) rfl ?_
        refine r_iconst (v := nI 1) dL_count_13 (by decide) ?_
        exact fR_iret dL_count_14 rfl (lPost_x hC1 hO hq hqa ht (by decide) (by decide) rfl)
theorem tL_noSink {l : Launch} {κ : KP} {M : Mem} {ad : Nat → Nat} {g tx : Nat → Int32} {dn n sn ln : Nat} {kp : Bool} (hA : aInj ad) (hC : ClsAt κ ad M ⟨g, sn, kp, tx, ln⟩ dn n) {p0 : Int32} {p1 : Int32} {q : Nat} {f : Nat → Int64} (hq : M q = some (.inr (2, 1, .inr (.inl f)))) (hqa : ∀ t, t < 256 → q ≠ ad t) : fM l κ mL_noSink [.ref (ad 254), .int p0, .int p1, .ref q] M (lPost κ ad M q (oNoSink ⟨g, sn, kp, tx, ln⟩ dn n p0 p1)) := by
  refine fM_ofH rfl (by decide +kernel) (Nat.le_of_ble_eq_true rfl) ?_
  show fR l κ mL_noSink 0 [(0, .ref (ad 254)), (1, .int p0), (2, .int p1), (3, .ref q)] [] M 2 12 _
  refine r_aload_n dL_noSink_0 rfl ?_
  refine r_iconst (v := nI 0) dL_noSink_1 (by decide) ?_
  refine r_aload_n dL_noSink_2 rfl ?_
  refine r_iload_n dL_noSink_3 rfl ?_
  refine r_iload_n dL_noSink_4 rfl ?_
  refine fR_catchV (As := [.int p0, .int p1]) dL_noSink_5 (tX8_noSink hA hC) rfl hC.1 rfl rfl oX8_noSink rfl kL_89M nX8_noSink eX8_noSink (by unfold fRoom; decide) (Nat.le_of_ble_eq_true rfl) (fun v M1 h => ?_) (fun E M1 h => ?_)
  · obtain ⟨⟨dn', n', hC1⟩, hO, ⟨h0, hv⟩ | ⟨-, e, -, hv⟩⟩ := h
    · cases hv
      show fR _ _ _ 8 _ (.int (oNoSink ⟨g, sn, kp, tx, ln⟩ dn n p0 p1).2.1 :: .int (nI 0) :: .ref q :: []) _ _ _ _
      refine r_i2l dL_noSink_8 ?_
      refine r_last dL_noSink_9 ((hO q hqa).trans hq) (vp_in_nI (by omega) (by decide)) ?_
      refine r_goto (tgt := 17) dL_noSink_10 (by decide) ?_
      refine r_iconst (v := nI 0) dL_noSink_17 (by decide) ?_
      exact fR_iret dL_noSink_18 rfl (lPost_0 hC1 hO hqa h0 (by rfl))
    · cases hv
  · obtain ⟨⟨dn', n', hC1⟩, hO, ⟨-, hv⟩ | ⟨h0, e, hl, hv⟩⟩ := h
    · cases hv
    · cases hv
      obtain ⟨ht, rfl⟩ := ex_of1 h0 hl
      refine ⟨13, ⟨[], [], ⟨0, 10, 13, 23⟩, _, rfl, ?_, by decide, by decide, kL_23C, kN_IndexOutOfBoundsException, rfl⟩, fun q9 => ?_⟩
      · intro z hz; cases hz
      · refine r_astore (lv' := (4, .ref q9) :: [(0, .ref (ad 254)), (1, .int p0), (2, .int p1), (3, .ref q)]) dL_noSink_13 (by decide) rfl ?_
        refine r_iconst (v := nI 1) dL_noSink_15 (by decide) ?_
        exact fR_iret dL_noSink_16 rfl (lPost_x hC1 hO hq hqa ht (by decide) (by decide) rfl)
theorem tL_noSale {l : Launch} {κ : KP} {M : Mem} {ad : Nat → Nat} {g tx : Nat → Int32} {dn n sn ln : Nat} {kp : Bool} (hA : aInj ad) (hC : ClsAt κ ad M ⟨g, sn, kp, tx, ln⟩ dn n) {p0 : Int32} {q : Nat} {f : Nat → Int64} (hq : M q = some (.inr (2, 1, .inr (.inl f)))) (hqa : ∀ t, t < 256 → q ≠ ad t) : fM l κ mL_noSale [.ref (ad 254), .int p0, .ref q] M (lPost κ ad M q (oNoSale ⟨g, sn, kp, tx, ln⟩ dn n p0)) := by
  refine fM_ofH rfl (by decide +kernel) (Nat.le_of_ble_eq_true rfl) ?_
  show fR l κ mL_noSale 0 [(0, .ref (ad 254)), (1, .int p0), (2, .ref q)] [] M 1 6 _
  refine r_aload_n dL_noSale_0 rfl ?_
  refine r_iconst (v := nI 0) dL_noSale_1 (by decide) ?_
  refine r_aload_n dL_noSale_2 rfl ?_
  refine r_iload_n dL_noSale_3 rfl ?_
  refine fR_catchV (As := [.int p0]) dL_noSale_4 (tX8_noSale hA hC) rfl hC.1 rfl rfl oX8_noSale rfl kL_92M nX8_noSale eX8_noSale (by unfold fRoom; decide) (Nat.le_of_ble_eq_true rfl) (fun v M1 h => ?_) (fun E M1 h => ?_)
  · obtain ⟨⟨dn', n', hC1⟩, hO, ⟨h0, hv⟩ | ⟨-, e, -, hv⟩⟩ := h
    · cases hv
      show fR _ _ _ 7 _ (.int (oNoSale ⟨g, sn, kp, tx, ln⟩ dn n p0).2.1 :: .int (nI 0) :: .ref q :: []) _ _ _ _
      refine r_i2l dL_noSale_7 ?_
      refine r_last dL_noSale_8 ((hO q hqa).trans hq) (vp_in_nI (by omega) (by decide)) ?_
      refine r_goto (tgt := 15) dL_noSale_9 (by decide) ?_
      refine r_iconst (v := nI 0) dL_noSale_15 (by decide) ?_
      exact fR_iret dL_noSale_16 rfl (lPost_0 hC1 hO hqa h0 (by rfl))
    · cases hv
  · obtain ⟨⟨dn', n', hC1⟩, hO, ⟨-, hv⟩ | ⟨h0, e, hl, hv⟩⟩ := h
    · cases hv
    · cases hv
      obtain ⟨ht, rfl⟩ := ex_of1 h0 hl
      refine ⟨12, ⟨[], [], ⟨0, 9, 12, 23⟩, _, rfl, ?_, by decide, by decide, kL_23C, kN_IndexOutOfBoundsException, rfl⟩, fun q9 => ?_⟩
      · intro z hz; cases hz
      · refine r_astore_n (lv' := (3, .ref q9) :: [(0, .ref (ad 254)), (1, .int p0), (2, .ref q)]) dL_noSale_12 (by decide) rfl ?_
        refine r_iconst (v := nI 1) dL_noSale_13 (by decide) ?_
        exact fR_iret dL_noSale_14 rfl (lPost_x hC1 hO hq hqa ht (by decide) (by decide) rfl)
theorem tL_ifSunk {l : Launch} {κ : KP} {M : Mem} {ad : Nat → Nat} {g tx : Nat → Int32} {dn n sn ln : Nat} {kp : Bool} (hA : aInj ad) (hC : ClsAt κ ad M ⟨g, sn, kp, tx, ln⟩ dn n) {p0 : Int32} {p1 : Int32} {p2 : Int32} {p3 : Int32} {q : Nat} {f : Nat → Int64} (hq : M q = some (.inr (2, 1, .inr (.inl f)))) (hqa : ∀ t, t < 256 → q ≠ ad t) : fM l κ mL_ifSunk [.ref (ad 254), .int p0, .int p1, .int p2, .int p3, .ref q] M (lPost κ ad M q (oIfSunk ⟨g, sn, kp, tx, ln⟩ dn n p0 p1 p2 p3)) := by
  refine fM_ofH rfl (by decide +kernel) (Nat.le_of_ble_eq_true rfl) ?_
  show fR l κ mL_ifSunk 0 [(0, .ref (ad 254)), (1, .int p0), (2, .int p1), (3, .int p2), (4, .int p3), (5, .ref q)] [] M 4 24 _
  refine r_aload dL_ifSunk_0 rfl ?_
  refine r_iconst (v := nI 0) dL_ifSunk_2 (by decide) ?_
  refine r_aload_n dL_ifSunk_3 rfl ?_
  refine r_iload_n dL_ifSunk_4 rfl ?_
  refine r_iload_n dL_ifSunk_5 rfl ?_
  refine r_iload_n dL_ifSunk_6 rfl ?_
  refine r_iload dL_ifSunk_7 rfl ?_
  refine fR_catchV (As := [.int p0, .int p1, .int p2, .int p3]) dL_ifSunk_9 (tX8_ifSunk hA hC) rfl hC.1 rfl rfl oX8_ifSunk rfl kL_95M nX8_ifSunk eX8_ifSunk (by unfold fRoom; decide) (Nat.le_of_ble_eq_true rfl) (fun v M1 h => ?_) (fun E M1 h => ?_)
  · obtain ⟨⟨dn', n', hC1⟩, hO, ⟨h0, hv⟩ | ⟨-, e, -, hv⟩⟩ := h
    · cases hv
      show fR _ _ _ 12 _ (.int (oIfSunk ⟨g, sn, kp, tx, ln⟩ dn n p0 p1 p2 p3).2.1 :: .int (nI 0) :: .ref q :: []) _ _ _ _
      refine r_i2l dL_ifSunk_12 ?_
      refine r_last dL_ifSunk_13 ((hO q hqa).trans hq) (vp_in_nI (by omega) (by decide)) ?_
      refine r_goto (tgt := 25) dL_ifSunk_14 (by decide) ?_
      refine r_iconst (v := nI 0) dL_ifSunk_25 (by decide) ?_
      exact fR_iret dL_ifSunk_26 rfl (lPost_0 hC1 hO hqa h0 (by rfl))
    · cases hv
  · obtain ⟨⟨dn', n', hC1⟩, hO, ⟨-, hv⟩ | ⟨h0, e, hl, hv⟩⟩ := h
    · cases hv
    · cases hv
      rcases ex_of2 h0 hl with ⟨ht, rfl⟩ | ⟨ht, rfl⟩
      · refine ⟨17, ⟨[], [⟨0, 14, 21, 13⟩], ⟨0, 14, 17, 23⟩, _, rfl, ?_, by decide, by decide, kL_23C, kN_IndexOutOfBoundsException, rfl⟩, fun q9 => ?_⟩
        · intro z hz; cases hz
        · refine r_astore (lv' := (6, .ref q9) :: [(0, .ref (ad 254)), (1, .int p0), (2, .int p1), (3, .int p2), (4, .int p3), (5, .ref q)]) dL_ifSunk_17 (by decide) rfl ?_
          refine r_iconst (v := nI 1) dL_ifSunk_19 (by decide) ?_
          exact fR_iret dL_ifSunk_20 rfl (lPost_x hC1 hO hq hqa ht (by decide) (by decide) rfl)
      · refine ⟨21, ⟨[⟨0, 14, 17, 23⟩], [], ⟨0, 14, 21, 13⟩, _, rfl, ?_, by decide, by decide, kL_13C, kN_IllegalArgumentException, rfl⟩, fun q9 => ?_⟩
        · intro z hz
          simp only [List.mem_cons, List.not_mem_nil, or_false] at hz
          subst hz
          exact ⟨by decide, _, kL_23C, by decide⟩
        · refine r_astore (lv' := (6, .ref q9) :: [(0, .ref (ad 254)), (1, .int p0), (2, .int p1), (3, .int p2), (4, .int p3), (5, .ref q)]) dL_ifSunk_21 (by decide) rfl ?_
          refine r_iconst (v := nI 2) dL_ifSunk_23 (by decide) ?_
          exact fR_iret dL_ifSunk_24 rfl (lPost_x hC1 hO hq hqa ht (by decide) (by decide) rfl)
theorem tL_secondsTo {l : Launch} {κ : KP} {M : Mem} {ad : Nat → Nat} {g tx : Nat → Int32} {dn n sn ln : Nat} {kp : Bool} (hA : aInj ad) (hC : ClsAt κ ad M ⟨g, sn, kp, tx, ln⟩ dn n) {p0 : Int32} {p1 : Int32} {p2 : Int32} {p3 : Int32} {q : Nat} {f : Nat → Int64} (hq : M q = some (.inr (2, 1, .inr (.inl f)))) (hqa : ∀ t, t < 256 → q ≠ ad t) : fM l κ mL_secondsTo [.ref (ad 254), .int p0, .int p1, .int p2, .int p3, .ref q] M (lPost κ ad M q (oSecondsTo ⟨g, sn, kp, tx, ln⟩ dn n p0 p1 p2 p3)) := by
  refine fM_ofH rfl (by decide +kernel) (Nat.le_of_ble_eq_true rfl) ?_
  show fR l κ mL_secondsTo 0 [(0, .ref (ad 254)), (1, .int p0), (2, .int p1), (3, .int p2), (4, .int p3), (5, .ref q)] [] M 4 24 _
  refine r_aload dL_secondsTo_0 rfl ?_
  refine r_iconst (v := nI 0) dL_secondsTo_2 (by decide) ?_
  refine r_aload_n dL_secondsTo_3 rfl ?_
  refine r_iload_n dL_secondsTo_4 rfl ?_
  refine r_iload_n dL_secondsTo_5 rfl ?_
  refine r_iload_n dL_secondsTo_6 rfl ?_
  refine r_iload dL_secondsTo_7 rfl ?_
  refine fR_catchV (As := [.int p0, .int p1, .int p2, .int p3]) dL_secondsTo_9 (tX8_secondsTo hA hC) rfl hC.1 rfl rfl oX8_secondsTo rfl kL_98M nX8_secondsTo eX8_secondsTo (by unfold fRoom; decide) (Nat.le_of_ble_eq_true rfl) (fun v M1 h => ?_) (fun E M1 h => ?_)
  · obtain ⟨⟨dn', n', hC1⟩, hO, ⟨h0, hv⟩ | ⟨-, e, -, hv⟩⟩ := h
    · cases hv
      show fR _ _ _ 12 _ (.int (oSecondsTo ⟨g, sn, kp, tx, ln⟩ dn n p0 p1 p2 p3).2.1 :: .int (nI 0) :: .ref q :: []) _ _ _ _
      refine r_i2l dL_secondsTo_12 ?_
      refine r_last dL_secondsTo_13 ((hO q hqa).trans hq) (vp_in_nI (by omega) (by decide)) ?_
      refine r_goto (tgt := 25) dL_secondsTo_14 (by decide) ?_
      refine r_iconst (v := nI 0) dL_secondsTo_25 (by decide) ?_
      exact fR_iret dL_secondsTo_26 rfl (lPost_0 hC1 hO hqa h0 (by rfl))
    · cases hv
  · obtain ⟨⟨dn', n', hC1⟩, hO, ⟨-, hv⟩ | ⟨h0, e, hl, hv⟩⟩ := h
    · cases hv
    · cases hv
      rcases ex_of2 h0 hl with ⟨ht, rfl⟩ | ⟨ht, rfl⟩
      · refine ⟨17, ⟨[], [⟨0, 14, 21, 13⟩], ⟨0, 14, 17, 23⟩, _, rfl, ?_, by decide, by decide, kL_23C, kN_IndexOutOfBoundsException, rfl⟩, fun q9 => ?_⟩
        · intro z hz; cases hz
        · refine r_astore (lv' := (6, .ref q9) :: [(0, .ref (ad 254)), (1, .int p0), (2, .int p1), (3, .int p2), (4, .int p3), (5, .ref q)]) dL_secondsTo_17 (by decide) rfl ?_
          refine r_iconst (v := nI 1) dL_secondsTo_19 (by decide) ?_
          exact fR_iret dL_secondsTo_20 rfl (lPost_x hC1 hO hq hqa ht (by decide) (by decide) rfl)
      · refine ⟨21, ⟨[⟨0, 14, 17, 23⟩], [], ⟨0, 14, 21, 13⟩, _, rfl, ?_, by decide, by decide, kL_13C, kN_IllegalArgumentException, rfl⟩, fun q9 => ?_⟩
        · intro z hz
          simp only [List.mem_cons, List.not_mem_nil, or_false] at hz
          subst hz
          exact ⟨by decide, _, kL_23C, by decide⟩
        · refine r_astore (lv' := (6, .ref q9) :: [(0, .ref (ad 254)), (1, .int p0), (2, .int p1), (3, .int p2), (4, .int p3), (5, .ref q)]) dL_secondsTo_21 (by decide) rfl ?_
          refine r_iconst (v := nI 2) dL_secondsTo_23 (by decide) ?_
          exact fR_iret dL_secondsTo_24 rfl (lPost_x hC1 hO hq hqa ht (by decide) (by decide) rfl)
theorem tL_readyIn {l : Launch} {κ : KP} {M : Mem} {ad : Nat → Nat} {g tx : Nat → Int32} {dn n sn ln : Nat} {kp : Bool} (hA : aInj ad) (hC : ClsAt κ ad M ⟨g, sn, kp, tx, ln⟩ dn n) {p0 : Int32} {q : Nat} {f : Nat → Int64} (hq : M q = some (.inr (2, 1, .inr (.inl f)))) (hqa : ∀ t, t < 256 → q ≠ ad t) : fM l κ mL_readyIn [.ref (ad 254), .int p0, .ref q] M (lPost κ ad M q (oReadyIn ⟨g, sn, kp, tx, ln⟩ dn n p0)) := by
  refine fM_ofH rfl (by decide +kernel) (Nat.le_of_ble_eq_true rfl) ?_
  show fR l κ mL_readyIn 0 [(0, .ref (ad 254)), (1, .int p0), (2, .ref q)] [] M 1 6 _
  refine r_aload_n dL_readyIn_0 rfl ?_
  refine r_iconst (v := nI 0) dL_readyIn_1 (by decide) ?_
  refine r_aload_n dL_readyIn_2 rfl ?_
  refine r_iload_n dL_readyIn_3 rfl ?_
  refine fR_catchV (As := [.int p0]) dL_readyIn_4 (tX8_readyIn hA hC) rfl hC.1 rfl rfl oX8_readyIn rfl kL_101M nX8_readyIn eX8_readyIn (by unfold fRoom; decide) (Nat.le_of_ble_eq_true rfl) (fun v M1 h => ?_) (fun E M1 h => ?_)
  · obtain ⟨⟨dn', n', hC1⟩, hO, ⟨h0, hv⟩ | ⟨-, e, -, hv⟩⟩ := h
    · cases hv
      show fR _ _ _ 7 _ (.int (oReadyIn ⟨g, sn, kp, tx, ln⟩ dn n p0).2.1 :: .int (nI 0) :: .ref q :: []) _ _ _ _
      refine r_i2l dL_readyIn_7 ?_
      refine r_last dL_readyIn_8 ((hO q hqa).trans hq) (vp_in_nI (by omega) (by decide)) ?_
      refine r_goto (tgt := 15) dL_readyIn_9 (by decide) ?_
      refine r_iconst (v := nI 0) dL_readyIn_15 (by decide) ?_
      exact fR_iret dL_readyIn_16 rfl (lPost_0 hC1 hO hqa h0 (by rfl))
    · cases hv
  · obtain ⟨⟨dn', n', hC1⟩, hO, ⟨-, hv⟩ | ⟨h0, e, hl, hv⟩⟩ := h
    · cases hv
    · cases hv
      obtain ⟨ht, rfl⟩ := ex_of1 h0 hl
      refine ⟨12, ⟨[], [], ⟨0, 9, 12, 23⟩, _, rfl, ?_, by decide, by decide, kL_23C, kN_IndexOutOfBoundsException, rfl⟩, fun q9 => ?_⟩
      · intro z hz; cases hz
      · refine r_astore_n (lv' := (3, .ref q9) :: [(0, .ref (ad 254)), (1, .int p0), (2, .ref q)]) dL_readyIn_12 (by decide) rfl ?_
        refine r_iconst (v := nI 1) dL_readyIn_13 (by decide) ?_
        exact fR_iret dL_readyIn_14 rfl (lPost_x hC1 hO hq hqa ht (by decide) (by decide) rfl)
theorem tL_bestBath {l : Launch} {κ : KP} {M : Mem} {ad : Nat → Nat} {g tx : Nat → Int32} {dn n sn ln : Nat} {kp : Bool} (hA : aInj ad) (hC : ClsAt κ ad M ⟨g, sn, kp, tx, ln⟩ dn n) {p0 : Int32} {q : Nat} {f : Nat → Int64} (hq : M q = some (.inr (2, 1, .inr (.inl f)))) (hqa : ∀ t, t < 256 → q ≠ ad t) : fM l κ mL_bestBath [.ref (ad 254), .int p0, .ref q] M (lPost κ ad M q (oBestBath ⟨g, sn, kp, tx, ln⟩ dn n p0)) := by
  refine fM_ofH rfl (by decide +kernel) (Nat.le_of_ble_eq_true rfl) ?_
  show fR l κ mL_bestBath 0 [(0, .ref (ad 254)), (1, .int p0), (2, .ref q)] [] M 1 6 _
  refine r_aload_n dL_bestBath_0 rfl ?_
  refine r_iconst (v := nI 0) dL_bestBath_1 (by decide) ?_
  refine r_aload_n dL_bestBath_2 rfl ?_
  refine r_iload_n dL_bestBath_3 rfl ?_
  refine fR_catchV (As := [.int p0]) dL_bestBath_4 (tX8_bestBath hA hC) rfl hC.1 rfl rfl oX8_bestBath rfl kL_104M nX8_bestBath eX8_bestBath (by unfold fRoom; decide) (Nat.le_of_ble_eq_true rfl) (fun v M1 h => ?_) (fun E M1 h => ?_)
  · obtain ⟨⟨dn', n', hC1⟩, hO, ⟨h0, hv⟩ | ⟨-, e, -, hv⟩⟩ := h
    · cases hv
      show fR _ _ _ 7 _ (.int (oBestBath ⟨g, sn, kp, tx, ln⟩ dn n p0).2.1 :: .int (nI 0) :: .ref q :: []) _ _ _ _
      refine r_i2l dL_bestBath_7 ?_
      refine r_last dL_bestBath_8 ((hO q hqa).trans hq) (vp_in_nI (by omega) (by decide)) ?_
      refine r_goto (tgt := 15) dL_bestBath_9 (by decide) ?_
      refine r_iconst (v := nI 0) dL_bestBath_15 (by decide) ?_
      exact fR_iret dL_bestBath_16 rfl (lPost_0 hC1 hO hqa h0 (by rfl))
    · cases hv
  · obtain ⟨⟨dn', n', hC1⟩, hO, ⟨-, hv⟩ | ⟨h0, e, hl, hv⟩⟩ := h
    · cases hv
    · cases hv
      obtain ⟨ht, rfl⟩ := ex_of1 h0 hl
      refine ⟨12, ⟨[], [], ⟨0, 9, 12, 23⟩, _, rfl, ?_, by decide, by decide, kL_23C, kN_IndexOutOfBoundsException, rfl⟩, fun q9 => ?_⟩
      · intro z hz; cases hz
      · refine r_astore_n (lv' := (3, .ref q9) :: [(0, .ref (ad 254)), (1, .int p0), (2, .ref q)]) dL_bestBath_12 (by decide) rfl ?_
        refine r_iconst (v := nI 1) dL_bestBath_13 (by decide) ?_
        exact fR_iret dL_bestBath_14 rfl (lPost_x hC1 hO hq hqa ht (by decide) (by decide) rfl)
