/-! ONE PART OF THE ORDERS, a character at a time -/
def PtAt (κ : KP) (ad : Nat → Nat) (M : Mem) : MS → Prop
  | (lt, j, sl, tk, _, vs) => M (ad 250) = some (.inl (5, [.int (nI lt), .ref (kK κ j), .int (nI sl), .int (nI tk), .ref (ad 251)])) ∧ ∃ f, M (ad 251) = some (.inr (0, 6, .inl f)) ∧ ∀ i, i < 6 → f i = vs i
def OffP (ad : Nat → Nat) (M M' : Mem) : Prop := ∀ b, b ≠ ad 250 → b ≠ ad 251 → M' b = M b
theorem OffP.refl {ad : Nat → Nat} {M : Mem} : OffP ad M M := fun _ _ _ => rfl
theorem OffP.trans {ad : Nat → Nat} {M M1 M2 : Mem} (h : OffP ad M M1) (h2 : OffP ad M1 M2) : OffP ad M M2 := fun b a1 a2 => (h2 b a1 a2).trans (h b a1 a2)
theorem OffP.at {ad : Nat → Nat} {M M1 : Mem} (h : OffP ad M M1) (hA : aInj ad) {i : Nat} (hi : i < 256) (h1 : i ≠ 250) (h2 : i ≠ 251) : M1 (ad i) = M (ad i) := h _ (hA.ne hi (by omega) h1) (hA.ne hi (by omega) h2)
theorem enc_pos {cv tk : Nat} (h5 : cv ≤ 200 ∨ (cv = 1000 ∧ 0 < tk)) (h : 0 < encV cv) : encV cv = nI cv ∧ cv ≤ 200 ∧ ¬ cv = 0 := by
  unfold encV at h ⊢
  rcases h5 with h5 | h5
  · rw [if_neg (by omega)] at h ⊢
    refine ⟨rfl, h5, fun e => ?_⟩
    subst e; exact absurd h (by decide)
  · rw [if_pos h5.1] at h; exact absurd h (by decide)
theorem enc_npos {cv tk : Nat} (h5 : cv ≤ 200 ∨ (cv = 1000 ∧ 0 < tk)) (h : ¬ 0 < encV cv) : cv = 0 ∨ cv = 1000 := by
  rcases h5 with h5 | h5
  · left
    unfold encV at h
    rw [if_neg (by omega)] at h
    have : ¬ 0 < cv := fun q => h (by show nI 0 < nI cv; exact (nI_ltI (by omega) (by omega)).mpr q)
    omega
  · exact Or.inr h5.1
theorem enc_m1 {cv tk : Nat} (h5 : cv ≤ 200 ∨ (cv = 1000 ∧ 0 < tk)) : (encV cv = -1 → cv = 1000) ∧ (¬ encV cv = -1 → encV cv = nI cv ∧ cv ≤ 200) := by
  unfold encV
  rcases h5 with h5 | h5
  · rw [if_neg (by omega)]
    exact ⟨fun h => absurd h (nI_m1 (by omega)), fun _ => ⟨rfl, h5⟩⟩
  · rw [if_pos h5.1]
    exact ⟨fun _ => h5.1, fun h => absurd rfl h⟩
theorem tX5_slotKind {l : Launch} {κ : KP} {M : Mem} {ad : Nat → Nat} {lt j sl tk cv : Nat} {vs f : Nat → Int32} (hA : aInj ad) (hp : M (ad 250) = some (.inl (5, [.int (nI lt), .ref (kK κ j), .int (nI sl), .int (nI tk), .ref (ad 251)]))) (hf : M (ad 251) = some (.inr (0, 6, .inl f))) (hv : ∀ i, i < 6 → f i = vs i) (hI : MI (lt, j, sl, tk, cv, vs) 60) (hj0 : ¬ j = 0) : fM l κ mX5_slotKind [.ref (ad 250)] M (isI (nI (kd j sl)) M) := by
  refine fM_of rfl (by decide +kernel) (Nat.le_of_ble_eq_true rfl) ?_
  obtain ⟨h1, h2, h3, h4, h5, h6, h7, h8, h9⟩ := id hI
  have hsl := h4 hj0
  have h6L := sLen_lt h2
  have hkd := kd_lt j h2 sl (by omega)
  show fR l κ mX5_slotKind 0 [(0, .ref (ad 250))] [] M 0 0 _
  refine r_aload_n dX5_slotKind_0 rfl ?_
  refine r_get (k := 2) dX5_slotKind_1 hp rfl rfl (by decide) kX5_25F ?_
  refine r_aload_n dX5_slotKind_4 rfl ?_
  refine r_get (k := 1) dX5_slotKind_5 hp rfl rfl (by decide) kX5_11F ?_
  refine r_callStr (As := []) dX5_slotKind_8 (tJ0_length h2) rfl h2 rfl oJ0_length_8abf5 rfl kX5_48M nJ0_length_8abf5 eJ0_length_8abf5 (by unfold fRoom; decide) (Nat.le_of_ble_eq_true rfl) rfl (bc' := 0) (bs' := 0) rfl rfl ?_
  show fR _ _ _ 11 _ (.int (nI (sLen j)) :: _) _ _ _ _
  refine r_icmp_geN (tgt := 28) dX5_slotKind_11 (by decide) (by omega) (by omega) (fun c1 => ?_) (fun c1 => ?_)
  · skip
    exact absurd hsl (by omega)
  · skip
    refine r_aload_n dX5_slotKind_14 rfl ?_
    refine r_get (k := 1) dX5_slotKind_15 hp rfl rfl (by decide) kX5_11F ?_
    refine r_aload_n dX5_slotKind_18 rfl ?_
    refine r_get (k := 2) dX5_slotKind_19 hp rfl rfl (by decide) kX5_25F ?_
    refine r_callStr (As := [.int (nI (sl))]) dX5_slotKind_22 (tJ0_charAt h2 hsl) rfl h2 rfl oJ0_charAt_5068e rfl kX5_62M nJ0_charAt_5068e eJ0_charAt_5068e (by unfold fRoom; decide) (Nat.le_of_ble_eq_true rfl) rfl (bc' := 0) (bs' := 0) rfl rfl ?_
    show fR _ _ _ 25 _ (.int (nI (kd j sl)) :: _) _ _ _ _
    refine r_goto (tgt := 30) dX5_slotKind_25 (by decide) ?_
    exact fR_iret dX5_slotKind_30 rfl (isI_of (by rfl))
theorem tX5_sign_t {l : Launch} {κ : KP} {M : Mem} {ad : Nat → Nat} {lt j sl tk cv : Nat} {vs f : Nat → Int32} (hA : aInj ad) (hp : M (ad 250) = some (.inl (5, [.int (nI lt), .ref (kK κ j), .int (nI sl), .int (nI tk), .ref (ad 251)]))) (hf : M (ad 251) = some (.inr (0, 6, .inl f))) (hv : ∀ i, i < 6 → f i = vs i) (hI : MI (lt, j, sl, tk, cv, vs) 60) (hj0 : ¬ j = 0) {k c : Nat} (hk : k < 128) (hc : c < 128) (htk : tk = 0) (hkc : k = 66 ∨ c = k) : fM l κ mX5_fillWithSign [.ref (ad 250), .int (nI (k)), .int (nI (c))] M (isI (bI true) (fup (fup M (ad 251) (.inr (0, 6, .inl (upd f sl (-1))))) (ad 250) (.inl (5, [.int (nI lt), .ref (kK κ j), .int (nI sl), .int (nI 1), .ref (ad 251)])))) := by
  refine fM_of rfl (by decide +kernel) (Nat.le_of_ble_eq_true rfl) ?_
  obtain ⟨h1, h2, h3, h4, h5, h6, h7, h8, h9⟩ := id hI
  have hsl := h4 hj0
  have h6L := sLen_lt h2
  have hkd := kd_lt j h2 sl (by omega)
  show fR l κ mX5_fillWithSign 0 [(0, .ref (ad 250)), (1, .int (nI (k))), (2, .int (nI (c)))] [] M 0 0 _
  refine r_aload_n dX5_fillWithSign_0 rfl ?_
  refine r_get (k := 3) dX5_fillWithSign_1 hp rfl rfl (by decide) kX5_28F ?_
  refine r_if_gtN (tgt := 18) dX5_fillWithSign_4 (by decide) (by omega) (fun c1 => ?_) (fun c1 => ?_)
  · skip
    exact absurd htk (by omega)
  · skip
    refine r_iload_n dX5_fillWithSign_7 rfl ?_
    refine r_bipush (v := nI 66) dX5_fillWithSign_8 (by decide) ?_
    refine r_icmp_eqN (tgt := 20) dX5_fillWithSign_10 (by decide) (by omega) (by omega) (fun c2 => ?_) (fun c2 => ?_)
    · skip
      refine r_aload_n dX5_fillWithSign_20 rfl ?_
      refine r_get (k := 4) dX5_fillWithSign_21 hp rfl rfl (by decide) kX5_17F ?_
      refine r_aload_n dX5_fillWithSign_24 rfl ?_
      refine r_get (k := 2) dX5_fillWithSign_25 hp rfl rfl (by decide) kX5_25F ?_
      refine r_iconst (v := (-1)) dX5_fillWithSign_28 (by decide) ?_
      refine r_iastN dX5_fillWithSign_29 hf (by omega) (by decide) ?_
      refine r_aload_n dX5_fillWithSign_30 rfl ?_
      refine r_iconst (v := nI 1) dX5_fillWithSign_31 (by decide) ?_
      refine r_put (k := 3) (fs' := [.int (nI (lt)), .ref (kK κ j), .int (nI (sl)), .int (nI (1)), .ref (ad 251)]) dX5_fillWithSign_32 ((fup_ne (hA.ne (by omega) (by omega) (by omega))).trans hp) rfl (by decide) kX5_28F rfl rfl rfl (Nat.le_of_ble_eq_true rfl) rfl ?_
      refine r_iconst (v := nI 1) dX5_fillWithSign_35 (by decide) ?_
      exact fR_zret dX5_fillWithSign_36 rfl rfl (isI_of (by rfl))
    · skip
      refine r_iload_n dX5_fillWithSign_13 rfl ?_
      refine r_iload_n dX5_fillWithSign_14 rfl ?_
      refine r_icmp_eqN (tgt := 20) dX5_fillWithSign_15 (by decide) (by omega) (by omega) (fun c3 => ?_) (fun c3 => ?_)
      · skip
        refine r_aload_n dX5_fillWithSign_20 rfl ?_
        refine r_get (k := 4) dX5_fillWithSign_21 hp rfl rfl (by decide) kX5_17F ?_
        refine r_aload_n dX5_fillWithSign_24 rfl ?_
        refine r_get (k := 2) dX5_fillWithSign_25 hp rfl rfl (by decide) kX5_25F ?_
        refine r_iconst (v := (-1)) dX5_fillWithSign_28 (by decide) ?_
        refine r_iastN dX5_fillWithSign_29 hf (by omega) (by decide) ?_
        refine r_aload_n dX5_fillWithSign_30 rfl ?_
        refine r_iconst (v := nI 1) dX5_fillWithSign_31 (by decide) ?_
        refine r_put (k := 3) (fs' := [.int (nI (lt)), .ref (kK κ j), .int (nI (sl)), .int (nI (1)), .ref (ad 251)]) dX5_fillWithSign_32 ((fup_ne (hA.ne (by omega) (by omega) (by omega))).trans hp) rfl (by decide) kX5_28F rfl rfl rfl (Nat.le_of_ble_eq_true rfl) rfl ?_
        refine r_iconst (v := nI 1) dX5_fillWithSign_35 (by decide) ?_
        exact fR_zret dX5_fillWithSign_36 rfl rfl (isI_of (by rfl))
      · skip
        exact absurd hkc (by omega)
theorem tX5_sign_f {l : Launch} {κ : KP} {M : Mem} {ad : Nat → Nat} {lt j sl tk cv : Nat} {vs f : Nat → Int32} (hA : aInj ad) (hp : M (ad 250) = some (.inl (5, [.int (nI lt), .ref (kK κ j), .int (nI sl), .int (nI tk), .ref (ad 251)]))) (hf : M (ad 251) = some (.inr (0, 6, .inl f))) (hv : ∀ i, i < 6 → f i = vs i) (hI : MI (lt, j, sl, tk, cv, vs) 60) (hj0 : ¬ j = 0) {k c : Nat} (hk : k < 128) (hc : c < 128) (h : 0 < tk ∨ (k ≠ 66 ∧ c ≠ k)) : fM l κ mX5_fillWithSign [.ref (ad 250), .int (nI (k)), .int (nI (c))] M (isI (bI false) M) := by
  refine fM_of rfl (by decide +kernel) (Nat.le_of_ble_eq_true rfl) ?_
  obtain ⟨h1, h2, h3, h4, h5, h6, h7, h8, h9⟩ := id hI
  have hsl := h4 hj0
  have h6L := sLen_lt h2
  have hkd := kd_lt j h2 sl (by omega)
  show fR l κ mX5_fillWithSign 0 [(0, .ref (ad 250)), (1, .int (nI (k))), (2, .int (nI (c)))] [] M 0 0 _
  refine r_aload_n dX5_fillWithSign_0 rfl ?_
  refine r_get (k := 3) dX5_fillWithSign_1 hp rfl rfl (by decide) kX5_28F ?_
  refine r_if_gtN (tgt := 18) dX5_fillWithSign_4 (by decide) (by omega) (fun c1 => ?_) (fun c1 => ?_)
  · skip
    refine r_iconst (v := nI 0) dX5_fillWithSign_18 (by decide) ?_
    exact fR_zret dX5_fillWithSign_19 rfl rfl (isI_of (by rfl))
  · skip
    refine r_iload_n dX5_fillWithSign_7 rfl ?_
    refine r_bipush (v := nI 66) dX5_fillWithSign_8 (by decide) ?_
    refine r_icmp_eqN (tgt := 20) dX5_fillWithSign_10 (by decide) (by omega) (by omega) (fun c2 => ?_) (fun c2 => ?_)
    · skip
      exact absurd h (by omega)
    · skip
      refine r_iload_n dX5_fillWithSign_13 rfl ?_
      refine r_iload_n dX5_fillWithSign_14 rfl ?_
      refine r_icmp_eqN (tgt := 20) dX5_fillWithSign_15 (by decide) (by omega) (by omega) (fun c3 => ?_) (fun c3 => ?_)
      · skip
        exact absurd h (by omega)
      · skip
        refine r_iconst (v := nI 0) dX5_fillWithSign_18 (by decide) ?_
        exact fR_zret dX5_fillWithSign_19 rfl rfl (isI_of (by rfl))
def fillP (ad : Nat → Nat) (κ : KP) (M : Mem) (lt j sl tk cv c : Nat) (f : Nat → Int32) : FPost := fun o M' => (∀ v, fillN (kd j sl) tk cv c = some v → o = .inl (some (.int (bI true))) ∧ M' = (fup (fup M (ad 251) (.inr (0, 6, .inl (upd f sl (encV v))))) (ad 250) (.inl (5, [.int (nI lt), .ref (kK κ j), .int (nI sl), .int (nI (tk + 1)), .ref (ad 251)])))) ∧ (fillN (kd j sl) tk cv c = none → o = .inl (some (.int (bI false))) ∧ M' = M)
theorem fillP_t {ad : Nat → Nat} {κ : KP} {M : Mem} {lt j sl tk cv c v : Nat} {f : Nat → Int32} (e : fillN (kd j sl) tk cv c = some v) : fillP ad κ M lt j sl tk cv c f (.inl (some (.int (bI true)))) (fup (fup M (ad 251) (.inr (0, 6, .inl (upd f sl (encV v))))) (ad 250) (.inl (5, [.int (nI lt), .ref (kK κ j), .int (nI sl), .int (nI (tk + 1)), .ref (ad 251)]))) :=
  ⟨fun w h => (by rw [e] at h; cases h; exact ⟨rfl, rfl⟩), fun h => (by rw [e] at h; cases h)⟩
theorem fillP_f {ad : Nat → Nat} {κ : KP} {M : Mem} {lt j sl tk cv c : Nat} {f : Nat → Int32} (e : fillN (kd j sl) tk cv c = none) : fillP ad κ M lt j sl tk cv c f (.inl (some (.int (bI false)))) M :=
  ⟨fun w h => (by rw [e] at h; cases h), fun _ => ⟨rfl, rfl⟩⟩
theorem fill_sg {k tk v c : Nat} (h : k = 42 ∨ k = 47 ∨ (k = 66 ∧ c = 45)) : fillN k tk v c = (if 0 < tk ∨ (k ≠ 66 ∧ c ≠ k) then none else some 1000) := if_pos h
theorem fill_dg {k tk v c : Nat} (h : ¬ (k = 42 ∨ k = 47 ∨ (k = 66 ∧ c = 45))) : fillN k tk v c = (if c < 48 ∨ 57 < c ∨ (0 < tk ∧ (v = 0 ∨ v = 1000)) then none else if canN (v * 10 + (c - 48)) (lstK k) (mstK k) = true then some (v * 10 + (c - 48)) else none) := if_neg h
theorem tX5_fillSlot {l : Launch} {κ : KP} {M : Mem} {ad : Nat → Nat} {lt j sl tk cv : Nat} {vs f : Nat → Int32} (hA : aInj ad) (hp : M (ad 250) = some (.inl (5, [.int (nI lt), .ref (kK κ j), .int (nI sl), .int (nI tk), .ref (ad 251)]))) (hf : M (ad 251) = some (.inr (0, 6, .inl f))) (hv : ∀ i, i < 6 → f i = vs i) (hI : MI (lt, j, sl, tk, cv, vs) 60) (hj0 : ¬ j = 0) {c : Nat} (hc : c < 128) : fM l κ mX5_fillSlot [.ref (ad 250), .int (nI (c))] M (fillP ad κ M lt j sl tk cv c f) := by
  refine fM_of rfl (by decide +kernel) (Nat.le_of_ble_eq_true rfl) ?_
  obtain ⟨h1, h2, h3, h4, h5, h6, h7, h8, h9⟩ := id hI
  have hsl := h4 hj0
  have h6L := sLen_lt h2
  have hkd := kd_lt j h2 sl (by omega)
  show fR l κ mX5_fillSlot 0 [(0, .ref (ad 250)), (1, .int (nI (c)))] [] M 0 0 _
  refine r_aload_n dX5_fillSlot_0 rfl ?_
  refine r_callV (As := []) dX5_fillSlot_1 (tX5_slotKind hA hp hf hv hI hj0) rfl hp rfl rfl oX5_slotKind rfl kX5_66M nX5_slotKind eX5_slotKind (by unfold fRoom; decide) (Nat.le_of_ble_eq_true rfl) rfl (bc' := 0) (bs' := 0) rfl rfl ?_
  show fR _ _ _ 4 _ (.int (nI (kd j sl)) :: _) _ _ _ _
  refine r_istore_n (lv' := [(2, .int (nI (kd j sl))), (0, .ref (ad 250)), (1, .int (nI (c)))]) dX5_fillSlot_4 (by decide) rfl ?_
  refine r_iload_n dX5_fillSlot_5 rfl ?_
  refine r_bipush (v := nI 42) dX5_fillSlot_6 (by decide) ?_
  refine r_icmp_eqN (tgt := 29) dX5_fillSlot_8 (by decide) (by omega) (by omega) (fun c1 => ?_) (fun c1 => ?_)
  · skip
    refine r_aload_n dX5_fillSlot_29 rfl ?_
    refine r_iload_n dX5_fillSlot_30 rfl ?_
    refine r_iload_n dX5_fillSlot_31 rfl ?_
    by_cases c2 : 0 < tk ∨ (kd j sl ≠ 66 ∧ c ≠ kd j sl)
    · skip
      refine r_callV (As := [.int (nI (kd j sl)), .int (nI (c))]) dX5_fillSlot_32 (tX5_sign_f hA hp hf hv hI hj0 (by omega) (by omega) c2) rfl hp rfl rfl oX5_fillWithSign rfl kX5_69M nX5_fillWithSign eX5_fillWithSign (by unfold fRoom; decide) (Nat.le_of_ble_eq_true rfl) rfl (bc' := 0) (bs' := 0) rfl rfl ?_
      show fR _ _ _ 35 _ (.int (bI (false)) :: _) _ _ _ _
      exact r_zretB dX5_fillSlot_35 rfl (fillP_f ((fill_sg (by omega)).trans (if_pos (by assumption))))
    · skip
      have htk : tk = 0 := by omega
      refine r_callV (As := [.int (nI (kd j sl)), .int (nI (c))]) dX5_fillSlot_32 (tX5_sign_t hA hp hf hv hI hj0 (by omega) (by omega) htk (by omega)) rfl hp rfl rfl oX5_fillWithSign rfl kX5_69M nX5_fillWithSign eX5_fillWithSign (by unfold fRoom; decide) (Nat.le_of_ble_eq_true rfl) rfl (bc' := 0) (bs' := 0) rfl rfl ?_
      show fR _ _ _ 35 _ (.int (bI (true)) :: _) _ _ _ _
      subst htk
      exact r_zretB dX5_fillSlot_35 rfl (fillP_t (v := 1000) ((fill_sg (by omega)).trans (if_neg (by assumption))))
  · skip
    refine r_iload_n dX5_fillSlot_11 rfl ?_
    refine r_bipush (v := nI 47) dX5_fillSlot_12 (by decide) ?_
    refine r_icmp_eqN (tgt := 29) dX5_fillSlot_14 (by decide) (by omega) (by omega) (fun c3 => ?_) (fun c3 => ?_)
    · skip
      refine r_aload_n dX5_fillSlot_29 rfl ?_
      refine r_iload_n dX5_fillSlot_30 rfl ?_
      refine r_iload_n dX5_fillSlot_31 rfl ?_
      by_cases c4 : 0 < tk ∨ (kd j sl ≠ 66 ∧ c ≠ kd j sl)
      · skip
        refine r_callV (As := [.int (nI (kd j sl)), .int (nI (c))]) dX5_fillSlot_32 (tX5_sign_f hA hp hf hv hI hj0 (by omega) (by omega) c4) rfl hp rfl rfl oX5_fillWithSign rfl kX5_69M nX5_fillWithSign eX5_fillWithSign (by unfold fRoom; decide) (Nat.le_of_ble_eq_true rfl) rfl (bc' := 0) (bs' := 0) rfl rfl ?_
        show fR _ _ _ 35 _ (.int (bI (false)) :: _) _ _ _ _
        exact r_zretB dX5_fillSlot_35 rfl (fillP_f ((fill_sg (by omega)).trans (if_pos (by assumption))))
      · skip
        have htk : tk = 0 := by omega
        refine r_callV (As := [.int (nI (kd j sl)), .int (nI (c))]) dX5_fillSlot_32 (tX5_sign_t hA hp hf hv hI hj0 (by omega) (by omega) htk (by omega)) rfl hp rfl rfl oX5_fillWithSign rfl kX5_69M nX5_fillWithSign eX5_fillWithSign (by unfold fRoom; decide) (Nat.le_of_ble_eq_true rfl) rfl (bc' := 0) (bs' := 0) rfl rfl ?_
        show fR _ _ _ 35 _ (.int (bI (true)) :: _) _ _ _ _
        subst htk
        exact r_zretB dX5_fillSlot_35 rfl (fillP_t (v := 1000) ((fill_sg (by omega)).trans (if_neg (by assumption))))
    · skip
      refine r_iload_n dX5_fillSlot_17 rfl ?_
      refine r_bipush (v := nI 66) dX5_fillSlot_18 (by decide) ?_
      refine r_icmp_neN (tgt := 36) dX5_fillSlot_20 (by decide) (by omega) (by omega) (fun c5 => ?_) (fun c5 => ?_)
      · skip
        refine r_iload_n dX5_fillSlot_36 rfl ?_
        refine r_bipush (v := nI 48) dX5_fillSlot_37 (by decide) ?_
        refine r_icmp_ltN (tgt := 67) dX5_fillSlot_39 (by decide) (by omega) (by omega) (fun c6 => ?_) (fun c6 => ?_)
        · skip
          refine r_iconst (v := nI 0) dX5_fillSlot_67 (by decide) ?_
          exact fR_zret dX5_fillSlot_68 rfl rfl (fillP_f ((fill_dg (by omega)).trans (if_pos (Or.inl (by omega)))))
        · skip
          refine r_iload_n dX5_fillSlot_42 rfl ?_
          refine r_bipush (v := nI 57) dX5_fillSlot_43 (by decide) ?_
          refine r_icmp_gtN (tgt := 67) dX5_fillSlot_45 (by decide) (by omega) (by omega) (fun c7 => ?_) (fun c7 => ?_)
          · skip
            refine r_iconst (v := nI 0) dX5_fillSlot_67 (by decide) ?_
            exact fR_zret dX5_fillSlot_68 rfl rfl (fillP_f ((fill_dg (by omega)).trans (if_pos (Or.inr (Or.inl (by omega))))))
          · skip
            refine r_aload_n dX5_fillSlot_48 rfl ?_
            refine r_get (k := 3) dX5_fillSlot_49 hp rfl rfl (by decide) kX5_28F ?_
            refine r_if_leN (tgt := 69) dX5_fillSlot_52 (by decide) (by omega) (fun c8 => ?_) (fun c8 => ?_)
            · skip
              have ecv : encV cv = nI cv := by rw [h6 (by omega)]; rfl
              have ecv2 : cv = 0 := h6 (by omega)
              refine r_aload_n dX5_fillSlot_69 rfl ?_
              refine r_get (k := 4) dX5_fillSlot_70 hp rfl rfl (by decide) kX5_17F ?_
              refine r_aload_n dX5_fillSlot_73 rfl ?_
              refine r_get (k := 2) dX5_fillSlot_74 hp rfl rfl (by decide) kX5_25F ?_
              refine r_ialdN dX5_fillSlot_77 hf (by omega) (by decide) ((hv _ (by omega)).trans h8) ?_
              refine r_top (y := (nI (cv))) ecv ?_
              refine r_bipush (v := nI 10) dX5_fillSlot_78 (by decide) ?_
              refine r_imulN dX5_fillSlot_80 ?_
              refine r_iload_n dX5_fillSlot_81 rfl ?_
              refine r_bipush (v := nI 48) dX5_fillSlot_82 (by decide) ?_
              refine r_isubN dX5_fillSlot_84 (by omega) ?_
              refine r_iaddN dX5_fillSlot_85 ?_
              refine r_istore_n (lv' := [(3, .int (nI (((cv * 10) + (c - 48))))), (2, .int (nI (kd j sl))), (0, .ref (ad 250)), (1, .int (nI (c)))]) dX5_fillSlot_86 (by decide) rfl ?_
              refine r_iload_n dX5_fillSlot_87 rfl ?_
              refine r_iload_n dX5_fillSlot_88 rfl ?_
              refine r_callS (As := [.int (nI (kd j sl))]) dX5_fillSlot_89 (tX5_least (by omega)) rfl oX5_least rfl kX5_73M sX5_least (by unfold fRoom; decide) (Nat.le_of_ble_eq_true rfl) rfl (bc' := 0) (bs' := 0) rfl rfl ?_
              show fR _ _ _ 92 _ (.int (nI (lstK (kd j sl))) :: _) _ _ _ _
              refine r_iload_n dX5_fillSlot_92 rfl ?_
              refine r_callS (As := [.int (nI (kd j sl))]) dX5_fillSlot_93 (tX5_most (by omega)) rfl oX5_most rfl kX5_77M sX5_most (by unfold fRoom; decide) (Nat.le_of_ble_eq_true rfl) rfl (bc' := 0) (bs' := 0) rfl rfl ?_
              show fR _ _ _ 96 _ (.int (nI (mstK (kd j sl))) :: _) _ _ _ _
              have hl9 := lstK_le (k := kd j sl)
              have hm9 := mstK_le (k := kd j sl)
              refine r_callS (As := [.int (nI (((cv * 10) + (c - 48)))), .int (nI (lstK (kd j sl))), .int (nI (mstK (kd j sl)))]) dX5_fillSlot_96 (tX5_canBecome (by omega) hl9 hm9) rfl oX5_canBecome rfl kX5_80M sX5_canBecome (by unfold fRoom; decide) (Nat.le_of_ble_eq_true rfl) rfl (bc' := 0) (bs' := 0) rfl rfl ?_
              show fR _ _ _ 99 _ (.int (bI (canN (cv * 10 + (c - 48)) (lstK (kd j sl)) (mstK (kd j sl)))) :: _) _ _ _ _
              refine r_if_neB (tgt := 104) dX5_fillSlot_99 (by decide) (fun c9 => ?_) (fun c9 => ?_)
              · skip
                refine r_aload_n dX5_fillSlot_104 rfl ?_
                refine r_get (k := 4) dX5_fillSlot_105 hp rfl rfl (by decide) kX5_17F ?_
                refine r_aload_n dX5_fillSlot_108 rfl ?_
                refine r_get (k := 2) dX5_fillSlot_109 hp rfl rfl (by decide) kX5_25F ?_
                refine r_iload_n dX5_fillSlot_112 rfl ?_
                refine r_iastN dX5_fillSlot_113 hf (by omega) (by decide) ?_
                refine r_aload_n dX5_fillSlot_114 rfl ?_
                refine r_dup dX5_fillSlot_115 rfl ?_
                refine r_get (k := 3) dX5_fillSlot_116 ((fup_ne (hA.ne (by omega) (by omega) (by omega))).trans hp) rfl rfl (by decide) kX5_28F ?_
                refine r_iconst (v := nI 1) dX5_fillSlot_119 (by decide) ?_
                refine r_iaddN dX5_fillSlot_120 ?_
                refine r_put (k := 3) (fs' := [.int (nI (lt)), .ref (kK κ j), .int (nI (sl)), .int (nI ((tk + 1))), .ref (ad 251)]) dX5_fillSlot_121 ((fup_ne (hA.ne (by omega) (by omega) (by omega))).trans hp) rfl (by decide) kX5_28F rfl rfl rfl (Nat.le_of_ble_eq_true rfl) rfl ?_
                refine r_iconst (v := nI 1) dX5_fillSlot_124 (by decide) ?_
                have hcm := canN_le (by assumption : canN (cv * 10 + (c - 48)) (lstK (kd j sl)) (mstK (kd j sl)) = true)
                have e : fillN (kd j sl) tk cv c = some (cv * 10 + (c - 48)) := (fill_dg (by omega)).trans ((if_neg (fun z => z.elim (by omega) (fun z => z.elim (by omega) (fun z => by omega)))).trans (if_pos (by assumption)))
                refine r_mem (M1 := (fup (fup M (ad 251) (.inr (0, 6, .inl (upd f sl (encV (cv * 10 + (c - 48))))))) (ad 250) (.inl (5, [.int (nI lt), .ref (kK κ j), .int (nI sl), .int (nI (tk + 1)), .ref (ad 251)])))) (by rw [show encV (cv * 10 + (c - 48)) = nI (cv * 10 + (c - 48)) from if_neg (by omega)]) ?_
                exact fR_zret dX5_fillSlot_125 rfl rfl (fillP_t e)
              · skip
                refine r_iconst (v := nI 0) dX5_fillSlot_102 (by decide) ?_
                exact fR_zret dX5_fillSlot_103 rfl rfl (fillP_f ((fill_dg (by omega)).trans ((if_neg (fun z => z.elim (by omega) (fun z => z.elim (by omega) (fun z => by omega)))).trans (if_neg (bne_of (by assumption))))))
            · skip
              refine r_aload_n dX5_fillSlot_55 rfl ?_
              refine r_get (k := 4) dX5_fillSlot_56 hp rfl rfl (by decide) kX5_17F ?_
              refine r_aload_n dX5_fillSlot_59 rfl ?_
              refine r_get (k := 2) dX5_fillSlot_60 hp rfl rfl (by decide) kX5_25F ?_
              refine r_ialdN dX5_fillSlot_63 hf (by omega) (by decide) ((hv _ (by omega)).trans h8) ?_
              refine r_if_gt (tgt := 69) dX5_fillSlot_64 (by decide) (fun c10 => ?_) (fun c10 => ?_)
              · skip
                obtain ⟨ecv, ecv2, ecv3⟩ := enc_pos h5 (by assumption)
                refine r_aload_n dX5_fillSlot_69 rfl ?_
                refine r_get (k := 4) dX5_fillSlot_70 hp rfl rfl (by decide) kX5_17F ?_
                refine r_aload_n dX5_fillSlot_73 rfl ?_
                refine r_get (k := 2) dX5_fillSlot_74 hp rfl rfl (by decide) kX5_25F ?_
                refine r_ialdN dX5_fillSlot_77 hf (by omega) (by decide) ((hv _ (by omega)).trans h8) ?_
                refine r_top (y := (nI (cv))) ecv ?_
                refine r_bipush (v := nI 10) dX5_fillSlot_78 (by decide) ?_
                refine r_imulN dX5_fillSlot_80 ?_
                refine r_iload_n dX5_fillSlot_81 rfl ?_
                refine r_bipush (v := nI 48) dX5_fillSlot_82 (by decide) ?_
                refine r_isubN dX5_fillSlot_84 (by omega) ?_
                refine r_iaddN dX5_fillSlot_85 ?_
                refine r_istore_n (lv' := [(3, .int (nI (((cv * 10) + (c - 48))))), (2, .int (nI (kd j sl))), (0, .ref (ad 250)), (1, .int (nI (c)))]) dX5_fillSlot_86 (by decide) rfl ?_
                refine r_iload_n dX5_fillSlot_87 rfl ?_
                refine r_iload_n dX5_fillSlot_88 rfl ?_
                refine r_callS (As := [.int (nI (kd j sl))]) dX5_fillSlot_89 (tX5_least (by omega)) rfl oX5_least rfl kX5_73M sX5_least (by unfold fRoom; decide) (Nat.le_of_ble_eq_true rfl) rfl (bc' := 0) (bs' := 0) rfl rfl ?_
                show fR _ _ _ 92 _ (.int (nI (lstK (kd j sl))) :: _) _ _ _ _
                refine r_iload_n dX5_fillSlot_92 rfl ?_
                refine r_callS (As := [.int (nI (kd j sl))]) dX5_fillSlot_93 (tX5_most (by omega)) rfl oX5_most rfl kX5_77M sX5_most (by unfold fRoom; decide) (Nat.le_of_ble_eq_true rfl) rfl (bc' := 0) (bs' := 0) rfl rfl ?_
                show fR _ _ _ 96 _ (.int (nI (mstK (kd j sl))) :: _) _ _ _ _
                have hl9 := lstK_le (k := kd j sl)
                have hm9 := mstK_le (k := kd j sl)
                refine r_callS (As := [.int (nI (((cv * 10) + (c - 48)))), .int (nI (lstK (kd j sl))), .int (nI (mstK (kd j sl)))]) dX5_fillSlot_96 (tX5_canBecome (by omega) hl9 hm9) rfl oX5_canBecome rfl kX5_80M sX5_canBecome (by unfold fRoom; decide) (Nat.le_of_ble_eq_true rfl) rfl (bc' := 0) (bs' := 0) rfl rfl ?_
                show fR _ _ _ 99 _ (.int (bI (canN (cv * 10 + (c - 48)) (lstK (kd j sl)) (mstK (kd j sl)))) :: _) _ _ _ _
                refine r_if_neB (tgt := 104) dX5_fillSlot_99 (by decide) (fun c11 => ?_) (fun c11 => ?_)
                · skip
                  refine r_aload_n dX5_fillSlot_104 rfl ?_
                  refine r_get (k := 4) dX5_fillSlot_105 hp rfl rfl (by decide) kX5_17F ?_
                  refine r_aload_n dX5_fillSlot_108 rfl ?_
                  refine r_get (k := 2) dX5_fillSlot_109 hp rfl rfl (by decide) kX5_25F ?_
                  refine r_iload_n dX5_fillSlot_112 rfl ?_
                  refine r_iastN dX5_fillSlot_113 hf (by omega) (by decide) ?_
                  refine r_aload_n dX5_fillSlot_114 rfl ?_
                  refine r_dup dX5_fillSlot_115 rfl ?_
                  refine r_get (k := 3) dX5_fillSlot_116 ((fup_ne (hA.ne (by omega) (by omega) (by omega))).trans hp) rfl rfl (by decide) kX5_28F ?_
                  refine r_iconst (v := nI 1) dX5_fillSlot_119 (by decide) ?_
                  refine r_iaddN dX5_fillSlot_120 ?_
                  refine r_put (k := 3) (fs' := [.int (nI (lt)), .ref (kK κ j), .int (nI (sl)), .int (nI ((tk + 1))), .ref (ad 251)]) dX5_fillSlot_121 ((fup_ne (hA.ne (by omega) (by omega) (by omega))).trans hp) rfl (by decide) kX5_28F rfl rfl rfl (Nat.le_of_ble_eq_true rfl) rfl ?_
                  refine r_iconst (v := nI 1) dX5_fillSlot_124 (by decide) ?_
                  have hcm := canN_le (by assumption : canN (cv * 10 + (c - 48)) (lstK (kd j sl)) (mstK (kd j sl)) = true)
                  have e : fillN (kd j sl) tk cv c = some (cv * 10 + (c - 48)) := (fill_dg (by omega)).trans ((if_neg (fun z => z.elim (by omega) (fun z => z.elim (by omega) (fun z => by omega)))).trans (if_pos (by assumption)))
                  refine r_mem (M1 := (fup (fup M (ad 251) (.inr (0, 6, .inl (upd f sl (encV (cv * 10 + (c - 48))))))) (ad 250) (.inl (5, [.int (nI lt), .ref (kK κ j), .int (nI sl), .int (nI (tk + 1)), .ref (ad 251)])))) (by rw [show encV (cv * 10 + (c - 48)) = nI (cv * 10 + (c - 48)) from if_neg (by omega)]) ?_
                  exact fR_zret dX5_fillSlot_125 rfl rfl (fillP_t e)
                · skip
                  refine r_iconst (v := nI 0) dX5_fillSlot_102 (by decide) ?_
                  exact fR_zret dX5_fillSlot_103 rfl rfl (fillP_f ((fill_dg (by omega)).trans ((if_neg (fun z => z.elim (by omega) (fun z => z.elim (by omega) (fun z => by omega)))).trans (if_neg (bne_of (by assumption))))))
              · skip
                refine r_iconst (v := nI 0) dX5_fillSlot_67 (by decide) ?_
                exact fR_zret dX5_fillSlot_68 rfl rfl (fillP_f ((fill_dg (by omega)).trans (if_pos (Or.inr (Or.inr ⟨by omega, enc_npos h5 (by assumption)⟩)))))
      · skip
        refine r_iload_n dX5_fillSlot_23 rfl ?_
        refine r_bipush (v := nI 45) dX5_fillSlot_24 (by decide) ?_
        refine r_icmp_neN (tgt := 36) dX5_fillSlot_26 (by decide) (by omega) (by omega) (fun c12 => ?_) (fun c12 => ?_)
        · skip
          refine r_iload_n dX5_fillSlot_36 rfl ?_
          refine r_bipush (v := nI 48) dX5_fillSlot_37 (by decide) ?_
          refine r_icmp_ltN (tgt := 67) dX5_fillSlot_39 (by decide) (by omega) (by omega) (fun c13 => ?_) (fun c13 => ?_)
          · skip
            refine r_iconst (v := nI 0) dX5_fillSlot_67 (by decide) ?_
            exact fR_zret dX5_fillSlot_68 rfl rfl (fillP_f ((fill_dg (by omega)).trans (if_pos (Or.inl (by omega)))))
          · skip
            refine r_iload_n dX5_fillSlot_42 rfl ?_
            refine r_bipush (v := nI 57) dX5_fillSlot_43 (by decide) ?_
            refine r_icmp_gtN (tgt := 67) dX5_fillSlot_45 (by decide) (by omega) (by omega) (fun c14 => ?_) (fun c14 => ?_)
            · skip
              refine r_iconst (v := nI 0) dX5_fillSlot_67 (by decide) ?_
              exact fR_zret dX5_fillSlot_68 rfl rfl (fillP_f ((fill_dg (by omega)).trans (if_pos (Or.inr (Or.inl (by omega))))))
            · skip
              refine r_aload_n dX5_fillSlot_48 rfl ?_
              refine r_get (k := 3) dX5_fillSlot_49 hp rfl rfl (by decide) kX5_28F ?_
              refine r_if_leN (tgt := 69) dX5_fillSlot_52 (by decide) (by omega) (fun c15 => ?_) (fun c15 => ?_)
              · skip
                have ecv : encV cv = nI cv := by rw [h6 (by omega)]; rfl
                have ecv2 : cv = 0 := h6 (by omega)
                refine r_aload_n dX5_fillSlot_69 rfl ?_
                refine r_get (k := 4) dX5_fillSlot_70 hp rfl rfl (by decide) kX5_17F ?_
                refine r_aload_n dX5_fillSlot_73 rfl ?_
                refine r_get (k := 2) dX5_fillSlot_74 hp rfl rfl (by decide) kX5_25F ?_
                refine r_ialdN dX5_fillSlot_77 hf (by omega) (by decide) ((hv _ (by omega)).trans h8) ?_
                refine r_top (y := (nI (cv))) ecv ?_
                refine r_bipush (v := nI 10) dX5_fillSlot_78 (by decide) ?_
                refine r_imulN dX5_fillSlot_80 ?_
                refine r_iload_n dX5_fillSlot_81 rfl ?_
                refine r_bipush (v := nI 48) dX5_fillSlot_82 (by decide) ?_
                refine r_isubN dX5_fillSlot_84 (by omega) ?_
                refine r_iaddN dX5_fillSlot_85 ?_
                refine r_istore_n (lv' := [(3, .int (nI (((cv * 10) + (c - 48))))), (2, .int (nI (kd j sl))), (0, .ref (ad 250)), (1, .int (nI (c)))]) dX5_fillSlot_86 (by decide) rfl ?_
                refine r_iload_n dX5_fillSlot_87 rfl ?_
                refine r_iload_n dX5_fillSlot_88 rfl ?_
                refine r_callS (As := [.int (nI (kd j sl))]) dX5_fillSlot_89 (tX5_least (by omega)) rfl oX5_least rfl kX5_73M sX5_least (by unfold fRoom; decide) (Nat.le_of_ble_eq_true rfl) rfl (bc' := 0) (bs' := 0) rfl rfl ?_
                show fR _ _ _ 92 _ (.int (nI (lstK (kd j sl))) :: _) _ _ _ _
                refine r_iload_n dX5_fillSlot_92 rfl ?_
                refine r_callS (As := [.int (nI (kd j sl))]) dX5_fillSlot_93 (tX5_most (by omega)) rfl oX5_most rfl kX5_77M sX5_most (by unfold fRoom; decide) (Nat.le_of_ble_eq_true rfl) rfl (bc' := 0) (bs' := 0) rfl rfl ?_
                show fR _ _ _ 96 _ (.int (nI (mstK (kd j sl))) :: _) _ _ _ _
                have hl9 := lstK_le (k := kd j sl)
                have hm9 := mstK_le (k := kd j sl)
                refine r_callS (As := [.int (nI (((cv * 10) + (c - 48)))), .int (nI (lstK (kd j sl))), .int (nI (mstK (kd j sl)))]) dX5_fillSlot_96 (tX5_canBecome (by omega) hl9 hm9) rfl oX5_canBecome rfl kX5_80M sX5_canBecome (by unfold fRoom; decide) (Nat.le_of_ble_eq_true rfl) rfl (bc' := 0) (bs' := 0) rfl rfl ?_
                show fR _ _ _ 99 _ (.int (bI (canN (cv * 10 + (c - 48)) (lstK (kd j sl)) (mstK (kd j sl)))) :: _) _ _ _ _
                refine r_if_neB (tgt := 104) dX5_fillSlot_99 (by decide) (fun c16 => ?_) (fun c16 => ?_)
                · skip
                  refine r_aload_n dX5_fillSlot_104 rfl ?_
                  refine r_get (k := 4) dX5_fillSlot_105 hp rfl rfl (by decide) kX5_17F ?_
                  refine r_aload_n dX5_fillSlot_108 rfl ?_
                  refine r_get (k := 2) dX5_fillSlot_109 hp rfl rfl (by decide) kX5_25F ?_
                  refine r_iload_n dX5_fillSlot_112 rfl ?_
                  refine r_iastN dX5_fillSlot_113 hf (by omega) (by decide) ?_
                  refine r_aload_n dX5_fillSlot_114 rfl ?_
                  refine r_dup dX5_fillSlot_115 rfl ?_
                  refine r_get (k := 3) dX5_fillSlot_116 ((fup_ne (hA.ne (by omega) (by omega) (by omega))).trans hp) rfl rfl (by decide) kX5_28F ?_
                  refine r_iconst (v := nI 1) dX5_fillSlot_119 (by decide) ?_
                  refine r_iaddN dX5_fillSlot_120 ?_
                  refine r_put (k := 3) (fs' := [.int (nI (lt)), .ref (kK κ j), .int (nI (sl)), .int (nI ((tk + 1))), .ref (ad 251)]) dX5_fillSlot_121 ((fup_ne (hA.ne (by omega) (by omega) (by omega))).trans hp) rfl (by decide) kX5_28F rfl rfl rfl (Nat.le_of_ble_eq_true rfl) rfl ?_
                  refine r_iconst (v := nI 1) dX5_fillSlot_124 (by decide) ?_
                  have hcm := canN_le (by assumption : canN (cv * 10 + (c - 48)) (lstK (kd j sl)) (mstK (kd j sl)) = true)
                  have e : fillN (kd j sl) tk cv c = some (cv * 10 + (c - 48)) := (fill_dg (by omega)).trans ((if_neg (fun z => z.elim (by omega) (fun z => z.elim (by omega) (fun z => by omega)))).trans (if_pos (by assumption)))
                  refine r_mem (M1 := (fup (fup M (ad 251) (.inr (0, 6, .inl (upd f sl (encV (cv * 10 + (c - 48))))))) (ad 250) (.inl (5, [.int (nI lt), .ref (kK κ j), .int (nI sl), .int (nI (tk + 1)), .ref (ad 251)])))) (by rw [show encV (cv * 10 + (c - 48)) = nI (cv * 10 + (c - 48)) from if_neg (by omega)]) ?_
                  exact fR_zret dX5_fillSlot_125 rfl rfl (fillP_t e)
                · skip
                  refine r_iconst (v := nI 0) dX5_fillSlot_102 (by decide) ?_
                  exact fR_zret dX5_fillSlot_103 rfl rfl (fillP_f ((fill_dg (by omega)).trans ((if_neg (fun z => z.elim (by omega) (fun z => z.elim (by omega) (fun z => by omega)))).trans (if_neg (bne_of (by assumption))))))
              · skip
                refine r_aload_n dX5_fillSlot_55 rfl ?_
                refine r_get (k := 4) dX5_fillSlot_56 hp rfl rfl (by decide) kX5_17F ?_
                refine r_aload_n dX5_fillSlot_59 rfl ?_
                refine r_get (k := 2) dX5_fillSlot_60 hp rfl rfl (by decide) kX5_25F ?_
                refine r_ialdN dX5_fillSlot_63 hf (by omega) (by decide) ((hv _ (by omega)).trans h8) ?_
                refine r_if_gt (tgt := 69) dX5_fillSlot_64 (by decide) (fun c17 => ?_) (fun c17 => ?_)
                · skip
                  obtain ⟨ecv, ecv2, ecv3⟩ := enc_pos h5 (by assumption)
                  refine r_aload_n dX5_fillSlot_69 rfl ?_
                  refine r_get (k := 4) dX5_fillSlot_70 hp rfl rfl (by decide) kX5_17F ?_
                  refine r_aload_n dX5_fillSlot_73 rfl ?_
                  refine r_get (k := 2) dX5_fillSlot_74 hp rfl rfl (by decide) kX5_25F ?_
                  refine r_ialdN dX5_fillSlot_77 hf (by omega) (by decide) ((hv _ (by omega)).trans h8) ?_
                  refine r_top (y := (nI (cv))) ecv ?_
                  refine r_bipush (v := nI 10) dX5_fillSlot_78 (by decide) ?_
                  refine r_imulN dX5_fillSlot_80 ?_
                  refine r_iload_n dX5_fillSlot_81 rfl ?_
                  refine r_bipush (v := nI 48) dX5_fillSlot_82 (by decide) ?_
                  refine r_isubN dX5_fillSlot_84 (by omega) ?_
                  refine r_iaddN dX5_fillSlot_85 ?_
                  refine r_istore_n (lv' := [(3, .int (nI (((cv * 10) + (c - 48))))), (2, .int (nI (kd j sl))), (0, .ref (ad 250)), (1, .int (nI (c)))]) dX5_fillSlot_86 (by decide) rfl ?_
                  refine r_iload_n dX5_fillSlot_87 rfl ?_
                  refine r_iload_n dX5_fillSlot_88 rfl ?_
                  refine r_callS (As := [.int (nI (kd j sl))]) dX5_fillSlot_89 (tX5_least (by omega)) rfl oX5_least rfl kX5_73M sX5_least (by unfold fRoom; decide) (Nat.le_of_ble_eq_true rfl) rfl (bc' := 0) (bs' := 0) rfl rfl ?_
                  show fR _ _ _ 92 _ (.int (nI (lstK (kd j sl))) :: _) _ _ _ _
                  refine r_iload_n dX5_fillSlot_92 rfl ?_
                  refine r_callS (As := [.int (nI (kd j sl))]) dX5_fillSlot_93 (tX5_most (by omega)) rfl oX5_most rfl kX5_77M sX5_most (by unfold fRoom; decide) (Nat.le_of_ble_eq_true rfl) rfl (bc' := 0) (bs' := 0) rfl rfl ?_
                  show fR _ _ _ 96 _ (.int (nI (mstK (kd j sl))) :: _) _ _ _ _
                  have hl9 := lstK_le (k := kd j sl)
                  have hm9 := mstK_le (k := kd j sl)
                  refine r_callS (As := [.int (nI (((cv * 10) + (c - 48)))), .int (nI (lstK (kd j sl))), .int (nI (mstK (kd j sl)))]) dX5_fillSlot_96 (tX5_canBecome (by omega) hl9 hm9) rfl oX5_canBecome rfl kX5_80M sX5_canBecome (by unfold fRoom; decide) (Nat.le_of_ble_eq_true rfl) rfl (bc' := 0) (bs' := 0) rfl rfl ?_
                  show fR _ _ _ 99 _ (.int (bI (canN (cv * 10 + (c - 48)) (lstK (kd j sl)) (mstK (kd j sl)))) :: _) _ _ _ _
                  refine r_if_neB (tgt := 104) dX5_fillSlot_99 (by decide) (fun c18 => ?_) (fun c18 => ?_)
                  · skip
                    refine r_aload_n dX5_fillSlot_104 rfl ?_
                    refine r_get (k := 4) dX5_fillSlot_105 hp rfl rfl (by decide) kX5_17F ?_
                    refine r_aload_n dX5_fillSlot_108 rfl ?_
                    refine r_get (k := 2) dX5_fillSlot_109 hp rfl rfl (by decide) kX5_25F ?_
                    refine r_iload_n dX5_fillSlot_112 rfl ?_
                    refine r_iastN dX5_fillSlot_113 hf (by omega) (by decide) ?_
                    refine r_aload_n dX5_fillSlot_114 rfl ?_
                    refine r_dup dX5_fillSlot_115 rfl ?_
                    refine r_get (k := 3) dX5_fillSlot_116 ((fup_ne (hA.ne (by omega) (by omega) (by omega))).trans hp) rfl rfl (by decide) kX5_28F ?_
                    refine r_iconst (v := nI 1) dX5_fillSlot_119 (by decide) ?_
                    refine r_iaddN dX5_fillSlot_120 ?_
                    refine r_put (k := 3) (fs' := [.int (nI (lt)), .ref (kK κ j), .int (nI (sl)), .int (nI ((tk + 1))), .ref (ad 251)]) dX5_fillSlot_121 ((fup_ne (hA.ne (by omega) (by omega) (by omega))).trans hp) rfl (by decide) kX5_28F rfl rfl rfl (Nat.le_of_ble_eq_true rfl) rfl ?_
                    refine r_iconst (v := nI 1) dX5_fillSlot_124 (by decide) ?_
                    have hcm := canN_le (by assumption : canN (cv * 10 + (c - 48)) (lstK (kd j sl)) (mstK (kd j sl)) = true)
                    have e : fillN (kd j sl) tk cv c = some (cv * 10 + (c - 48)) := (fill_dg (by omega)).trans ((if_neg (fun z => z.elim (by omega) (fun z => z.elim (by omega) (fun z => by omega)))).trans (if_pos (by assumption)))
                    refine r_mem (M1 := (fup (fup M (ad 251) (.inr (0, 6, .inl (upd f sl (encV (cv * 10 + (c - 48))))))) (ad 250) (.inl (5, [.int (nI lt), .ref (kK κ j), .int (nI sl), .int (nI (tk + 1)), .ref (ad 251)])))) (by rw [show encV (cv * 10 + (c - 48)) = nI (cv * 10 + (c - 48)) from if_neg (by omega)]) ?_
                    exact fR_zret dX5_fillSlot_125 rfl rfl (fillP_t e)
                  · skip
                    refine r_iconst (v := nI 0) dX5_fillSlot_102 (by decide) ?_
                    exact fR_zret dX5_fillSlot_103 rfl rfl (fillP_f ((fill_dg (by omega)).trans ((if_neg (fun z => z.elim (by omega) (fun z => z.elim (by omega) (fun z => by omega)))).trans (if_neg (bne_of (by assumption))))))
                · skip
                  refine r_iconst (v := nI 0) dX5_fillSlot_67 (by decide) ?_
                  exact fR_zret dX5_fillSlot_68 rfl rfl (fillP_f ((fill_dg (by omega)).trans (if_pos (Or.inr (Or.inr ⟨by omega, enc_npos h5 (by assumption)⟩)))))
        · skip
          refine r_aload_n dX5_fillSlot_29 rfl ?_
          refine r_iload_n dX5_fillSlot_30 rfl ?_
          refine r_iload_n dX5_fillSlot_31 rfl ?_
          by_cases c19 : 0 < tk ∨ (kd j sl ≠ 66 ∧ c ≠ kd j sl)
          · skip
            refine r_callV (As := [.int (nI (kd j sl)), .int (nI (c))]) dX5_fillSlot_32 (tX5_sign_f hA hp hf hv hI hj0 (by omega) (by omega) c19) rfl hp rfl rfl oX5_fillWithSign rfl kX5_69M nX5_fillWithSign eX5_fillWithSign (by unfold fRoom; decide) (Nat.le_of_ble_eq_true rfl) rfl (bc' := 0) (bs' := 0) rfl rfl ?_
            show fR _ _ _ 35 _ (.int (bI (false)) :: _) _ _ _ _
            exact r_zretB dX5_fillSlot_35 rfl (fillP_f ((fill_sg (by omega)).trans (if_pos (by assumption))))
          · skip
            have htk : tk = 0 := by omega
            refine r_callV (As := [.int (nI (kd j sl)), .int (nI (c))]) dX5_fillSlot_32 (tX5_sign_t hA hp hf hv hI hj0 (by omega) (by omega) htk (by omega)) rfl hp rfl rfl oX5_fillWithSign rfl kX5_69M nX5_fillWithSign eX5_fillWithSign (by unfold fRoom; decide) (Nat.le_of_ble_eq_true rfl) rfl (bc' := 0) (bs' := 0) rfl rfl ?_
            show fR _ _ _ 35 _ (.int (bI (true)) :: _) _ _ _ _
            subst htk
            exact r_zretB dX5_fillSlot_35 rfl (fillP_t (v := 1000) ((fill_sg (by omega)).trans (if_neg (by assumption))))
theorem tX5_full {l : Launch} {κ : KP} {M : Mem} {ad : Nat → Nat} {lt j sl tk cv : Nat} {vs f : Nat → Int32} (hA : aInj ad) (hp : M (ad 250) = some (.inl (5, [.int (nI lt), .ref (kK κ j), .int (nI sl), .int (nI tk), .ref (ad 251)]))) (hf : M (ad 251) = some (.inr (0, 6, .inl f))) (hv : ∀ i, i < 6 → f i = vs i) (hI : MI (lt, j, sl, tk, cv, vs) 60) (hj0 : ¬ j = 0) : fM l κ mX5_isSlotFull [.ref (ad 250)] M (isI (bI (fullN (kd j sl) tk cv)) M) := by
  refine fM_of rfl (by decide +kernel) (Nat.le_of_ble_eq_true rfl) ?_
  obtain ⟨h1, h2, h3, h4, h5, h6, h7, h8, h9⟩ := id hI
  have hsl := h4 hj0
  have h6L := sLen_lt h2
  have hkd := kd_lt j h2 sl (by omega)
  show fR l κ mX5_isSlotFull 0 [(0, .ref (ad 250))] [] M 0 0 _
  refine r_aload_n dX5_isSlotFull_0 rfl ?_
  refine r_get (k := 3) dX5_isSlotFull_1 hp rfl rfl (by decide) kX5_28F ?_
  refine r_if_neN (tgt := 9) dX5_isSlotFull_4 (by decide) (by omega) (fun c1 => ?_) (fun c1 => ?_)
  · skip
    refine r_aload_n dX5_isSlotFull_9 rfl ?_
    refine r_get (k := 4) dX5_isSlotFull_10 hp rfl rfl (by decide) kX5_17F ?_
    refine r_aload_n dX5_isSlotFull_13 rfl ?_
    refine r_get (k := 2) dX5_isSlotFull_14 hp rfl rfl (by decide) kX5_25F ?_
    refine r_ialdN dX5_isSlotFull_17 hf (by omega) (by decide) ((hv _ (by omega)).trans h8) ?_
    refine r_istore_n (lv' := [(1, .int (encV cv)), (0, .ref (ad 250))]) dX5_isSlotFull_18 (by decide) rfl ?_
    refine r_aload_n dX5_isSlotFull_19 rfl ?_
    refine r_callV (As := []) dX5_isSlotFull_20 (tX5_slotKind hA hp hf hv hI hj0) rfl hp rfl rfl oX5_slotKind rfl kX5_66M nX5_slotKind eX5_slotKind (by unfold fRoom; decide) (Nat.le_of_ble_eq_true rfl) rfl (bc' := 0) (bs' := 0) rfl rfl ?_
    show fR _ _ _ 23 _ (.int (nI (kd j sl)) :: _) _ _ _ _
    refine r_istore_n (lv' := [(2, .int (nI (kd j sl))), (1, .int (encV cv)), (0, .ref (ad 250))]) dX5_isSlotFull_23 (by decide) rfl ?_
    refine r_iload_n dX5_isSlotFull_24 rfl ?_
    refine r_iconst (v := (-1)) dX5_isSlotFull_25 (by decide) ?_
    refine r_icmp_eq (tgt := 45) dX5_isSlotFull_26 (by decide) (fun c2 => ?_) (fun c2 => ?_)
    · skip
      refine r_iconst (v := nI 1) dX5_isSlotFull_45 (by decide) ?_
      refine r_goto (tgt := 50) dX5_isSlotFull_46 (by decide) ?_
      exact fR_zret dX5_isSlotFull_50 rfl rfl (isI_of (bJ_t (decide_eq_true (⟨by omega, Or.inl ((enc_m1 h5).1 (by assumption))⟩))))
    · skip
      obtain ⟨ecv, ecv2⟩ := (enc_m1 h5).2 (by assumption)
      have hl9 := lstK_le (k := kd j sl)
      have hm9 := mstK_le (k := kd j sl)
      refine r_lv (lv' := [(2, .int (nI (kd j sl))), (1, .int (nI cv)), (0, .ref (ad 250))]) (by simp [ecv]) ?_
      refine r_iload_n dX5_isSlotFull_29 rfl ?_
      refine r_iload_n dX5_isSlotFull_30 rfl ?_
      refine r_callS (As := [.int (nI (kd j sl))]) dX5_isSlotFull_31 (tX5_least (by omega)) rfl oX5_least rfl kX5_73M sX5_least (by unfold fRoom; decide) (Nat.le_of_ble_eq_true rfl) rfl (bc' := 0) (bs' := 0) rfl rfl ?_
      show fR _ _ _ 34 _ (.int (nI (lstK (kd j sl))) :: _) _ _ _ _
      refine r_icmp_ltN (tgt := 49) dX5_isSlotFull_34 (by decide) (by omega) (by omega) (fun c3 => ?_) (fun c3 => ?_)
      · skip
        refine r_iconst (v := nI 0) dX5_isSlotFull_49 (by decide) ?_
        exact fR_zret dX5_isSlotFull_50 rfl rfl (isI_of (bJ_f (decide_eq_false (fun z => by omega))))
      · skip
        refine r_iload_n dX5_isSlotFull_37 rfl ?_
        refine r_iload_n dX5_isSlotFull_38 rfl ?_
        refine r_callS (As := [.int (nI (kd j sl))]) dX5_isSlotFull_39 (tX5_most (by omega)) rfl oX5_most rfl kX5_77M sX5_most (by unfold fRoom; decide) (Nat.le_of_ble_eq_true rfl) rfl (bc' := 0) (bs' := 0) rfl rfl ?_
        show fR _ _ _ 42 _ (.int (nI (mstK (kd j sl))) :: _) _ _ _ _
        refine r_icmp_gtN (tgt := 49) dX5_isSlotFull_42 (by decide) (by omega) (by omega) (fun c4 => ?_) (fun c4 => ?_)
        · skip
          refine r_iconst (v := nI 0) dX5_isSlotFull_49 (by decide) ?_
          exact fR_zret dX5_isSlotFull_50 rfl rfl (isI_of (bJ_f (decide_eq_false (fun z => by omega))))
        · skip
          refine r_iconst (v := nI 1) dX5_isSlotFull_45 (by decide) ?_
          refine r_goto (tgt := 50) dX5_isSlotFull_46 (by decide) ?_
          exact fR_zret dX5_isSlotFull_50 rfl rfl (isI_of (bJ_t (decide_eq_true (⟨by omega, Or.inr ⟨by omega, by omega⟩⟩))))
  · skip
    refine r_iconst (v := nI 0) dX5_isSlotFull_7 (by decide) ?_
    exact fR_zret dX5_isSlotFull_8 rfl rfl (isI_of (bJ_f (decide_eq_false (fun z => by omega))))
theorem tX5_complete {l : Launch} {κ : KP} {M : Mem} {ad : Nat → Nat} {lt j sl tk cv : Nat} {vs f : Nat → Int32} (hA : aInj ad) (hp : M (ad 250) = some (.inl (5, [.int (nI lt), .ref (kK κ j), .int (nI sl), .int (nI tk), .ref (ad 251)]))) (hf : M (ad 251) = some (.inr (0, 6, .inl f))) (hv : ∀ i, i < 6 → f i = vs i) (hI : MI (lt, j, sl, tk, cv, vs) 60) : fM l κ mX5_isComplete [.ref (ad 250)] M (isI (bI (cmpN (lt, j, sl, tk, cv, vs))) M) := by
  refine fM_of rfl (by decide +kernel) (Nat.le_of_ble_eq_true rfl) ?_
  obtain ⟨h1, h2, h3, h4, h5, h6, h7, h8, h9⟩ := id hI
  have h6L := sLen_lt h2
  show fR l κ mX5_isComplete 0 [(0, .ref (ad 250))] [] M 0 0 _
  refine r_aload_n dX5_isComplete_0 rfl ?_
  refine r_get (k := 1) dX5_isComplete_1 hp rfl rfl (by decide) kX5_11F ?_
  refine r_callStr (As := []) dX5_isComplete_4 (tJ0_isEmpty h2) rfl h2 rfl oJ0_isEmpty_aae02 rfl kX5_31M nJ0_isEmpty_aae02 eJ0_isEmpty_aae02 (by unfold fRoom; decide) (Nat.le_of_ble_eq_true rfl) rfl (bc' := 0) (bs' := 0) rfl rfl ?_
  show fR _ _ _ 7 _ (.int (bI (decide (j = 0))) :: _) _ _ _ _
  refine r_if_neB (tgt := 37) dX5_isComplete_7 (by decide) (fun c1 => ?_) (fun c1 => ?_)
  · skip
    refine r_iconst (v := nI 0) dX5_isComplete_37 (by decide) ?_
    exact fR_zret dX5_isComplete_38 rfl rfl (isI_of (bJ_f (decide_eq_false (fun z => z.1 (of_decide_eq_true (by assumption))))))
  · skip
    have hj0 : ¬ j = 0 := of_decide_eq_false (by assumption)
    have hsl := h4 hj0
    refine r_aload_n dX5_isComplete_10 rfl ?_
    refine r_get (k := 2) dX5_isComplete_11 hp rfl rfl (by decide) kX5_25F ?_
    refine r_iconst (v := nI 1) dX5_isComplete_14 (by decide) ?_
    refine r_iaddN dX5_isComplete_15 ?_
    refine r_aload_n dX5_isComplete_16 rfl ?_
    refine r_get (k := 1) dX5_isComplete_17 hp rfl rfl (by decide) kX5_11F ?_
    refine r_callStr (As := []) dX5_isComplete_20 (tJ0_length h2) rfl h2 rfl oJ0_length_8abf5 rfl kX5_48M nJ0_length_8abf5 eJ0_length_8abf5 (by unfold fRoom; decide) (Nat.le_of_ble_eq_true rfl) rfl (bc' := 0) (bs' := 0) rfl rfl ?_
    show fR _ _ _ 23 _ (.int (nI (sLen j)) :: _) _ _ _ _
    refine r_icmp_neN (tgt := 37) dX5_isComplete_23 (by decide) (by omega) (by omega) (fun c2 => ?_) (fun c2 => ?_)
    · skip
      refine r_iconst (v := nI 0) dX5_isComplete_37 (by decide) ?_
      exact fR_zret dX5_isComplete_38 rfl rfl (isI_of (bJ_f (decide_eq_false (fun z => by omega))))
    · skip
      refine r_aload_n dX5_isComplete_26 rfl ?_
      refine r_callV (As := []) dX5_isComplete_27 (tX5_full hA hp hf hv hI hj0) rfl hp rfl rfl oX5_isSlotFull rfl kX5_45M nX5_isSlotFull eX5_isSlotFull (by unfold fRoom; decide) (Nat.le_of_ble_eq_true rfl) rfl (bc' := 0) (bs' := 0) rfl rfl ?_
      show fR _ _ _ 30 _ (.int (bI (fullN (kd j sl) tk cv)) :: _) _ _ _ _
      refine r_if_eqB (tgt := 37) dX5_isComplete_30 (by decide) (fun c3 => ?_) (fun c3 => ?_)
      · skip
        refine r_iconst (v := nI 0) dX5_isComplete_37 (by decide) ?_
        exact fR_zret dX5_isComplete_38 rfl rfl (isI_of (bJ_f (decide_eq_false (fun z => absurd z.2.2 (bne_of (by assumption))))))
      · skip
        refine r_iconst (v := nI 1) dX5_isComplete_33 (by decide) ?_
        refine r_goto (tgt := 38) dX5_isComplete_34 (by decide) ?_
        exact fR_zret dX5_isComplete_38 rfl rfl (isI_of (bJ_t (decide_eq_true ⟨hj0, by omega, by assumption⟩)))
theorem tX5_clear {l : Launch} {κ : KP} {M : Mem} {ad : Nat → Nat} {jq : Nat} {x0 x2 x3 : Int32} {f : Nat → Int32} (hA : aInj ad) (hp : M (ad 250) = some (.inl (5, [.int x0, .ref (kK κ jq), .int x2, .int x3, .ref (ad 251)]))) (hf : M (ad 251) = some (.inr (0, 6, .inl f))) : fM l κ mX5_clear [.ref (ad 250)] M ((fun o M' => o = .inl none ∧ PtAt κ ad M' clrS ∧ OffP ad M M')) := by
  refine fM_of rfl (by decide +kernel) (Nat.le_of_ble_eq_true rfl) ?_
  show fR l κ mX5_clear 0 [(0, .ref (ad 250))] [] M 0 0 _
  refine r_aload_n dX5_clear_0 rfl ?_
  refine r_bipush (v := nI 32) dX5_clear_1 (by decide) ?_
  refine r_put (k := 0) (fs' := [.int (nI (32)), .ref (kK κ jq), .int (x2), .int (x3), .ref (ad 251)]) dX5_clear_3 hp rfl (by decide) kX5_21F rfl rfl rfl (Nat.le_of_ble_eq_true rfl) rfl ?_
  refine r_aload_n dX5_clear_6 rfl ?_
  refine r_ldcS (j := 0) (tx := "") dX5_clear_7 (List.mem_of_getElem? (i := 0) rfl) ?_
  refine r_put (k := 1) (fs' := [.int (nI (32)), .ref (kK κ 0), .int (x2), .int (x3), .ref (ad 251)]) dX5_clear_9 fup_eq rfl (by decide) kX5_11F rfl rfl rfl (Nat.le_of_ble_eq_true rfl) rfl ?_
  refine r_mem fup_fup ?_
  refine r_aload_n dX5_clear_12 rfl ?_
  refine r_iconst (v := nI 0) dX5_clear_13 (by decide) ?_
  refine r_put (k := 2) (fs' := [.int (nI (32)), .ref (kK κ 0), .int (nI (0)), .int (x3), .ref (ad 251)]) dX5_clear_14 fup_eq rfl (by decide) kX5_25F rfl rfl rfl (Nat.le_of_ble_eq_true rfl) rfl ?_
  refine r_mem fup_fup ?_
  refine r_aload_n dX5_clear_17 rfl ?_
  refine r_iconst (v := nI 0) dX5_clear_18 (by decide) ?_
  refine r_put (k := 3) (fs' := [.int (nI (32)), .ref (kK κ 0), .int (nI (0)), .int (nI (0)), .ref (ad 251)]) dX5_clear_19 fup_eq rfl (by decide) kX5_28F rfl rfl rfl (Nat.le_of_ble_eq_true rfl) rfl ?_
  refine r_mem fup_fup ?_
  refine r_iconst (v := nI 0) dX5_clear_22 (by decide) ?_
  refine r_istore_n (lv' := [(1, .int (nI (0))), (0, .ref (ad 250))]) dX5_clear_23 (by decide) rfl ?_
  refine r_iload_n dX5_clear_24 rfl ?_
  refine r_bipush (v := nI 6) dX5_clear_25 (by decide) ?_
  refine r_icmp_geN (tgt := 43) dX5_clear_27 (by decide) (by omega) (by omega) (fun c1 => absurd c1 (by omega)) (fun c1 => ?_)
  refine r_aload_n dX5_clear_30 rfl ?_
  refine r_get (k := 4) dX5_clear_31 fup_eq rfl rfl (by decide) kX5_17F ?_
  refine r_iload_n dX5_clear_34 rfl ?_
  refine r_iconst (v := nI 0) dX5_clear_35 (by decide) ?_
  refine r_iastN dX5_clear_36 ((fup_ne (hA.ne (by omega) (by omega) (by omega))).trans hf) (by omega) (by decide) ?_
  refine r_iinc (v := (nI (0 + 1))) (lv' := [(1, .int (nI (0 + 1))), (0, .ref (ad 250))]) dX5_clear_37 rfl (nI_inc _) (by decide) rfl ?_
  refine r_goto (tgt := 24) dX5_clear_40 (by decide) ?_
  refine r_iload_n dX5_clear_24 rfl ?_
  refine r_bipush (v := nI 6) dX5_clear_25 (by decide) ?_
  refine r_icmp_geN (tgt := 43) dX5_clear_27 (by decide) (by omega) (by omega) (fun c2 => absurd c2 (by omega)) (fun c2 => ?_)
  refine r_aload_n dX5_clear_30 rfl ?_
  refine r_get (k := 4) dX5_clear_31 ((fup_ne (hA.ne (by omega) (by omega) (by omega))).trans fup_eq) rfl rfl (by decide) kX5_17F ?_
  refine r_iload_n dX5_clear_34 rfl ?_
  refine r_iconst (v := nI 0) dX5_clear_35 (by decide) ?_
  refine r_iastN dX5_clear_36 fup_eq (by omega) (by decide) ?_
  refine r_mem fup_fup ?_
  refine r_iinc (v := (nI (0 + 1 + 1))) (lv' := [(1, .int (nI (0 + 1 + 1))), (0, .ref (ad 250))]) dX5_clear_37 rfl (nI_inc _) (by decide) rfl ?_
  refine r_goto (tgt := 24) dX5_clear_40 (by decide) ?_
  refine r_iload_n dX5_clear_24 rfl ?_
  refine r_bipush (v := nI 6) dX5_clear_25 (by decide) ?_
  refine r_icmp_geN (tgt := 43) dX5_clear_27 (by decide) (by omega) (by omega) (fun c3 => absurd c3 (by omega)) (fun c3 => ?_)
  refine r_aload_n dX5_clear_30 rfl ?_
  refine r_get (k := 4) dX5_clear_31 ((fup_ne (hA.ne (by omega) (by omega) (by omega))).trans fup_eq) rfl rfl (by decide) kX5_17F ?_
  refine r_iload_n dX5_clear_34 rfl ?_
  refine r_iconst (v := nI 0) dX5_clear_35 (by decide) ?_
  refine r_iastN dX5_clear_36 fup_eq (by omega) (by decide) ?_
  refine r_mem fup_fup ?_
  refine r_iinc (v := (nI (0 + 1 + 1 + 1))) (lv' := [(1, .int (nI (0 + 1 + 1 + 1))), (0, .ref (ad 250))]) dX5_clear_37 rfl (nI_inc _) (by decide) rfl ?_
  refine r_goto (tgt := 24) dX5_clear_40 (by decide) ?_
  refine r_iload_n dX5_clear_24 rfl ?_
  refine r_bipush (v := nI 6) dX5_clear_25 (by decide) ?_
  refine r_icmp_geN (tgt := 43) dX5_clear_27 (by decide) (by omega) (by omega) (fun c4 => absurd c4 (by omega)) (fun c4 => ?_)
  refine r_aload_n dX5_clear_30 rfl ?_
  refine r_get (k := 4) dX5_clear_31 ((fup_ne (hA.ne (by omega) (by omega) (by omega))).trans fup_eq) rfl rfl (by decide) kX5_17F ?_
  refine r_iload_n dX5_clear_34 rfl ?_
  refine r_iconst (v := nI 0) dX5_clear_35 (by decide) ?_
  refine r_iastN dX5_clear_36 fup_eq (by omega) (by decide) ?_
  refine r_mem fup_fup ?_
  refine r_iinc (v := (nI (0 + 1 + 1 + 1 + 1))) (lv' := [(1, .int (nI (0 + 1 + 1 + 1 + 1))), (0, .ref (ad 250))]) dX5_clear_37 rfl (nI_inc _) (by decide) rfl ?_
  refine r_goto (tgt := 24) dX5_clear_40 (by decide) ?_
  refine r_iload_n dX5_clear_24 rfl ?_
  refine r_bipush (v := nI 6) dX5_clear_25 (by decide) ?_
  refine r_icmp_geN (tgt := 43) dX5_clear_27 (by decide) (by omega) (by omega) (fun c5 => absurd c5 (by omega)) (fun c5 => ?_)
  refine r_aload_n dX5_clear_30 rfl ?_
  refine r_get (k := 4) dX5_clear_31 ((fup_ne (hA.ne (by omega) (by omega) (by omega))).trans fup_eq) rfl rfl (by decide) kX5_17F ?_
  refine r_iload_n dX5_clear_34 rfl ?_
  refine r_iconst (v := nI 0) dX5_clear_35 (by decide) ?_
  refine r_iastN dX5_clear_36 fup_eq (by omega) (by decide) ?_
  refine r_mem fup_fup ?_
  refine r_iinc (v := (nI (0 + 1 + 1 + 1 + 1 + 1))) (lv' := [(1, .int (nI (0 + 1 + 1 + 1 + 1 + 1))), (0, .ref (ad 250))]) dX5_clear_37 rfl (nI_inc _) (by decide) rfl ?_
  refine r_goto (tgt := 24) dX5_clear_40 (by decide) ?_
  refine r_iload_n dX5_clear_24 rfl ?_
  refine r_bipush (v := nI 6) dX5_clear_25 (by decide) ?_
  refine r_icmp_geN (tgt := 43) dX5_clear_27 (by decide) (by omega) (by omega) (fun c6 => absurd c6 (by omega)) (fun c6 => ?_)
  refine r_aload_n dX5_clear_30 rfl ?_
  refine r_get (k := 4) dX5_clear_31 ((fup_ne (hA.ne (by omega) (by omega) (by omega))).trans fup_eq) rfl rfl (by decide) kX5_17F ?_
  refine r_iload_n dX5_clear_34 rfl ?_
  refine r_iconst (v := nI 0) dX5_clear_35 (by decide) ?_
  refine r_iastN dX5_clear_36 fup_eq (by omega) (by decide) ?_
  refine r_mem fup_fup ?_
  refine r_iinc (v := (nI (0 + 1 + 1 + 1 + 1 + 1 + 1))) (lv' := [(1, .int (nI (0 + 1 + 1 + 1 + 1 + 1 + 1))), (0, .ref (ad 250))]) dX5_clear_37 rfl (nI_inc _) (by decide) rfl ?_
  refine r_goto (tgt := 24) dX5_clear_40 (by decide) ?_
  refine r_iload_n dX5_clear_24 rfl ?_
  refine r_bipush (v := nI 6) dX5_clear_25 (by decide) ?_
  refine r_icmp_geN (tgt := 43) dX5_clear_27 (by decide) (by omega) (by omega) (fun c7 => ?_) (fun c7 => absurd c7 (by omega))
  refine fR_vret dX5_clear_43 rfl ⟨rfl, ⟨(fup_ne (hA.ne (by omega) (by omega) (by omega))).trans fup_eq, _, fup_eq, fun i hi => ?_⟩, fun b a1 a2 => (fup_ne a2).trans (fup_ne a1)⟩
  have hc : i = 0 ∨ i = 1 ∨ i = 2 ∨ i = 3 ∨ i = 4 ∨ i = 5 := by omega
  rcases hc with rfl | rfl | rfl | rfl | rfl | rfl <;> rfl
theorem tX5_fill_t {l : Launch} {κ : KP} {M : Mem} {ad : Nat → Nat} {lt j sl tk cv : Nat} {vs f : Nat → Int32} (hA : aInj ad) (hp : M (ad 250) = some (.inl (5, [.int (nI lt), .ref (kK κ j), .int (nI sl), .int (nI tk), .ref (ad 251)]))) (hf : M (ad 251) = some (.inr (0, 6, .inl f))) (hv : ∀ i, i < 6 → f i = vs i) (hI : MI (lt, j, sl, tk, cv, vs) 60) (hj0 : ¬ j = 0) {c v : Nat} (hc : c < 128) (e : fillN (kd j sl) tk cv c = some v) : fM l κ mX5_fillSlot [.ref (ad 250), .int (nI c)] M (isI (bI true) (fup (fup M (ad 251) (.inr (0, 6, .inl (upd f sl (encV v))))) (ad 250) (.inl (5, [.int (nI lt), .ref (kK κ j), .int (nI sl), .int (nI (tk + 1)), .ref (ad 251)])))) := fM.mono (tX5_fillSlot hA hp hf hv hI hj0 hc) (fun o M' h => h.1 v e)
theorem tX5_fill_f {l : Launch} {κ : KP} {M : Mem} {ad : Nat → Nat} {lt j sl tk cv : Nat} {vs f : Nat → Int32} (hA : aInj ad) (hp : M (ad 250) = some (.inl (5, [.int (nI lt), .ref (kK κ j), .int (nI sl), .int (nI tk), .ref (ad 251)]))) (hf : M (ad 251) = some (.inr (0, 6, .inl f))) (hv : ∀ i, i < 6 → f i = vs i) (hI : MI (lt, j, sl, tk, cv, vs) 60) (hj0 : ¬ j = 0) {c : Nat} (hc : c < 128) (e : fillN (kd j sl) tk cv c = none) : fM l κ mX5_fillSlot [.ref (ad 250), .int (nI c)] M (isI (bI false) M) := fM.mono (tX5_fillSlot hA hp hf hv hI hj0 hc) (fun o M' h => h.2 e)
theorem some_of {o : Option Nat} (h : o.isSome = true) : ∃ v, o = some v := Option.isSome_iff_exists.mp h
theorem none_of {o : Option Nat} (h : ¬ o.isSome = true) : o = none := by cases o with | none => rfl | some v => exact absurd rfl h
theorem tX5_accept_0 {l : Launch} {κ : KP} {M : Mem} {ad : Nat → Nat} {lt sl tk cv : Nat} {vs f : Nat → Int32} (hA : aInj ad) (hp : M (ad 250) = some (.inl (5, [.int (nI lt), .ref (kK κ 0), .int (nI sl), .int (nI tk), .ref (ad 251)]))) (hf : M (ad 251) = some (.inr (0, 6, .inl f))) (hv : ∀ i, i < 6 → f i = vs i) (hI : MI (lt, 0, sl, tk, cv, vs) 60) {c : Nat} (hc : c < 128) : fM l κ mX5_accept [.ref (ad 250), .int (nI (c))] M ((fun o M' => o = .inl (some (.int (bI (accN (lt, 0, sl, tk, cv, vs) c).1))) ∧ PtAt κ ad M' (accN (lt, 0, sl, tk, cv, vs) c).2 ∧ OffP ad M M')) := by
  refine fM_of rfl (by decide +kernel) (Nat.le_of_ble_eq_true rfl) ?_
  obtain ⟨h1, h2, h3, h4, h5, h6, h7, h8, h9⟩ := id hI
  show fR l κ mX5_accept 0 [(0, .ref (ad 250)), (1, .int (nI (c)))] [] M 0 0 _
  refine r_aload_n dX5_accept_0 rfl ?_
  refine r_get (k := 1) dX5_accept_1 hp rfl rfl (by decide) kX5_11F ?_
  refine r_callStr (As := []) dX5_accept_4 (tJ0_isEmpty h2) rfl h2 rfl oJ0_isEmpty_aae02 rfl kX5_31M nJ0_isEmpty_aae02 eJ0_isEmpty_aae02 (by unfold fRoom; decide) (Nat.le_of_ble_eq_true rfl) rfl (bc' := 0) (bs' := 0) rfl rfl ?_
  show fR _ _ _ 7 _ (.int (bI (decide (0 = 0))) :: _) _ _ _ _
  refine r_if_eqB (tgt := 39) dX5_accept_7 (by decide) (fun c1 => ?_) (fun c1 => ?_)
  · exact absurd (of_decide_eq_false (by assumption : decide (0 = 0) = false)) (by decide)
  · skip
    refine r_aload_n dX5_accept_10 rfl ?_
    refine r_iload_n dX5_accept_11 rfl ?_
    refine r_put (k := 0) (fs' := [.int (nI (c)), .ref (kK κ 0), .int (nI (sl)), .int (nI (tk)), .ref (ad 251)]) dX5_accept_12 hp rfl (by decide) kX5_21F rfl rfl rfl (Nat.le_of_ble_eq_true rfl) rfl ?_
    refine r_aload_n dX5_accept_15 rfl ?_
    refine r_iload_n dX5_accept_16 rfl ?_
    refine r_callS (As := [.int (nI (c))]) dX5_accept_17 (tX5_slotsBehind hc) rfl oX5_slotsBehind rfl kX5_37M sX5_slotsBehind (by unfold fRoom; decide) (Nat.le_of_ble_eq_true rfl) rfl (bc' := 0) (bs' := 0) rfl rfl ?_
    show fR _ _ _ 20 _ (.ref (kK κ (behN c)) :: _) _ _ _ _
    refine r_put (k := 1) (fs' := [.int (nI (c)), .ref (kK κ (behN c)), .int (nI (sl)), .int (nI (tk)), .ref (ad 251)]) dX5_accept_20 fup_eq rfl (by decide) kX5_11F rfl rfl rfl (Nat.le_of_ble_eq_true rfl) rfl ?_
    refine r_mem fup_fup ?_
    refine r_aload_n dX5_accept_23 rfl ?_
    refine r_get (k := 1) dX5_accept_24 fup_eq rfl rfl (by decide) kX5_11F ?_
    refine r_callStr (As := []) dX5_accept_27 (tJ0_isEmpty behN_lt) rfl behN_lt rfl oJ0_isEmpty_aae02 rfl kX5_31M nJ0_isEmpty_aae02 eJ0_isEmpty_aae02 (by unfold fRoom; decide) (Nat.le_of_ble_eq_true rfl) rfl (bc' := 0) (bs' := 0) rfl rfl ?_
    show fR _ _ _ 30 _ (.int (bI (decide (behN c = 0))) :: _) _ _ _ _
    refine r_if_neB (tgt := 37) dX5_accept_30 (by decide) (fun c2 => ?_) (fun c2 => ?_)
    · skip
      refine r_iconst (v := nI 0) dX5_accept_37 (by decide) ?_
      refine fR_zret dX5_accept_38 rfl rfl ⟨?_, ?_, fun b a1 a2 => (fup_ne a1)⟩
      · rw [accN_c, if_pos rfl]; show _ = Sum.inl (some (Value.int (bI (decide _)))); rw [decide_eq_false (fun z => z (of_decide_eq_true (by assumption)))]; rfl
      · rw [accN_c, if_pos rfl]; exact ⟨fup_eq, f, (fup_ne (hA.ne (by omega) (by omega) (by omega))).trans hf, hv⟩
    · skip
      refine r_iconst (v := nI 1) dX5_accept_33 (by decide) ?_
      refine r_goto (tgt := 38) dX5_accept_34 (by decide) ?_
      refine fR_zret dX5_accept_38 rfl rfl ⟨?_, ?_, fun b a1 a2 => (fup_ne a1)⟩
      · rw [accN_c, if_pos rfl]; show _ = Sum.inl (some (Value.int (bI (decide _)))); rw [decide_eq_true (of_decide_eq_false (by assumption))]; rfl
      · rw [accN_c, if_pos rfl]; exact ⟨fup_eq, f, (fup_ne (hA.ne (by omega) (by omega) (by omega))).trans hf, hv⟩
theorem tX5_accept_1 {l : Launch} {κ : KP} {M : Mem} {ad : Nat → Nat} {lt j sl tk cv : Nat} {vs f : Nat → Int32} (hA : aInj ad) (hp : M (ad 250) = some (.inl (5, [.int (nI lt), .ref (kK κ j), .int (nI sl), .int (nI tk), .ref (ad 251)]))) (hf : M (ad 251) = some (.inr (0, 6, .inl f))) (hv : ∀ i, i < 6 → f i = vs i) (hI : MI (lt, j, sl, tk, cv, vs) 60) (hj0 : ¬ j = 0) {c : Nat} (hc : c < 128) : fM l κ mX5_accept [.ref (ad 250), .int (nI (c))] M ((fun o M' => o = .inl (some (.int (bI (accN (lt, j, sl, tk, cv, vs) c).1))) ∧ PtAt κ ad M' (accN (lt, j, sl, tk, cv, vs) c).2 ∧ OffP ad M M')) := by
  refine fM_of rfl (by decide +kernel) (Nat.le_of_ble_eq_true rfl) ?_
  obtain ⟨h1, h2, h3, h4, h5, h6, h7, h8, h9⟩ := id hI
  have hsl := h4 hj0
  have h6L := sLen_lt h2
  have hkd := kd_lt j h2 sl (by omega)
  show fR l κ mX5_accept 0 [(0, .ref (ad 250)), (1, .int (nI (c)))] [] M 0 0 _
  refine r_aload_n dX5_accept_0 rfl ?_
  refine r_get (k := 1) dX5_accept_1 hp rfl rfl (by decide) kX5_11F ?_
  refine r_callStr (As := []) dX5_accept_4 (tJ0_isEmpty h2) rfl h2 rfl oJ0_isEmpty_aae02 rfl kX5_31M nJ0_isEmpty_aae02 eJ0_isEmpty_aae02 (by unfold fRoom; decide) (Nat.le_of_ble_eq_true rfl) rfl (bc' := 0) (bs' := 0) rfl rfl ?_
  show fR _ _ _ 7 _ (.int (bI (decide (j = 0))) :: _) _ _ _ _
  refine r_if_eqB (tgt := 39) dX5_accept_7 (by decide) (fun c1 => ?_) (fun c1 => ?_)
  · skip
    refine r_aload_n dX5_accept_39 rfl ?_
    refine r_iload_n dX5_accept_40 rfl ?_
    by_cases c2 : (fillN (kd j sl) tk cv c).isSome = true
    · skip
      obtain ⟨v1, hv1⟩ := some_of c2
      refine r_callV (As := [.int (nI (c))]) dX5_accept_41 (tX5_fill_t hA hp hf hv hI hj0 hc hv1) rfl hp rfl rfl oX5_fillSlot rfl kX5_41M nX5_fillSlot eX5_fillSlot (by unfold fRoom; decide) (Nat.le_of_ble_eq_true rfl) rfl (bc' := 0) (bs' := 0) rfl rfl ?_
      show fR _ _ _ 44 _ (.int (bI (true)) :: _) _ _ _ _
      refine r_if_eqB (tgt := 49) dX5_accept_44 (by decide) (fun c3 => absurd c3 (by decide)) (fun c3 => ?_)
      refine r_iconst (v := nI 1) dX5_accept_47 (by decide) ?_
      have eA : accN (lt, j, sl, tk, cv, vs) c = (true, (lt, j, sl, tk + 1, v1, upd vs sl (encV v1))) := by rw [accN_c, if_neg hj0]; rw [hv1]
      refine fR_zret dX5_accept_48 rfl rfl ⟨by rw [eA] <;> rfl, ?_, (fun b a1 a2 => by (repeat (first | rw [fup_ne a1] | rw [fup_ne a2])) <;> rfl)⟩
      rw [eA]
      exact ⟨fup_eq, _, (fup_ne (hA.ne (by omega) (by omega) (by omega))).trans fup_eq, fun i hi => by unfold upd; split; rfl; exact hv i hi⟩
    · skip
      have hn1 := none_of c2
      refine r_callV (As := [.int (nI (c))]) dX5_accept_41 (tX5_fill_f hA hp hf hv hI hj0 hc hn1) rfl hp rfl rfl oX5_fillSlot rfl kX5_41M nX5_fillSlot eX5_fillSlot (by unfold fRoom; decide) (Nat.le_of_ble_eq_true rfl) rfl (bc' := 0) (bs' := 0) rfl rfl ?_
      show fR _ _ _ 44 _ (.int (bI (false)) :: _) _ _ _ _
      refine r_if_eqB (tgt := 49) dX5_accept_44 (by decide) (fun c4 => ?_) (fun c4 => absurd c4 (by decide))
      refine r_aload_n dX5_accept_49 rfl ?_
      refine r_callV (As := []) dX5_accept_50 (tX5_full hA hp hf hv hI hj0) rfl hp rfl rfl oX5_isSlotFull rfl kX5_45M nX5_isSlotFull eX5_isSlotFull (by unfold fRoom; decide) (Nat.le_of_ble_eq_true rfl) rfl (bc' := 0) (bs' := 0) rfl rfl ?_
      show fR _ _ _ 53 _ (.int (bI (fullN (kd j sl) tk cv)) :: _) _ _ _ _
      refine r_if_eqB (tgt := 72) dX5_accept_53 (by decide) (fun c5 => ?_) (fun c5 => ?_)
      · skip
        refine r_iconst (v := nI 0) dX5_accept_72 (by decide) ?_
        have eA : accN (lt, j, sl, tk, cv, vs) c = (false, (lt, j, sl, tk, cv, vs)) := by rw [accN_c, if_neg hj0]; rw [hn1]; exact if_neg (fun z => absurd z.1 (bne_of (by assumption)))
        refine fR_zret dX5_accept_73 rfl rfl ⟨by rw [eA] <;> rfl, ?_, (fun b a1 a2 => by (repeat (first | rw [fup_ne a1] | rw [fup_ne a2])) <;> rfl)⟩
        rw [eA]
        exact ⟨hp, f, hf, hv⟩
      · skip
        refine r_aload_n dX5_accept_56 rfl ?_
        refine r_get (k := 2) dX5_accept_57 hp rfl rfl (by decide) kX5_25F ?_
        refine r_iconst (v := nI 1) dX5_accept_60 (by decide) ?_
        refine r_iaddN dX5_accept_61 ?_
        refine r_aload_n dX5_accept_62 rfl ?_
        refine r_get (k := 1) dX5_accept_63 hp rfl rfl (by decide) kX5_11F ?_
        refine r_callStr (As := []) dX5_accept_66 (tJ0_length h2) rfl h2 rfl oJ0_length_8abf5 rfl kX5_48M nJ0_length_8abf5 eJ0_length_8abf5 (by unfold fRoom; decide) (Nat.le_of_ble_eq_true rfl) rfl (bc' := 0) (bs' := 0) rfl rfl ?_
        show fR _ _ _ 69 _ (.int (nI (sLen j)) :: _) _ _ _ _
        refine r_icmp_ltN (tgt := 74) dX5_accept_69 (by decide) (by omega) (by omega) (fun c6 => ?_) (fun c6 => ?_)
        · skip
          refine r_aload_n dX5_accept_74 rfl ?_
          refine r_dup dX5_accept_75 rfl ?_
          refine r_get (k := 2) dX5_accept_76 hp rfl rfl (by decide) kX5_25F ?_
          refine r_iconst (v := nI 1) dX5_accept_79 (by decide) ?_
          refine r_iaddN dX5_accept_80 ?_
          refine r_put (k := 2) (fs' := [.int (nI (lt)), .ref (kK κ j), .int (nI ((sl + 1))), .int (nI (tk)), .ref (ad 251)]) dX5_accept_81 hp rfl (by decide) kX5_25F rfl rfl rfl (Nat.le_of_ble_eq_true rfl) rfl ?_
          refine r_aload_n dX5_accept_84 rfl ?_
          refine r_iconst (v := nI 0) dX5_accept_85 (by decide) ?_
          refine r_put (k := 3) (fs' := [.int (nI (lt)), .ref (kK κ j), .int (nI ((sl + 1))), .int (nI (0)), .ref (ad 251)]) dX5_accept_86 fup_eq rfl (by decide) kX5_28F rfl rfl rfl (Nat.le_of_ble_eq_true rfl) rfl ?_
          refine r_mem fup_fup ?_
          refine r_aload_n dX5_accept_89 rfl ?_
          refine r_iload_n dX5_accept_90 rfl ?_
          by_cases c7 : (fillN (kd j (sl + 1)) 0 0 c).isSome = true
          · skip
            have hI2 : MI (lt, j, sl + 1, 0, 0, vs) 60 := ⟨h1, h2, fun z => absurd z hj0, fun _ => by omega, Or.inl (by omega), fun _ => rfl, by omega, h9 _ (by omega), fun i hi => h9 i (by omega)⟩
            have hp2 : (fup M (ad 250) (.inl (5, [.int (nI lt), .ref (kK κ j), .int (nI (sl + 1)), .int (nI 0), .ref (ad 251)]))) (ad 250) = _ := fup_eq
            have hf2 : (fup M (ad 250) (.inl (5, [.int (nI lt), .ref (kK κ j), .int (nI (sl + 1)), .int (nI 0), .ref (ad 251)]))) (ad 251) = _ := (fup_ne (hA.ne (by omega) (by omega) (by omega))).trans hf
            obtain ⟨v2, hv2⟩ := some_of c7
            refine r_callV (As := [.int (nI (c))]) dX5_accept_91 (tX5_fill_t hA hp2 hf2 hv hI2 hj0 hc hv2) rfl fup_eq rfl rfl oX5_fillSlot rfl kX5_41M nX5_fillSlot eX5_fillSlot (by unfold fRoom; decide) (Nat.le_of_ble_eq_true rfl) rfl (bc' := 0) (bs' := 0) rfl rfl ?_
            show fR _ _ _ 94 _ (.int (bI (true)) :: _) _ _ _ _
            have eA : accN (lt, j, sl, tk, cv, vs) c = (true, (lt, j, sl + 1, 1, v2, upd vs (sl + 1) (encV v2))) := by rw [accN_c, if_neg hj0]; rw [hn1]; simp only []; rw [if_pos ⟨by assumption, by omega⟩, hv2]
            refine r_zretB dX5_accept_94 rfl ⟨by rw [eA] <;> rfl, ?_, (fun b a1 a2 => by (repeat (first | rw [fup_ne a1] | rw [fup_ne a2])) <;> rfl)⟩
            rw [eA]
            exact ⟨fup_eq, _, (fup_ne (hA.ne (by omega) (by omega) (by omega))).trans fup_eq, fun i hi => by unfold upd; split; rfl; exact hv i hi⟩
          · skip
            have hI2 : MI (lt, j, sl + 1, 0, 0, vs) 60 := ⟨h1, h2, fun z => absurd z hj0, fun _ => by omega, Or.inl (by omega), fun _ => rfl, by omega, h9 _ (by omega), fun i hi => h9 i (by omega)⟩
            have hp2 : (fup M (ad 250) (.inl (5, [.int (nI lt), .ref (kK κ j), .int (nI (sl + 1)), .int (nI 0), .ref (ad 251)]))) (ad 250) = _ := fup_eq
            have hf2 : (fup M (ad 250) (.inl (5, [.int (nI lt), .ref (kK κ j), .int (nI (sl + 1)), .int (nI 0), .ref (ad 251)]))) (ad 251) = _ := (fup_ne (hA.ne (by omega) (by omega) (by omega))).trans hf
            have hn2 := none_of c7
            refine r_callV (As := [.int (nI (c))]) dX5_accept_91 (tX5_fill_f hA hp2 hf2 hv hI2 hj0 hc hn2) rfl fup_eq rfl rfl oX5_fillSlot rfl kX5_41M nX5_fillSlot eX5_fillSlot (by unfold fRoom; decide) (Nat.le_of_ble_eq_true rfl) rfl (bc' := 0) (bs' := 0) rfl rfl ?_
            show fR _ _ _ 94 _ (.int (bI (false)) :: _) _ _ _ _
            have eA : accN (lt, j, sl, tk, cv, vs) c = (false, (lt, j, sl + 1, 0, 0, vs)) := by rw [accN_c, if_neg hj0]; rw [hn1]; simp only []; rw [if_pos ⟨by assumption, by omega⟩, hn2]
            refine r_zretB dX5_accept_94 rfl ⟨by rw [eA] <;> rfl, ?_, (fun b a1 a2 => by (repeat (first | rw [fup_ne a1] | rw [fup_ne a2])) <;> rfl)⟩
            rw [eA]
            exact ⟨fup_eq, f, (fup_ne (hA.ne (by omega) (by omega) (by omega))).trans hf, hv⟩
        · skip
          refine r_iconst (v := nI 0) dX5_accept_72 (by decide) ?_
          have eA : accN (lt, j, sl, tk, cv, vs) c = (false, (lt, j, sl, tk, cv, vs)) := by rw [accN_c, if_neg hj0]; rw [hn1]; exact if_neg (fun z => by omega)
          refine fR_zret dX5_accept_73 rfl rfl ⟨by rw [eA] <;> rfl, ?_, (fun b a1 a2 => by (repeat (first | rw [fup_ne a1] | rw [fup_ne a2])) <;> rfl)⟩
          rw [eA]
          exact ⟨hp, f, hf, hv⟩
  · exact absurd (of_decide_eq_true (by assumption : decide (j = 0) = true)) hj0
theorem tX5_accept {l : Launch} {κ : KP} {M : Mem} {ad : Nat → Nat} {s : MS} (hA : aInj ad) (hp : PtAt κ ad M s) (hI : MI s 60) {c : Nat} (hc : c < 128) : fM l κ mX5_accept [.ref (ad 250), .int (nI c)] M (fun o M' => o = .inl (some (.int (bI (accN s c).1))) ∧ PtAt κ ad M' (accN s c).2 ∧ OffP ad M M') := by
  obtain ⟨lt, j, sl, tk, cv, vs⟩ := s
  obtain ⟨hp1, f, hf, hv⟩ := hp
  by_cases hj : j = 0
  · subst hj; exact tX5_accept_0 hA hp1 hf hv hI hc
  · exact tX5_accept_1 hA hp1 hf hv hI hj hc
theorem tX5_cmp {l : Launch} {κ : KP} {M : Mem} {ad : Nat → Nat} {s : MS} (hA : aInj ad) (hp : PtAt κ ad M s) (hI : MI s 60) : fM l κ mX5_isComplete [.ref (ad 250)] M (isI (bI (cmpN s)) M) := by
  obtain ⟨lt, j, sl, tk, cv, vs⟩ := s
  obtain ⟨hp1, f, hf, hv⟩ := hp
  exact tX5_complete hA hp1 hf hv hI
theorem PtAt.raw {κ : KP} {ad : Nat → Nat} {M : Mem} {s : MS} {b : Nat} (h : PtAt κ ad M s) (hI : MI s b) : ∃ (x0 x2 x3 : Int32) (jq : Nat) (f : Nat → Int32), jq < 6 ∧ M (ad 250) = some (.inl (5, [.int x0, .ref (kK κ jq), .int x2, .int x3, .ref (ad 251)])) ∧ M (ad 251) = some (.inr (0, 6, .inl f)) := by
  obtain ⟨lt, j, sl, tk, cv, vs⟩ := s
  obtain ⟨h1, f, h2, -⟩ := h
  exact ⟨_, _, _, j, f, hI.2.1, h1, h2⟩
theorem PtAt.eq {κ : KP} {ad : Nat → Nat} {M M1 : Mem} {s : MS} (h : PtAt κ ad M s) (e0 : M1 (ad 250) = M (ad 250)) (e1 : M1 (ad 251) = M (ad 251)) : PtAt κ ad M1 s := by
  obtain ⟨lt, j, sl, tk, cv, vs⟩ := s
  obtain ⟨h1, f, h2, h3⟩ := h
  exact ⟨e0.trans h1, f, e1.trans h2, h3⟩
theorem MI.mono {s : MS} {b b' : Nat} (h : MI s b) (hb : b ≤ b') : MI s b' := by
  obtain ⟨lt, j, sl, tk, cv, vs⟩ := s
  obtain ⟨h1, h2, h3, h4, h5, h6, h7, h8, h9⟩ := h
  exact ⟨h1, h2, h3, h4, h5, h6, by omega, h8, h9⟩
