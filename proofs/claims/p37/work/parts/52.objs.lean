/-! THE CLASS'S SMALL OBJECTS -/
theorem tX0_fill {l : Launch} {κ : KP} {M : Mem} {a : Nat} {s y z w : Int32} (hA : M a = some (.inl (0, [.int s, .int y, .int z]))) : fM l κ mX0_fill [.ref (a), .int (w)] M (isR none (fup M a (.inl (0, [.int w, .int (nI 0), .int (-1)])))) := by
  refine fM_of rfl (by decide +kernel) (Nat.le_of_ble_eq_true rfl) ?_
  show fR l κ mX0_fill 0 [(0, .ref (a)), (1, .int (w))] [] M 0 0 _
  refine r_aload_n dX0_fill_0 rfl ?_
  refine r_iload_n dX0_fill_1 rfl ?_
  refine r_put (k := 0) (fs' := [.int (w), .int (y), .int (z)]) dX0_fill_2 hA rfl (by decide) kX0_15F rfl rfl rfl (Nat.le_of_ble_eq_true rfl) rfl ?_
  refine r_aload_n dX0_fill_5 rfl ?_
  refine r_iconst (v := nI 0) dX0_fill_6 (by decide) ?_
  refine r_put (k := 1) (fs' := [.int (w), .int (nI (0)), .int (z)]) dX0_fill_7 fup_eq rfl (by decide) kX0_18F rfl rfl rfl (Nat.le_of_ble_eq_true rfl) rfl ?_
  refine r_mem fup_fup ?_
  refine r_aload_n dX0_fill_10 rfl ?_
  refine r_iconst (v := (-1)) dX0_fill_11 (by decide) ?_
  refine r_put (k := 2) (fs' := [.int (w), .int (nI (0)), .int (-1)]) dX0_fill_12 fup_eq rfl (by decide) kX0_9F rfl rfl rfl (Nat.le_of_ble_eq_true rfl) rfl ?_
  refine r_mem fup_fup ?_
  exact fR_vret dX0_fill_15 rfl isR_of
theorem tX0_copyFrom {l : Launch} {κ : KP} {M : Mem} {a b : Nat} {s y z s2 y2 z2 : Int32} (hab : a ≠ b) (hA : M a = some (.inl (0, [.int s, .int y, .int z]))) (hB : M b = some (.inl (0, [.int s2, .int y2, .int z2]))) : fM l κ mX0_copyFrom [.ref (a), .ref (b)] M (isR none (fup M a (.inl (0, [.int s2, .int y2, .int z2])))) := by
  refine fM_of rfl (by decide +kernel) (Nat.le_of_ble_eq_true rfl) ?_
  show fR l κ mX0_copyFrom 0 [(0, .ref (a)), (1, .ref (b))] [] M 0 0 _
  refine r_aload_n dX0_copyFrom_0 rfl ?_
  refine r_aload_n dX0_copyFrom_1 rfl ?_
  refine r_get (k := 0) dX0_copyFrom_2 hB rfl rfl (by decide) kX0_15F ?_
  refine r_put (k := 0) (fs' := [.int (s2), .int (y), .int (z)]) dX0_copyFrom_5 hA rfl (by decide) kX0_15F rfl rfl rfl (Nat.le_of_ble_eq_true rfl) rfl ?_
  refine r_aload_n dX0_copyFrom_8 rfl ?_
  refine r_aload_n dX0_copyFrom_9 rfl ?_
  refine r_get (k := 1) dX0_copyFrom_10 ((fup_ne (Ne.symm hab)).trans hB) rfl rfl (by decide) kX0_18F ?_
  refine r_put (k := 1) (fs' := [.int (s2), .int (y2), .int (z)]) dX0_copyFrom_13 fup_eq rfl (by decide) kX0_18F rfl rfl rfl (Nat.le_of_ble_eq_true rfl) rfl ?_
  refine r_mem fup_fup ?_
  refine r_aload_n dX0_copyFrom_16 rfl ?_
  refine r_aload_n dX0_copyFrom_17 rfl ?_
  refine r_get (k := 2) dX0_copyFrom_18 ((fup_ne (Ne.symm hab)).trans hB) rfl rfl (by decide) kX0_9F ?_
  refine r_put (k := 2) (fs' := [.int (s2), .int (y2), .int (z2)]) dX0_copyFrom_21 fup_eq rfl (by decide) kX0_9F rfl rfl rfl (Nat.le_of_ble_eq_true rfl) rfl ?_
  refine r_mem fup_fup ?_
  exact fR_vret dX0_copyFrom_24 rfl isR_of
theorem tX0_hardness {l : Launch} {κ : KP} {M : Mem} {a s y : Nat} {z : Int32} (hs : 0 < s) (hs2 : s < 2 ^ 31) (hy : y < 2 ^ 31) (hA : M a = some (.inl (0, [.int (nI s), .int (nI y), .int z]))) : fM l κ mX0_hardness [.ref (a)] M (isI (nI (1000 / s + y / 10)) M) := by
  refine fM_of rfl (by decide +kernel) (Nat.le_of_ble_eq_true rfl) ?_
  show fR l κ mX0_hardness 0 [(0, .ref (a))] [] M 0 0 _
  refine r_sipush (v := nI 1000) dX0_hardness_0 (by decide) ?_
  refine r_aload_n dX0_hardness_3 rfl ?_
  refine r_get (k := 0) dX0_hardness_4 hA rfl rfl (by decide) kX0_15F ?_
  refine r_callSN (As := [.int (nI (1000)), .int (nI (s))]) dX0_hardness_7 (tX8_divided (by omega) (by omega) (by omega)) rfl oX8_divided rfl kX0_21M sX8_divided (by unfold fRoom; decide) (Nat.le_of_ble_eq_true rfl) (bc' := 0) (bs' := 0) rfl rfl ?_
  show fR _ _ _ 10 _ (.int (nI ((1000 / s))) :: _) _ _ _ _
  refine r_aload_n dX0_hardness_10 rfl ?_
  refine r_get (k := 1) dX0_hardness_11 hA rfl rfl (by decide) kX0_18F ?_
  refine r_bipush (v := nI 10) dX0_hardness_14 (by decide) ?_
  have hfd := tJ9_floorDiv (l := l) (κ := κ) (M := M) (x := (nI (y))) (m := 10) (by omega) (by omega)
  rw [pDiv_n (by omega) (by omega) (by omega)] at hfd
  refine r_callS (As := [.int (nI (y)), .int (nI (10))]) dX0_hardness_16 hfd rfl oJ9_floorDiv_7cf53 rfl kX0_25M sJ9_floorDiv_7cf53 (by unfold fRoom; decide) (Nat.le_of_ble_eq_true rfl) rfl (bc' := 0) (bs' := 0) rfl rfl ?_
  show fR _ _ _ 19 _ (.int (nI ((y / 10))) :: _) _ _ _ _
  refine r_iaddN dX0_hardness_19 ?_
  exact fR_iret dX0_hardness_20 rfl (isI_of (by rfl))
theorem nar_b {x : Int32} (h : x = nI 0 ∨ x = nI 1) : narrow .boolean (.int x) = .int x := by rcases h with rfl | rfl <;> rfl
theorem fit_b {x : Int32} (h : x = nI 0 ∨ x = nI 1) : fits .boolean (.int x) = true := by rcases h with rfl | rfl <;> rfl
def wWear (d w : Int32) : Int32 := if d < nI 50 then (if w + nI 1 < nI 20 then w + nI 1 else nI 20) else w
def wBent (d b : Int32) : Int32 := if d = 0 then nI 1 else b
theorem wWear_hi {d w : Int32} (h : nI 50 ≤ d) : wWear d w = w := if_neg (Int32.not_lt.mpr h)
theorem wWear_lo {d w : Int32} (h : ¬ nI 50 ≤ d) : wWear d w = (if w + nI 1 < nI 20 then w + nI 1 else nI 20) := if_pos (Int32.not_le.mp h)
theorem wBent_1 {d b : Int32} (h : d = 0) : wBent d b = nI 1 := if_pos h
theorem wBent_0 {d b : Int32} (h : ¬ d = 0) : wBent d b = b := if_neg h
theorem tX3_copyFrom {l : Launch} {κ : KP} {M : Mem} {a q : Nat} {w b u w2 b2 u2 : Int32} (haq : a ≠ q) (hb2 : b2 = nI 0 ∨ b2 = nI 1) (hA : M a = some (.inl (3, [.int w, .int b, .int u]))) (hB : M q = some (.inl (3, [.int w2, .int b2, .int u2]))) : fM l κ mX3_copyFrom [.ref (a), .ref (q)] M (isR none (fup M a (.inl (3, [.int w2, .int b2, .int u2])))) := by
  refine fM_of rfl (by decide +kernel) (Nat.le_of_ble_eq_true rfl) ?_
  show fR l κ mX3_copyFrom 0 [(0, .ref (a)), (1, .ref (q))] [] M 0 0 _
  refine r_aload_n dX3_copyFrom_0 rfl ?_
  refine r_aload_n dX3_copyFrom_1 rfl ?_
  refine r_get (k := 0) dX3_copyFrom_2 hB rfl rfl (by decide) kX3_9F ?_
  refine r_put (k := 0) (fs' := [.int (w2), .int (b), .int (u)]) dX3_copyFrom_5 hA rfl (by decide) kX3_9F rfl rfl rfl (Nat.le_of_ble_eq_true rfl) rfl ?_
  refine r_aload_n dX3_copyFrom_8 rfl ?_
  refine r_aload_n dX3_copyFrom_9 rfl ?_
  refine r_get (k := 1) dX3_copyFrom_10 ((fup_ne (Ne.symm haq)).trans hB) rfl rfl (by decide) kX3_15F ?_
  refine r_put (k := 1) (fs' := [.int (w2), .int (b2), .int (u)]) dX3_copyFrom_13 fup_eq rfl (by decide) kX3_15F rfl (nar_b hb2) (fit_b hb2) (Nat.le_of_ble_eq_true rfl) rfl ?_
  refine r_mem fup_fup ?_
  refine r_aload_n dX3_copyFrom_16 rfl ?_
  refine r_aload_n dX3_copyFrom_17 rfl ?_
  refine r_get (k := 2) dX3_copyFrom_18 ((fup_ne (Ne.symm haq)).trans hB) rfl rfl (by decide) kX3_19F ?_
  refine r_put (k := 2) (fs' := [.int (w2), .int (b2), .int (u2)]) dX3_copyFrom_21 fup_eq rfl (by decide) kX3_19F rfl rfl rfl (Nat.le_of_ble_eq_true rfl) rfl ?_
  refine r_mem fup_fup ?_
  exact fR_vret dX3_copyFrom_24 rfl isR_of
theorem tX3_makeNew {l : Launch} {κ : KP} {M : Mem} {a : Nat} {w b u : Int32} (hA : M a = some (.inl (3, [.int w, .int b, .int u]))) : fM l κ mX3_makeNew [.ref (a)] M (isI w (fup M a (.inl (3, [.int (nI 0), .int (nI 0), .int u])))) := by
  refine fM_of rfl (by decide +kernel) (Nat.le_of_ble_eq_true rfl) ?_
  show fR l κ mX3_makeNew 0 [(0, .ref (a))] [] M 0 0 _
  refine r_aload_n dX3_makeNew_0 rfl ?_
  refine r_get (k := 0) dX3_makeNew_1 hA rfl rfl (by decide) kX3_9F ?_
  refine r_istore_n (lv' := [(1, .int (w)), (0, .ref (a))]) dX3_makeNew_4 (by decide) rfl ?_
  refine r_aload_n dX3_makeNew_5 rfl ?_
  refine r_iconst (v := nI 0) dX3_makeNew_6 (by decide) ?_
  refine r_put (k := 0) (fs' := [.int (nI (0)), .int (b), .int (u)]) dX3_makeNew_7 hA rfl (by decide) kX3_9F rfl rfl rfl (Nat.le_of_ble_eq_true rfl) rfl ?_
  refine r_aload_n dX3_makeNew_10 rfl ?_
  refine r_iconst (v := nI 0) dX3_makeNew_11 (by decide) ?_
  refine r_put (k := 1) (fs' := [.int (nI (0)), .int (nI (0)), .int (u)]) dX3_makeNew_12 fup_eq rfl (by decide) kX3_15F rfl rfl rfl (Nat.le_of_ble_eq_true rfl) rfl ?_
  refine r_mem fup_fup ?_
  refine r_iload_n dX3_makeNew_15 rfl ?_
  exact fR_iret dX3_makeNew_16 rfl (isI_of (by rfl))
theorem tX3_wearBy {l : Launch} {κ : KP} {M : Mem} {a : Nat} {w b u d : Int32} (hA : M a = some (.inl (3, [.int w, .int b, .int u]))) : fM l κ mX3_wearBy [.ref (a), .int (d)] M (isR none (fup M a (.inl (3, [.int (wWear d w), .int (wBent d b), .int (u + nI 1)])))) := by
  refine fM_of rfl (by decide +kernel) (Nat.le_of_ble_eq_true rfl) ?_
  show fR l κ mX3_wearBy 0 [(0, .ref (a)), (1, .int (d))] [] M 0 0 _
  refine r_aload_n dX3_wearBy_0 rfl ?_
  refine r_dup dX3_wearBy_1 rfl ?_
  refine r_get (k := 2) dX3_wearBy_2 hA rfl rfl (by decide) kX3_19F ?_
  refine r_iconst (v := nI 1) dX3_wearBy_5 (by decide) ?_
  refine r_iadd dX3_wearBy_6 ?_
  refine r_put (k := 2) (fs' := [.int (w), .int (b), .int (((u) + (nI (1))))]) dX3_wearBy_7 hA rfl (by decide) kX3_19F rfl rfl rfl (Nat.le_of_ble_eq_true rfl) rfl ?_
  refine r_iload_n dX3_wearBy_10 rfl ?_
  refine r_bipush (v := nI 50) dX3_wearBy_11 (by decide) ?_
  refine r_icmp_ge (tgt := 31) dX3_wearBy_13 (by decide) (fun c1 => ?_) (fun c1 => ?_)
  · skip
    refine r_iload_n dX3_wearBy_31 rfl ?_
    refine r_if_ne (tgt := 40) dX3_wearBy_32 (by decide) (fun c2 => ?_) (fun c2 => ?_)
    · skip
      exact fR_vret dX3_wearBy_40 rfl ⟨rfl, by rw [wWear_hi (by assumption), wBent_0 (by assumption)]⟩
    · skip
      refine r_aload_n dX3_wearBy_35 rfl ?_
      refine r_iconst (v := nI 1) dX3_wearBy_36 (by decide) ?_
      refine r_put (k := 1) (fs' := [.int (w), .int (nI (1)), .int (((u) + (nI (1))))]) dX3_wearBy_37 fup_eq rfl (by decide) kX3_15F rfl rfl rfl (Nat.le_of_ble_eq_true rfl) rfl ?_
      refine r_mem fup_fup ?_
      exact fR_vret dX3_wearBy_40 rfl ⟨rfl, by rw [wWear_hi (by assumption), wBent_1 (by assumption)]⟩
  · skip
    refine r_aload_n dX3_wearBy_16 rfl ?_
    refine r_bipush (v := nI 20) dX3_wearBy_17 (by decide) ?_
    refine r_aload_n dX3_wearBy_19 rfl ?_
    refine r_get (k := 0) dX3_wearBy_20 fup_eq rfl rfl (by decide) kX3_9F ?_
    refine r_iconst (v := nI 1) dX3_wearBy_23 (by decide) ?_
    refine r_iadd dX3_wearBy_24 ?_
    refine r_mmin dX3_wearBy_25 kX3_22M kJ_minS kJ_math kJ_minC (Nat.le_of_ble_eq_true rfl) (Nat.le_of_ble_eq_true rfl) ?_
    refine r_put (k := 0) (fs' := [.int ((if (((w) + (nI (1)))) < (nI (20)) then (((w) + (nI (1)))) else (nI (20)))), .int (b), .int (((u) + (nI (1))))]) dX3_wearBy_28 fup_eq rfl (by decide) kX3_9F rfl rfl rfl (Nat.le_of_ble_eq_true rfl) rfl ?_
    refine r_mem fup_fup ?_
    refine r_iload_n dX3_wearBy_31 rfl ?_
    refine r_if_ne (tgt := 40) dX3_wearBy_32 (by decide) (fun c3 => ?_) (fun c3 => ?_)
    · skip
      exact fR_vret dX3_wearBy_40 rfl ⟨rfl, by rw [wWear_lo (by assumption), wBent_0 (by assumption)]⟩
    · skip
      refine r_aload_n dX3_wearBy_35 rfl ?_
      refine r_iconst (v := nI 1) dX3_wearBy_36 (by decide) ?_
      refine r_put (k := 1) (fs' := [.int ((if (((w) + (nI (1)))) < (nI (20)) then (((w) + (nI (1)))) else (nI (20)))), .int (nI (1)), .int (((u) + (nI (1))))]) dX3_wearBy_37 fup_eq rfl (by decide) kX3_15F rfl rfl rfl (Nat.le_of_ble_eq_true rfl) rfl ?_
      refine r_mem fup_fup ?_
      exact fR_vret dX3_wearBy_40 rfl ⟨rfl, by rw [wWear_lo (by assumption), wBent_1 (by assumption)]⟩
theorem tX3_number_0 {l : Launch} {κ : KP} {M : Mem} {a : Nat} {w b u : Int32} (hA : M a = some (.inl (3, [.int w, .int b, .int u]))) : fM l κ mX3_number [.ref (a), .int (nI (0))] M (isI w M) := by
  refine fM_of rfl (by decide +kernel) (Nat.le_of_ble_eq_true rfl) ?_
  show fR l κ mX3_number 0 [(0, .ref (a)), (1, .int (nI (0)))] [] M 0 0 _
  refine r_iload_n dX3_number_0 rfl ?_
  refine r_lookup (off := 27) (tgt := 28) dX3_number_1 (by decide) (by decide) (by decide) ?_
  refine r_aload_n dX3_number_28 rfl ?_
  refine r_get (k := 0) dX3_number_29 hA rfl rfl (by decide) kX3_9F ?_
  exact fR_iret dX3_number_32 rfl (isI_of (by rfl))
theorem tX3_number_1 {l : Launch} {κ : KP} {M : Mem} {a : Nat} {w b u : Int32} (hb : b = nI 0 ∨ b = nI 1) (hA : M a = some (.inl (3, [.int w, .int b, .int u]))) : fM l κ mX3_number [.ref (a), .int (nI (1))] M (isI b M) := by
  refine fM_of rfl (by decide +kernel) (Nat.le_of_ble_eq_true rfl) ?_
  show fR l κ mX3_number 0 [(0, .ref (a)), (1, .int (nI (1)))] [] M 0 0 _
  refine r_iload_n dX3_number_0 rfl ?_
  refine r_lookup (off := 32) (tgt := 33) dX3_number_1 (by decide) (by decide) (by decide) ?_
  refine r_aload_n dX3_number_33 rfl ?_
  refine r_get (k := 1) dX3_number_34 hA rfl rfl (by decide) kX3_15F ?_
  refine r_if_eq (tgt := 44) dX3_number_37 (by decide) (fun c1 => ?_) (fun c1 => ?_)
  · skip
    refine r_iconst (v := nI 0) dX3_number_44 (by decide) ?_
    exact fR_iret dX3_number_45 rfl (isI_of (by rcases hb with rfl | rfl <;> first | rfl | exact absurd rfl ‹_› | exact absurd ‹_› (by decide)))
  · skip
    refine r_iconst (v := nI 1) dX3_number_40 (by decide) ?_
    refine r_goto (tgt := 45) dX3_number_41 (by decide) ?_
    exact fR_iret dX3_number_45 rfl (isI_of (by rcases hb with rfl | rfl <;> first | rfl | exact absurd rfl ‹_› | exact absurd ‹_› (by decide)))
theorem tX3_number_2 {l : Launch} {κ : KP} {M : Mem} {a : Nat} {w b u : Int32} (hA : M a = some (.inl (3, [.int w, .int b, .int u]))) : fM l κ mX3_number [.ref (a), .int (nI (2))] M (isI u M) := by
  refine fM_of rfl (by decide +kernel) (Nat.le_of_ble_eq_true rfl) ?_
  show fR l κ mX3_number 0 [(0, .ref (a)), (1, .int (nI (2)))] [] M 0 0 _
  refine r_iload_n dX3_number_0 rfl ?_
  refine r_lookup (off := 45) (tgt := 46) dX3_number_1 (by decide) (by decide) (by decide) ?_
  refine r_aload_n dX3_number_46 rfl ?_
  refine r_get (k := 2) dX3_number_47 hA rfl rfl (by decide) kX3_19F ?_
  exact fR_iret dX3_number_50 rfl (isI_of (by rfl))
/-- what a sample's numbers are -/
def SpOk (g : Nat → Int32) (k : Nat) : Prop :=
  (∃ h, h ≤ 149 ∧ pOf g k 1 = nI h) ∧ (∃ w, w ≤ 900 ∧ pOf g k 2 = nI w) ∧ pOf g k 5 = nI (pMany g k) ∧ pMany g k ≤ 9 ∧ (∀ r, r < pMany g k → (∃ x, x < 3 ∧ pOf g k (6 + 4 * r + 0) = nI x) ∧ (∃ y, y ≤ 400 ∧ pOf g k (6 + 4 * r + 1) = nI y))
theorem BI.spok {g : Nat → Int32} {dn n : Nat} (h : BI g dn n) {k : Nat} (hk : k < n) : SpOk g k :=
  ⟨(h.sa k hk).2.1, (h.sa k hk).2.2.1, (h.mM k hk).1, (h.mM k hk).2, h.rd k hk⟩
theorem SpOk.m5 {g : Nat → Int32} {k : Nat} (h : SpOk g k) : pOf g k 5 = nI (pMany g k) := h.2.2.1
theorem SpOk.m9 {g : Nat → Int32} {k : Nat} (h : SpOk g k) : pMany g k ≤ 9 := h.2.2.2.1
theorem tX6_mark {l : Launch} {κ : KP} {M : Mem} {a b k : Nat} {g : Nat → Int32} (hS : SpAt M a b g k) (hO : SpOk g k) {r w : Nat} (hr : r < pMany g k) (hw : w < 4) : fM l κ mX6_mark [.ref (a), .int (nI (r)), .int (nI (w))] M (isI (pOf g k (6 + (r * 4 + w))) M) := by
  refine fM_of rfl (by decide +kernel) (Nat.le_of_ble_eq_true rfl) ?_
  obtain ⟨hA, f, hf, hv⟩ := id hS
  have h5 := hO.m5
  have h9 := hO.m9
  show fR l κ mX6_mark 0 [(0, .ref (a)), (1, .int (nI (r))), (2, .int (nI (w)))] [] M 0 0 _
  refine r_iload_n dX6_mark_0 rfl ?_
  refine r_if_ltN (tgt := 25) dX6_mark_1 (by decide) (by omega) (fun c1 => ?_) (fun c1 => ?_)
  · skip
    exact absurd c1 (by omega)
  · skip
    refine r_iload_n dX6_mark_4 rfl ?_
    refine r_aload_n dX6_mark_5 rfl ?_
    refine r_get (k := 5) dX6_mark_6 hA rfl rfl (by decide) kX6_31F ?_
    refine r_top (y := (nI (pMany g k))) h5 ?_
    refine r_icmp_geN (tgt := 25) dX6_mark_9 (by decide) (by omega) (by omega) (fun c2 => ?_) (fun c2 => ?_)
    · skip
      exact absurd c2 (by omega)
    · skip
      refine r_aload_n dX6_mark_12 rfl ?_
      refine r_get (k := 6) dX6_mark_13 hA rfl rfl (by decide) kX6_18F ?_
      refine r_iload_n dX6_mark_16 rfl ?_
      refine r_iconst (v := nI 4) dX6_mark_17 (by decide) ?_
      refine r_imulN dX6_mark_18 ?_
      refine r_iload_n dX6_mark_19 rfl ?_
      refine r_iaddN dX6_mark_20 ?_
      refine r_ialdN dX6_mark_21 hf (by omega) (by decide) (hv _ (by omega)) ?_
      refine r_goto (tgt := 26) dX6_mark_22 (by decide) ?_
      exact fR_iret dX6_mark_26 rfl (isI_of (by rfl))
theorem tX6_mark_o {l : Launch} {κ : KP} {M : Mem} {a b k : Nat} {g : Nat → Int32} (hS : SpAt M a b g k) (hO : SpOk g k) {r w : Nat} (hr : pMany g k ≤ r) (hr2 : r < 2 ^ 31) : fM l κ mX6_mark [.ref (a), .int (nI (r)), .int (nI (w))] M (isI (-1) M) := by
  refine fM_of rfl (by decide +kernel) (Nat.le_of_ble_eq_true rfl) ?_
  obtain ⟨hA, f, hf, hv⟩ := id hS
  have h5 := hO.m5
  have h9 := hO.m9
  show fR l κ mX6_mark 0 [(0, .ref (a)), (1, .int (nI (r))), (2, .int (nI (w)))] [] M 0 0 _
  refine r_iload_n dX6_mark_0 rfl ?_
  refine r_if_ltN (tgt := 25) dX6_mark_1 (by decide) (by omega) (fun c1 => ?_) (fun c1 => ?_)
  · skip
    exact absurd c1 (by omega)
  · skip
    refine r_iload_n dX6_mark_4 rfl ?_
    refine r_aload_n dX6_mark_5 rfl ?_
    refine r_get (k := 5) dX6_mark_6 hA rfl rfl (by decide) kX6_31F ?_
    refine r_top (y := (nI (pMany g k))) h5 ?_
    refine r_icmp_geN (tgt := 25) dX6_mark_9 (by decide) (by omega) (by omega) (fun c2 => ?_) (fun c2 => ?_)
    · skip
      refine r_iconst (v := (-1)) dX6_mark_25 (by decide) ?_
      exact fR_iret dX6_mark_26 rfl (isI_of (by rfl))
    · skip
      exact absurd hr (by omega)
/-- the reasons, read forwards -/
def cWhy (g : Nat → Int32) (k : Nat) (ap : Int32) : Nat → Nat → Int32 → Int32 → Int32
  | 0, _, lo, hi => if hi - lo ≤ ap then nI 0 else nI 7
  | N + 1, r, lo, hi => if pOf g k (6 + (r * 4 + 2)) = nI 100 then (if pOf g k (6 + (r * 4 + 3)) = nI 5 then cWhy g k ap N (r + 1) (if pOf g k (6 + (r * 4 + 1)) < lo then pOf g k (6 + (r * 4 + 1)) else lo) (if hi < pOf g k (6 + (r * 4 + 1)) then pOf g k (6 + (r * 4 + 1)) else hi) else nI 6) else nI 6
theorem lX6_why {l : Launch} {κ : KP} {M : Mem} {a b k : Nat} {g : Nat → Int32} (hS : SpAt M a b g k) (hO : SpOk g k) {ap : Int32} : ∀ (N r : Nat) (lo hi : Int32), r + N = pMany g k → fR l κ mX6_whyNoPenetration 24 [(4, .int (nI (r))), (3, .int (hi)), (2, .int (lo)), (0, .ref (a)), (1, .int (ap))] [] M 0 0 (isI (cWhy g k ap N r lo hi) M) := by
  obtain ⟨hA, f, hf, hv⟩ := id hS
  have h5 := hO.m5
  have h9 := hO.m9
  intro N
  induction N with
  | zero =>
    intro r lo hi h1
    refine r_iload dX6_whyNoPenetration_24 rfl ?_
    refine r_aload_n dX6_whyNoPenetration_26 rfl ?_
    refine r_get (k := 5) dX6_whyNoPenetration_27 hA rfl rfl (by decide) kX6_31F ?_
    refine r_top (y := (nI (pMany g k))) h5 ?_
    refine r_icmp_geN (tgt := 103) dX6_whyNoPenetration_30 (by decide) (by omega) (by omega) (fun c1 => ?_) (fun c1 => ?_)
    · skip
      refine r_iload_n dX6_whyNoPenetration_103 rfl ?_
      refine r_iload_n dX6_whyNoPenetration_104 rfl ?_
      refine r_isub dX6_whyNoPenetration_105 ?_
      refine r_iload_n dX6_whyNoPenetration_106 rfl ?_
      refine r_icmp_le (tgt := 115) dX6_whyNoPenetration_107 (by decide) (fun c2 => ?_) (fun c2 => ?_)
      · skip
        refine r_iconst (v := nI 0) dX6_whyNoPenetration_115 (by decide) ?_
        exact fR_iret dX6_whyNoPenetration_116 rfl (isI_of (by unfold cWhy; (repeat (first | rw [if_pos (by first | assumption | exact Int32.not_le.mp (by assumption) | exact Int32.not_lt.mp (by assumption) | omega)] | rw [if_neg (by first | assumption | exact Int32.not_lt.mpr (by assumption) | exact Int32.not_le.mpr (by assumption) | exact bne_of (by assumption) | exact not_not_intro (by assumption) | omega)])); first | done | rfl))
      · skip
        refine r_bipush (v := nI 7) dX6_whyNoPenetration_110 (by decide) ?_
        refine r_goto (tgt := 116) dX6_whyNoPenetration_112 (by decide) ?_
        exact fR_iret dX6_whyNoPenetration_116 rfl (isI_of (by unfold cWhy; (repeat (first | rw [if_pos (by first | assumption | exact Int32.not_le.mp (by assumption) | exact Int32.not_lt.mp (by assumption) | omega)] | rw [if_neg (by first | assumption | exact Int32.not_lt.mpr (by assumption) | exact Int32.not_le.mpr (by assumption) | exact bne_of (by assumption) | exact not_not_intro (by assumption) | omega)])); first | done | rfl))
    · skip
      exact absurd h1 (by omega)
  | succ N ih =>
    intro r lo hi h1
    refine r_iload dX6_whyNoPenetration_24 rfl ?_
    refine r_aload_n dX6_whyNoPenetration_26 rfl ?_
    refine r_get (k := 5) dX6_whyNoPenetration_27 hA rfl rfl (by decide) kX6_31F ?_
    refine r_top (y := (nI (pMany g k))) h5 ?_
    refine r_icmp_geN (tgt := 103) dX6_whyNoPenetration_30 (by decide) (by omega) (by omega) (fun c1 => ?_) (fun c1 => ?_)
    · skip
      exact absurd h1 (by omega)
    · skip
      refine r_iload dX6_whyNoPenetration_33 rfl ?_
      refine r_iconst (v := nI 4) dX6_whyNoPenetration_35 (by decide) ?_
      refine r_imulN dX6_whyNoPenetration_36 ?_
      refine r_istore (lv' := [(5, .int (nI ((r * 4)))), (4, .int (nI (r))), (3, .int (hi)), (2, .int (lo)), (0, .ref (a)), (1, .int (ap))]) dX6_whyNoPenetration_37 (by decide) rfl ?_
      refine r_aload_n dX6_whyNoPenetration_39 rfl ?_
      refine r_get (k := 6) dX6_whyNoPenetration_40 hA rfl rfl (by decide) kX6_18F ?_
      refine r_iload dX6_whyNoPenetration_43 rfl ?_
      refine r_iconst (v := nI 2) dX6_whyNoPenetration_45 (by decide) ?_
      refine r_iaddN dX6_whyNoPenetration_46 ?_
      refine r_ialdN dX6_whyNoPenetration_47 hf (by omega) (by decide) (hv _ (by omega)) ?_
      refine r_bipush (v := nI 100) dX6_whyNoPenetration_48 (by decide) ?_
      refine r_icmp_ne (tgt := 66) dX6_whyNoPenetration_50 (by decide) (fun c2 => ?_) (fun c2 => ?_)
      · skip
        refine r_bipush (v := nI 6) dX6_whyNoPenetration_66 (by decide) ?_
        exact fR_iret dX6_whyNoPenetration_68 rfl (isI_of (by show _ = (if _ then (if _ then _ else _) else _); (repeat (first | rw [if_pos (by first | assumption | exact Int32.not_le.mp (by assumption) | exact Int32.not_lt.mp (by assumption) | omega)] | rw [if_neg (by first | assumption | exact Int32.not_lt.mpr (by assumption) | exact Int32.not_le.mpr (by assumption) | exact bne_of (by assumption) | exact not_not_intro (by assumption) | omega)])); first | done | rfl))
      · skip
        refine r_aload_n dX6_whyNoPenetration_53 rfl ?_
        refine r_get (k := 6) dX6_whyNoPenetration_54 hA rfl rfl (by decide) kX6_18F ?_
        refine r_iload dX6_whyNoPenetration_57 rfl ?_
        refine r_iconst (v := nI 3) dX6_whyNoPenetration_59 (by decide) ?_
        refine r_iaddN dX6_whyNoPenetration_60 ?_
        refine r_ialdN dX6_whyNoPenetration_61 hf (by omega) (by decide) (hv _ (by omega)) ?_
        refine r_iconst (v := nI 5) dX6_whyNoPenetration_62 (by decide) ?_
        refine r_icmp_eq (tgt := 69) dX6_whyNoPenetration_63 (by decide) (fun c3 => ?_) (fun c3 => ?_)
        · skip
          refine r_iload_n dX6_whyNoPenetration_69 rfl ?_
          refine r_aload_n dX6_whyNoPenetration_70 rfl ?_
          refine r_get (k := 6) dX6_whyNoPenetration_71 hA rfl rfl (by decide) kX6_18F ?_
          refine r_iload dX6_whyNoPenetration_74 rfl ?_
          refine r_iconst (v := nI 1) dX6_whyNoPenetration_76 (by decide) ?_
          refine r_iaddN dX6_whyNoPenetration_77 ?_
          refine r_ialdN dX6_whyNoPenetration_78 hf (by omega) (by decide) (hv _ (by omega)) ?_
          refine r_mmin dX6_whyNoPenetration_79 kX6_52M kJ_minS kJ_math kJ_minC (Nat.le_of_ble_eq_true rfl) (Nat.le_of_ble_eq_true rfl) ?_
          refine r_istore_n (lv' := [(2, .int ((if (pOf g k (6 + (((r * 4) + 1)))) < (lo) then (pOf g k (6 + (((r * 4) + 1)))) else (lo)))), (5, .int (nI ((r * 4)))), (4, .int (nI (r))), (3, .int (hi)), (0, .ref (a)), (1, .int (ap))]) dX6_whyNoPenetration_82 (by decide) rfl ?_
          refine r_iload_n dX6_whyNoPenetration_83 rfl ?_
          refine r_aload_n dX6_whyNoPenetration_84 rfl ?_
          refine r_get (k := 6) dX6_whyNoPenetration_85 hA rfl rfl (by decide) kX6_18F ?_
          refine r_iload dX6_whyNoPenetration_88 rfl ?_
          refine r_iconst (v := nI 1) dX6_whyNoPenetration_90 (by decide) ?_
          refine r_iaddN dX6_whyNoPenetration_91 ?_
          refine r_ialdN dX6_whyNoPenetration_92 hf (by omega) (by decide) (hv _ (by omega)) ?_
          refine r_mmax dX6_whyNoPenetration_93 kX6_49M kJ_maxS kJ_math kJ_maxC (Nat.le_of_ble_eq_true rfl) (Nat.le_of_ble_eq_true rfl) ?_
          refine r_istore_n (lv' := [(3, .int ((if (hi) < (pOf g k (6 + (((r * 4) + 1)))) then (pOf g k (6 + (((r * 4) + 1)))) else (hi)))), (2, .int ((if (pOf g k (6 + (((r * 4) + 1)))) < (lo) then (pOf g k (6 + (((r * 4) + 1)))) else (lo)))), (5, .int (nI ((r * 4)))), (4, .int (nI (r))), (0, .ref (a)), (1, .int (ap))]) dX6_whyNoPenetration_96 (by decide) rfl ?_
          refine r_iinc (v := (nI (r + 1))) (lv' := [(4, .int (nI (r + 1))), (3, .int ((if (hi) < (pOf g k (6 + (((r * 4) + 1)))) then (pOf g k (6 + (((r * 4) + 1)))) else (hi)))), (2, .int ((if (pOf g k (6 + (((r * 4) + 1)))) < (lo) then (pOf g k (6 + (((r * 4) + 1)))) else (lo)))), (5, .int (nI ((r * 4)))), (0, .ref (a)), (1, .int (ap))]) dX6_whyNoPenetration_97 rfl (nI_inc _) (by decide) rfl ?_
          refine r_goto (tgt := 24) dX6_whyNoPenetration_100 (by decide) ?_
          refine r_lv (lv' := [(4, .int (nI (r + 1))), (3, .int ((if (hi) < (pOf g k (6 + (((r * 4) + 1)))) then (pOf g k (6 + (((r * 4) + 1)))) else (hi)))), (2, .int ((if (pOf g k (6 + (((r * 4) + 1)))) < (lo) then (pOf g k (6 + (((r * 4) + 1)))) else (lo)))), (0, .ref (a)), (1, .int (ap))]) (by simp) ?_
          rw [show cWhy g k ap (N + 1) r lo hi = cWhy g k ap N (r + 1) (if pOf g k (6 + (r * 4 + 1)) < lo then pOf g k (6 + (r * 4 + 1)) else lo) (if hi < pOf g k (6 + (r * 4 + 1)) then pOf g k (6 + (r * 4 + 1)) else hi) from (if_pos (by assumption)).trans (if_pos (by assumption))]
          exact ih _ _ _ (by omega)
        · skip
          refine r_bipush (v := nI 6) dX6_whyNoPenetration_66 (by decide) ?_
          exact fR_iret dX6_whyNoPenetration_68 rfl (isI_of (by show _ = (if _ then (if _ then _ else _) else _); (repeat (first | rw [if_pos (by first | assumption | exact Int32.not_le.mp (by assumption) | exact Int32.not_lt.mp (by assumption) | omega)] | rw [if_neg (by first | assumption | exact Int32.not_lt.mpr (by assumption) | exact Int32.not_le.mpr (by assumption) | exact bne_of (by assumption) | exact not_not_intro (by assumption) | omega)])); first | done | rfl))
theorem mnN {a b : Nat} (ha : a < 2 ^ 31) (hb : b < 2 ^ 31) : (if nI a < nI b then nI a else nI b) = nI (min a b) := by
  by_cases h : a < b
  · rw [if_pos ((nI_ltI ha hb).mpr h), Nat.min_eq_left (by omega)]
  · rw [if_neg (fun q => h ((nI_ltI ha hb).mp q)), Nat.min_eq_right (by omega)]
theorem mxN {a b : Nat} (ha : a < 2 ^ 31) (hb : b < 2 ^ 31) : (if nI a < nI b then nI b else nI a) = nI (max a b) := by
  by_cases h : a < b
  · rw [if_pos ((nI_ltI ha hb).mpr h), Nat.max_eq_right (by omega)]
  · rw [if_neg (fun q => h ((nI_ltI ha hb).mp q)), Nat.max_eq_left (by omega)]
theorem cWhy_eq {g : Nat → Int32} {k : Nat} (hO : SpOk g k) (h3 : 3 ≤ pMany g k) : cWhy g k (g 6) 3 (pMany g k - 3) (nI 400) (nI 0) = pWhy g k := by
  have h9 := hO.m9
  have e2 : ∀ w, pOf g k (6 + ((pMany g k - 3) * 4 + w)) = pLat g k 2 w := fun w => by unfold pLat; congr 1; omega
  have e1 : ∀ w, pOf g k (6 + ((pMany g k - 3 + 1) * 4 + w)) = pLat g k 1 w := fun w => by unfold pLat; congr 1; omega
  have e0 : ∀ w, pOf g k (6 + ((pMany g k - 3 + 1 + 1) * 4 + w)) = pLat g k 0 w := fun w => by unfold pLat; congr 1; omega
  have hy : ∀ a, a < 3 → ∃ y, y ≤ 400 ∧ pLat g k a 1 = nI y := fun a ha => (hO.2.2.2.2 (pMany g k - 1 - a) (by omega)).2
  obtain ⟨y0, l0, q0⟩ := hy 0 (by omega)
  obtain ⟨y1, l1, q1⟩ := hy 1 (by omega)
  obtain ⟨y2, l2, q2⟩ := hy 2 (by omega)
  have eL : pLeast g k 3 = nI (min y2 (min y1 (min y0 400))) := by
    unfold pLeast; unfold pLeast; unfold pLeast; unfold pLeast
    rw [q0, q1, q2, mnN (by omega) (by omega), mnN (by omega) (by omega), mnN (by omega) (by omega)]
  have eM : pMost g k 3 = nI (max (max (max 0 y0) y1) y2) := by
    unfold pMost; unfold pMost; unfold pMost; unfold pMost
    rw [q0, q1, q2, mxN (by omega) (by omega), mxN (by omega) (by omega), mxN (by omega) (by omega)]
  have eA : pAre g k 3 = (((pLat g k 0 2 = nI 100 ∧ pLat g k 0 3 = nI 5) ∧ (pLat g k 1 2 = nI 100 ∧ pLat g k 1 3 = nI 5)) ∧ (pLat g k 2 2 = nI 100 ∧ pLat g k 2 3 = nI 5) : Bool) := by
    unfold pAre; unfold pAre; unfold pAre; unfold pAre
    simp
  unfold pWhy
  rw [if_neg (by omega), eA, eL, eM]
  unfold cWhy; unfold cWhy; unfold cWhy; unfold cWhy
  rw [e2, e1, e0, e2, e1, e0, e2, e1, e0, q0, q1, q2, mnN (by omega) (by omega), mnN (by omega) (by omega), mnN (by omega) (by omega), mxN (by omega) (by omega), mxN (by omega) (by omega), mxN (by omega) (by omega)]
  have en : max (max (max 0 y2) y1) y0 = max (max (max 0 y0) y1) y2 := by omega
  have em : min y0 (min y1 (min y2 400)) = min y2 (min y1 (min y0 400)) := by omega
  rw [en, em]
  by_cases a2 : pLat g k 2 2 = nI 100
  · by_cases b2 : pLat g k 2 3 = nI 5
    · by_cases a1 : pLat g k 1 2 = nI 100
      · by_cases b1 : pLat g k 1 3 = nI 5
        · by_cases a0 : pLat g k 0 2 = nI 100
          · by_cases b0 : pLat g k 0 3 = nI 5
            · simp only [a0, a1, a2, b0, b1, b2, and_self, decide_true, if_true, ← Int32.not_le]
              by_cases hc : nI (max (max (max 0 y0) y1) y2) - nI (min y2 (min y1 (min y0 400))) ≤ g 6
              · rw [if_pos hc, if_neg (fun h => h hc)]
              · rw [if_neg hc, if_pos hc]
            · simp [a0, a1, a2, b0, b1, b2]
          · simp [a0, a1, a2, b1, b2]
        · simp [a1, a2, b1, b2]
      · simp [a1, a2, b2]
    · simp [a2, b2]
  · simp [a2]
theorem tX6_why {l : Launch} {κ : KP} {M : Mem} {a b k : Nat} {g : Nat → Int32} (hS : SpAt M a b g k) (hO : SpOk g k) {ap : Int32} (hap : ap = g 6) : fM l κ mX6_whyNoPenetration [.ref (a), .int (ap)] M (isI (pWhy g k) M) := by
  refine fM_of rfl (by decide +kernel) (Nat.le_of_ble_eq_true rfl) ?_
  obtain ⟨hA, f, hf, hv⟩ := id hS
  have h5 := hO.m5
  have h9 := hO.m9
  show fR l κ mX6_whyNoPenetration 0 [(0, .ref (a)), (1, .int (ap))] [] M 0 0 _
  refine r_aload_n dX6_whyNoPenetration_0 rfl ?_
  refine r_get (k := 5) dX6_whyNoPenetration_1 hA rfl rfl (by decide) kX6_31F ?_
  refine r_top (y := (nI (pMany g k))) h5 ?_
  refine r_iconst (v := nI 3) dX6_whyNoPenetration_4 (by decide) ?_
  refine r_icmp_geN (tgt := 10) dX6_whyNoPenetration_5 (by decide) (by omega) (by omega) (fun c1 => ?_) (fun c1 => ?_)
  · skip
    refine r_sipush (v := nI 400) dX6_whyNoPenetration_10 (by decide) ?_
    refine r_istore_n (lv' := [(2, .int (nI (400))), (0, .ref (a)), (1, .int (ap))]) dX6_whyNoPenetration_13 (by decide) rfl ?_
    refine r_iconst (v := nI 0) dX6_whyNoPenetration_14 (by decide) ?_
    refine r_istore_n (lv' := [(3, .int (nI (0))), (2, .int (nI (400))), (0, .ref (a)), (1, .int (ap))]) dX6_whyNoPenetration_15 (by decide) rfl ?_
    refine r_aload_n dX6_whyNoPenetration_16 rfl ?_
    refine r_get (k := 5) dX6_whyNoPenetration_17 hA rfl rfl (by decide) kX6_31F ?_
    refine r_top (y := (nI (pMany g k))) h5 ?_
    refine r_iconst (v := nI 3) dX6_whyNoPenetration_20 (by decide) ?_
    refine r_isubN dX6_whyNoPenetration_21 (by omega) ?_
    refine r_istore (lv' := [(4, .int (nI ((pMany g k - 3)))), (3, .int (nI (0))), (2, .int (nI (400))), (0, .ref (a)), (1, .int (ap))]) dX6_whyNoPenetration_22 (by decide) rfl ?_
    have h3 : pMany g k - 3 + 3 = pMany g k := by omega
    rw [← cWhy_eq hO (by omega), ← hap]
    refine r_lv (lv' := [(4, .int (nI ((pMany g k - 3)))), (3, .int (nI (0))), (2, .int (nI (400))), (0, .ref (a)), (1, .int (ap))]) (by simp) ?_
    exact lX6_why hS hO 3 _ _ _ h3
  · skip
    refine r_iconst (v := nI 5) dX6_whyNoPenetration_8 (by decide) ?_
    exact fR_iret dX6_whyNoPenetration_9 rfl (isI_of (by unfold pWhy; rw [if_pos (by omega)]))
theorem pWhy_pos {g : Nat → Int32} {k : Nat} : (0 < pWhy g k ↔ ¬ pWhy g k = 0) ∧ (pWhy g k ≤ 0 ↔ pWhy g k = 0) := by
  unfold pWhy
  split
  · decide
  · split
    · split <;> decide
    · decide
theorem pPen_eq {g : Nat → Int32} {k : Nat} (hO : SpOk g k) (h : pWhy g k = 0) : pDiv (nI 0 + pOf g k (6 + ((pMany g k - 3) * 4 + 1)) + pOf g k (6 + ((pMany g k - 3 + 1) * 4 + 1)) + pOf g k (6 + ((pMany g k - 3 + 1 + 1) * 4 + 1))) (nI 3) = pPen g k := by
  have h3 := pWhy_many (pWhy_pos.2.mpr h)
  have h9 := hO.m9
  have hy : ∀ a, a < 3 → ∃ y, y ≤ 400 ∧ pLat g k a 1 = nI y := fun a ha => (hO.2.2.2.2 (pMany g k - 1 - a) (by omega)).2
  obtain ⟨y0, l0, q0⟩ := hy 0 (by omega)
  obtain ⟨y1, l1, q1⟩ := hy 1 (by omega)
  obtain ⟨y2, l2, q2⟩ := hy 2 (by omega)
  have e2 : pOf g k (6 + ((pMany g k - 3) * 4 + 1)) = nI y2 := by rw [← q2]; unfold pLat; congr 1; omega
  have e1 : pOf g k (6 + ((pMany g k - 3 + 1) * 4 + 1)) = nI y1 := by rw [← q1]; unfold pLat; congr 1; omega
  have e0 : pOf g k (6 + ((pMany g k - 3 + 1 + 1) * 4 + 1)) = nI y0 := by rw [← q0]; unfold pLat; congr 1; omega
  unfold pPen
  rw [if_neg (fun q => pWhy_pos.1.mp q h), e0, e1, e2, q0, q1, q2, nI_add, nI_add, nI_add, nI_add, nI_add, pDiv_n (by omega) (by omega) (by omega), pk_div (by omega) (by omega) (by omega)]
  congr 2; omega
theorem tX6_pen {l : Launch} {κ : KP} {M : Mem} {a b k : Nat} {g : Nat → Int32} (hS : SpAt M a b g k) (hO : SpOk g k) {ap : Int32} (hap : ap = g 6) : fM l κ mX6_penetration [.ref (a), .int (ap)] M (isI (pPen g k) M) := by
  refine fM_of rfl (by decide +kernel) (Nat.le_of_ble_eq_true rfl) ?_
  obtain ⟨hA, f, hf, hv⟩ := id hS
  have h5 := hO.m5
  have h9 := hO.m9
  show fR l κ mX6_penetration 0 [(0, .ref (a)), (1, .int (ap))] [] M 0 0 _
  refine r_aload_n dX6_penetration_0 rfl ?_
  refine r_iload_n dX6_penetration_1 rfl ?_
  refine r_callV (As := [.int (ap)]) dX6_penetration_2 (tX6_why hS hO hap) rfl hA rfl rfl oX6_whyNoPenetration rfl kX6_55M nX6_whyNoPenetration eX6_whyNoPenetration (by unfold fRoom; decide) (Nat.le_of_ble_eq_true rfl) rfl (bc' := 0) (bs' := 0) rfl rfl ?_
  show fR _ _ _ 5 _ (.int (pWhy g k) :: _) _ _ _ _
  refine r_if_eq (tgt := 10) dX6_penetration_5 (by decide) (fun c1 => ?_) (fun c1 => ?_)
  · skip
    have h3 := pWhy_many (pWhy_pos.2.mpr (by assumption))
    refine r_iconst (v := nI 0) dX6_penetration_10 (by decide) ?_
    refine r_istore_n (lv' := [(2, .int (nI (0))), (0, .ref (a)), (1, .int (ap))]) dX6_penetration_11 (by decide) rfl ?_
    refine r_aload_n dX6_penetration_12 rfl ?_
    refine r_get (k := 5) dX6_penetration_13 hA rfl rfl (by decide) kX6_31F ?_
    refine r_top (y := (nI (pMany g k))) h5 ?_
    refine r_iconst (v := nI 3) dX6_penetration_16 (by decide) ?_
    refine r_isubN dX6_penetration_17 (by omega) ?_
    refine r_istore_n (lv' := [(3, .int (nI ((pMany g k - 3)))), (2, .int (nI (0))), (0, .ref (a)), (1, .int (ap))]) dX6_penetration_18 (by decide) rfl ?_
    refine r_iload_n dX6_penetration_19 rfl ?_
    refine r_aload_n dX6_penetration_20 rfl ?_
    refine r_get (k := 5) dX6_penetration_21 hA rfl rfl (by decide) kX6_31F ?_
    refine r_top (y := (nI (pMany g k))) h5 ?_
    refine r_icmp_geN (tgt := 42) dX6_penetration_24 (by decide) (by omega) (by omega) (fun c2 => ?_) (fun c2 => ?_)
    · skip
      exact absurd c2 (by omega)
    · skip
      refine r_iload_n dX6_penetration_27 rfl ?_
      refine r_aload_n dX6_penetration_28 rfl ?_
      refine r_iload_n dX6_penetration_29 rfl ?_
      refine r_iconst (v := nI 1) dX6_penetration_30 (by decide) ?_
      refine r_callV (As := [.int (nI ((pMany g k - 3))), .int (nI (1))]) dX6_penetration_31 (tX6_mark hS hO (by omega) (by omega)) rfl hA rfl rfl oX6_mark rfl kX6_59M nX6_mark eX6_mark (by unfold fRoom; decide) (Nat.le_of_ble_eq_true rfl) rfl (bc' := 0) (bs' := 0) rfl rfl ?_
      show fR _ _ _ 34 _ (.int (pOf g k (6 + (((pMany g k - 3)) * 4 + 1))) :: _) _ _ _ _
      refine r_iadd dX6_penetration_34 ?_
      refine r_istore_n (lv' := [(2, .int (((nI (0)) + (pOf g k (6 + (((pMany g k - 3)) * 4 + 1)))))), (3, .int (nI ((pMany g k - 3)))), (0, .ref (a)), (1, .int (ap))]) dX6_penetration_35 (by decide) rfl ?_
      refine r_iinc (v := (nI ((pMany g k - 3) + 1))) (lv' := [(3, .int (nI ((pMany g k - 3) + 1))), (2, .int (((nI (0)) + (pOf g k (6 + (((pMany g k - 3)) * 4 + 1)))))), (0, .ref (a)), (1, .int (ap))]) dX6_penetration_36 rfl (nI_inc _) (by decide) rfl ?_
      refine r_goto (tgt := 19) dX6_penetration_39 (by decide) ?_
      refine r_iload_n dX6_penetration_19 rfl ?_
      refine r_aload_n dX6_penetration_20 rfl ?_
      refine r_get (k := 5) dX6_penetration_21 hA rfl rfl (by decide) kX6_31F ?_
      refine r_top (y := (nI (pMany g k))) h5 ?_
      refine r_icmp_geN (tgt := 42) dX6_penetration_24 (by decide) (by omega) (by omega) (fun c3 => ?_) (fun c3 => ?_)
      · skip
        exact absurd c3 (by omega)
      · skip
        refine r_iload_n dX6_penetration_27 rfl ?_
        refine r_aload_n dX6_penetration_28 rfl ?_
        refine r_iload_n dX6_penetration_29 rfl ?_
        refine r_iconst (v := nI 1) dX6_penetration_30 (by decide) ?_
        refine r_callV (As := [.int (nI ((pMany g k - 3) + 1)), .int (nI (1))]) dX6_penetration_31 (tX6_mark hS hO (by omega) (by omega)) rfl hA rfl rfl oX6_mark rfl kX6_59M nX6_mark eX6_mark (by unfold fRoom; decide) (Nat.le_of_ble_eq_true rfl) rfl (bc' := 0) (bs' := 0) rfl rfl ?_
        show fR _ _ _ 34 _ (.int (pOf g k (6 + (((pMany g k - 3) + 1) * 4 + 1))) :: _) _ _ _ _
        refine r_iadd dX6_penetration_34 ?_
        refine r_istore_n (lv' := [(2, .int (((((nI (0)) + (pOf g k (6 + (((pMany g k - 3)) * 4 + 1))))) + (pOf g k (6 + (((pMany g k - 3) + 1) * 4 + 1)))))), (3, .int (nI ((pMany g k - 3) + 1))), (0, .ref (a)), (1, .int (ap))]) dX6_penetration_35 (by decide) rfl ?_
        refine r_iinc (v := (nI ((pMany g k - 3) + 1 + 1))) (lv' := [(3, .int (nI ((pMany g k - 3) + 1 + 1))), (2, .int (((((nI (0)) + (pOf g k (6 + (((pMany g k - 3)) * 4 + 1))))) + (pOf g k (6 + (((pMany g k - 3) + 1) * 4 + 1)))))), (0, .ref (a)), (1, .int (ap))]) dX6_penetration_36 rfl (nI_inc _) (by decide) rfl ?_
        refine r_goto (tgt := 19) dX6_penetration_39 (by decide) ?_
        refine r_iload_n dX6_penetration_19 rfl ?_
        refine r_aload_n dX6_penetration_20 rfl ?_
        refine r_get (k := 5) dX6_penetration_21 hA rfl rfl (by decide) kX6_31F ?_
        refine r_top (y := (nI (pMany g k))) h5 ?_
        refine r_icmp_geN (tgt := 42) dX6_penetration_24 (by decide) (by omega) (by omega) (fun c4 => ?_) (fun c4 => ?_)
        · skip
          exact absurd c4 (by omega)
        · skip
          refine r_iload_n dX6_penetration_27 rfl ?_
          refine r_aload_n dX6_penetration_28 rfl ?_
          refine r_iload_n dX6_penetration_29 rfl ?_
          refine r_iconst (v := nI 1) dX6_penetration_30 (by decide) ?_
          refine r_callV (As := [.int (nI ((pMany g k - 3) + 1 + 1)), .int (nI (1))]) dX6_penetration_31 (tX6_mark hS hO (by omega) (by omega)) rfl hA rfl rfl oX6_mark rfl kX6_59M nX6_mark eX6_mark (by unfold fRoom; decide) (Nat.le_of_ble_eq_true rfl) rfl (bc' := 0) (bs' := 0) rfl rfl ?_
          show fR _ _ _ 34 _ (.int (pOf g k (6 + (((pMany g k - 3) + 1 + 1) * 4 + 1))) :: _) _ _ _ _
          refine r_iadd dX6_penetration_34 ?_
          refine r_istore_n (lv' := [(2, .int (((((((nI (0)) + (pOf g k (6 + (((pMany g k - 3)) * 4 + 1))))) + (pOf g k (6 + (((pMany g k - 3) + 1) * 4 + 1))))) + (pOf g k (6 + (((pMany g k - 3) + 1 + 1) * 4 + 1)))))), (3, .int (nI ((pMany g k - 3) + 1 + 1))), (0, .ref (a)), (1, .int (ap))]) dX6_penetration_35 (by decide) rfl ?_
          refine r_iinc (v := (nI ((pMany g k - 3) + 1 + 1 + 1))) (lv' := [(3, .int (nI ((pMany g k - 3) + 1 + 1 + 1))), (2, .int (((((((nI (0)) + (pOf g k (6 + (((pMany g k - 3)) * 4 + 1))))) + (pOf g k (6 + (((pMany g k - 3) + 1) * 4 + 1))))) + (pOf g k (6 + (((pMany g k - 3) + 1 + 1) * 4 + 1)))))), (0, .ref (a)), (1, .int (ap))]) dX6_penetration_36 rfl (nI_inc _) (by decide) rfl ?_
          refine r_goto (tgt := 19) dX6_penetration_39 (by decide) ?_
          refine r_iload_n dX6_penetration_19 rfl ?_
          refine r_aload_n dX6_penetration_20 rfl ?_
          refine r_get (k := 5) dX6_penetration_21 hA rfl rfl (by decide) kX6_31F ?_
          refine r_top (y := (nI (pMany g k))) h5 ?_
          refine r_icmp_geN (tgt := 42) dX6_penetration_24 (by decide) (by omega) (by omega) (fun c5 => ?_) (fun c5 => ?_)
          · skip
            refine r_iload_n dX6_penetration_42 rfl ?_
            refine r_iconst (v := nI 3) dX6_penetration_43 (by decide) ?_
            refine r_callS (As := [.int (((((((nI (0)) + (pOf g k (6 + (((pMany g k - 3)) * 4 + 1))))) + (pOf g k (6 + (((pMany g k - 3) + 1) * 4 + 1))))) + (pOf g k (6 + (((pMany g k - 3) + 1 + 1) * 4 + 1))))), .int (nI (3))]) dX6_penetration_44 (tJ9_floorDiv (by omega) (by omega)) rfl oJ9_floorDiv_7cf53 rfl kX6_44M sJ9_floorDiv_7cf53 (by unfold fRoom; decide) (Nat.le_of_ble_eq_true rfl) rfl (bc' := 0) (bs' := 0) rfl rfl ?_
            show fR _ _ _ 47 _ (.int (pDiv (((((((nI (0)) + (pOf g k (6 + (((pMany g k - 3)) * 4 + 1))))) + (pOf g k (6 + (((pMany g k - 3) + 1) * 4 + 1))))) + (pOf g k (6 + (((pMany g k - 3) + 1 + 1) * 4 + 1))))) (nI (3))) :: _) _ _ _ _
            exact fR_iret dX6_penetration_47 rfl (isI_of (pPen_eq hO (by assumption)))
          · skip
            exact absurd (show pMany g k ≤ (pMany g k - 3) + 1 + 1 + 1 by omega) c5
  · skip
    refine r_iconst (v := (-1)) dX6_penetration_8 (by decide) ?_
    exact fR_iret dX6_penetration_9 rfl (isI_of (by unfold pPen; rw [if_pos (pWhy_pos.1.mpr (by assumption))]))
/-- the mask, read forwards -/
def cMask (g : Nat → Int32) (k : Nat) : Nat → Nat → Int32 → Int32
  | 0, _, m => m
  | N + 1, r, m => cMask g k N (r + 1) (m ||| (nI 1 <<< (pOf g k (6 + (r * 4 + 0)) &&& 31)))
theorem cMask_eq {g : Nat → Int32} {k : Nat} (hO : SpOk g k) : cMask g k (min 3 (pMany g k)) (pMany g k - 3) (nI 0) = pNeed g k := by
  have h9 := hO.m9
  unfold pNeed
  have hc : pMany g k = 0 ∨ pMany g k = 1 ∨ pMany g k = 2 ∨ 3 ≤ pMany g k := by omega
  rcases hc with h | h | h | h
  · rw [h]; rfl
  · rw [h]
    show nI 0 ||| (nI 1 <<< (pOf g k (6 + ((1 - 3) * 4 + 0)) &&& 31)) = nI 0 ||| (nI 1 <<< (pLat g k 0 0 &&& 31))
    unfold pLat; rw [h]
  · rw [h]
    show nI 0 ||| (nI 1 <<< (pOf g k (6 + ((2 - 3) * 4 + 0)) &&& 31)) ||| (nI 1 <<< (pOf g k (6 + ((2 - 3 + 1) * 4 + 0)) &&& 31)) = nI 0 ||| (nI 1 <<< (pLat g k 0 0 &&& 31)) ||| (nI 1 <<< (pLat g k 1 0 &&& 31))
    unfold pLat; rw [h]
    rw [Int32.or_assoc, Int32.or_assoc]
    congr 1
    exact Int32.or_comm _ _
  · rw [Nat.min_eq_left h]
    show nI 0 ||| (nI 1 <<< (pOf g k (6 + ((pMany g k - 3) * 4 + 0)) &&& 31)) ||| (nI 1 <<< (pOf g k (6 + ((pMany g k - 3 + 1) * 4 + 0)) &&& 31)) ||| (nI 1 <<< (pOf g k (6 + ((pMany g k - 3 + 1 + 1) * 4 + 0)) &&& 31)) = nI 0 ||| (nI 1 <<< (pLat g k 0 0 &&& 31)) ||| (nI 1 <<< (pLat g k 1 0 &&& 31)) ||| (nI 1 <<< (pLat g k 2 0 &&& 31))
    have e2 : pOf g k (6 + ((pMany g k - 3) * 4 + 0)) = pLat g k 2 0 := by unfold pLat; congr 1; omega
    have e1 : pOf g k (6 + ((pMany g k - 3 + 1) * 4 + 0)) = pLat g k 1 0 := by unfold pLat; congr 1; omega
    have e0 : pOf g k (6 + ((pMany g k - 3 + 1 + 1) * 4 + 0)) = pLat g k 0 0 := by unfold pLat; congr 1; omega
    rw [e0, e1, e2]
    generalize nI 1 <<< (pLat g k 0 0 &&& 31) = x0
    generalize nI 1 <<< (pLat g k 1 0 &&& 31) = x1
    generalize nI 1 <<< (pLat g k 2 0 &&& 31) = x2
    rw [Int32.or_assoc, Int32.or_assoc, Int32.or_assoc, Int32.or_assoc]
    congr 1
    rw [← Int32.or_assoc x0, Int32.or_comm x0 x1, Int32.or_assoc, Int32.or_comm x2, Int32.or_assoc]
theorem lX6_mask {l : Launch} {κ : KP} {M : Mem} {a b k : Nat} {g : Nat → Int32} (hS : SpAt M a b g k) (hO : SpOk g k) : ∀ (N r : Nat) (mk : Int32), r + N = pMany g k → fR l κ mX6_latestNeedles 13 [(2, .int (nI (r))), (1, .int (mk)), (0, .ref (a))] [] M 0 0 (isI (cMask g k N r mk) M) := by
  obtain ⟨hA, f, hf, hv⟩ := id hS
  have h5 := hO.m5
  have h9 := hO.m9
  intro N
  induction N with
  | zero =>
    intro r mk h1
    refine r_iload_n dX6_latestNeedles_13 rfl ?_
    refine r_aload_n dX6_latestNeedles_14 rfl ?_
    refine r_get (k := 5) dX6_latestNeedles_15 hA rfl rfl (by decide) kX6_31F ?_
    refine r_top (y := (nI (pMany g k))) h5 ?_
    refine r_icmp_geN (tgt := 38) dX6_latestNeedles_18 (by decide) (by omega) (by omega) (fun c1 => ?_) (fun c1 => ?_)
    · skip
      refine r_iload_n dX6_latestNeedles_38 rfl ?_
      exact fR_iret dX6_latestNeedles_39 rfl (isI_of (by rfl))
    · skip
      exact absurd h1 (by omega)
  | succ N ih =>
    intro r mk h1
    refine r_iload_n dX6_latestNeedles_13 rfl ?_
    refine r_aload_n dX6_latestNeedles_14 rfl ?_
    refine r_get (k := 5) dX6_latestNeedles_15 hA rfl rfl (by decide) kX6_31F ?_
    refine r_top (y := (nI (pMany g k))) h5 ?_
    refine r_icmp_geN (tgt := 38) dX6_latestNeedles_18 (by decide) (by omega) (by omega) (fun c1 => ?_) (fun c1 => ?_)
    · skip
      exact absurd h1 (by omega)
    · skip
      refine r_iload_n dX6_latestNeedles_21 rfl ?_
      refine r_iconst (v := nI 1) dX6_latestNeedles_22 (by decide) ?_
      refine r_aload_n dX6_latestNeedles_23 rfl ?_
      refine r_iload_n dX6_latestNeedles_24 rfl ?_
      refine r_iconst (v := nI 0) dX6_latestNeedles_25 (by decide) ?_
      refine r_callV (As := [.int (nI (r)), .int (nI (0))]) dX6_latestNeedles_26 (tX6_mark hS hO (by omega) (by omega)) rfl hA rfl rfl oX6_mark rfl kX6_59M nX6_mark eX6_mark (by unfold fRoom; decide) (Nat.le_of_ble_eq_true rfl) rfl (bc' := 0) (bs' := 0) rfl rfl ?_
      show fR _ _ _ 29 _ (.int (pOf g k (6 + ((r) * 4 + 0))) :: _) _ _ _ _
      refine r_ishl dX6_latestNeedles_29 ?_
      refine r_ior dX6_latestNeedles_30 ?_
      refine r_istore_n (lv' := [(1, .int (((mk) ||| (((nI (1)) <<< ((pOf g k (6 + ((r) * 4 + 0))) &&& 31)))))), (2, .int (nI (r))), (0, .ref (a))]) dX6_latestNeedles_31 (by decide) rfl ?_
      refine r_iinc (v := (nI (r + 1))) (lv' := [(2, .int (nI (r + 1))), (1, .int (((mk) ||| (((nI (1)) <<< ((pOf g k (6 + ((r) * 4 + 0))) &&& 31)))))), (0, .ref (a))]) dX6_latestNeedles_32 rfl (nI_inc _) (by decide) rfl ?_
      refine r_goto (tgt := 13) dX6_latestNeedles_35 (by decide) ?_
      refine r_lv (lv' := [(2, .int (nI (r + 1))), (1, .int (((mk) ||| (((nI (1)) <<< ((pOf g k (6 + ((r) * 4 + 0))) &&& 31)))))), (0, .ref (a))]) (by simp) ?_
      exact ih _ _ (by omega)
theorem mx3 {m : Nat} (h : m ≤ 9) : (if (nI (0)) < ((nI m) - (nI (3))) then ((nI m) - (nI (3))) else (nI (0))) = nI (m - 3) := by
  by_cases c : 3 ≤ m
  · rw [pk_sub c]
    by_cases c2 : 0 < m - 3
    · rw [if_pos ((nI_ltI (by omega) (by omega)).mpr c2)]
    · rw [if_neg (fun q => c2 ((nI_ltI (by omega) (by omega)).mp q))]; congr 1; omega
  · have hm : m = 0 ∨ m = 1 ∨ m = 2 := by omega
    rcases hm with rfl | rfl | rfl <;> decide
theorem tX6_need {l : Launch} {κ : KP} {M : Mem} {a b k : Nat} {g : Nat → Int32} (hS : SpAt M a b g k) (hO : SpOk g k) : fM l κ mX6_latestNeedles [.ref (a)] M (isI (pNeed g k) M) := by
  refine fM_of rfl (by decide +kernel) (Nat.le_of_ble_eq_true rfl) ?_
  obtain ⟨hA, f, hf, hv⟩ := id hS
  have h5 := hO.m5
  have h9 := hO.m9
  show fR l κ mX6_latestNeedles 0 [(0, .ref (a))] [] M 0 0 _
  refine r_iconst (v := nI 0) dX6_latestNeedles_0 (by decide) ?_
  refine r_istore_n (lv' := [(1, .int (nI (0))), (0, .ref (a))]) dX6_latestNeedles_1 (by decide) rfl ?_
  refine r_iconst (v := nI 0) dX6_latestNeedles_2 (by decide) ?_
  refine r_aload_n dX6_latestNeedles_3 rfl ?_
  refine r_get (k := 5) dX6_latestNeedles_4 hA rfl rfl (by decide) kX6_31F ?_
  refine r_top (y := (nI (pMany g k))) h5 ?_
  refine r_iconst (v := nI 3) dX6_latestNeedles_7 (by decide) ?_
  refine r_isub dX6_latestNeedles_8 ?_
  refine r_mmax dX6_latestNeedles_9 kX6_49M kJ_maxS kJ_math kJ_maxC (Nat.le_of_ble_eq_true rfl) (Nat.le_of_ble_eq_true rfl) ?_
  refine r_top (y := (nI (pMany g k - 3))) (mx3 h9) ?_
  refine r_istore_n (lv' := [(2, .int (nI (pMany g k - 3))), (1, .int (nI (0))), (0, .ref (a))]) dX6_latestNeedles_12 (by decide) rfl ?_
  rw [← cMask_eq hO]
  exact lX6_mask hS hO _ _ _ (by omega)
theorem tX6_number_0 {l : Launch} {κ : KP} {M : Mem} {a b k : Nat} {g : Nat → Int32} (hS : SpAt M a b g k) (hO : SpOk g k) {ap : Int32} (hap : ap = g 6) : fM l κ mX6_number [.ref (a), .int (nI (0)), .int (ap)] M (isI (pOfSample g k 0) M) := by
  refine fM_of rfl (by decide +kernel) (Nat.le_of_ble_eq_true rfl) ?_
  obtain ⟨hA, f, hf, hv⟩ := id hS
  have h5 := hO.m5
  have h9 := hO.m9
  show fR l κ mX6_number 0 [(0, .ref (a)), (1, .int (nI (0))), (2, .int (ap))] [] M 0 0 _
  refine r_iload_n dX6_number_0 rfl ?_
  refine r_tableIn (off := 47) (tgt := 48) dX6_number_1 (by decide) (by decide) (by decide) (by decide) ?_
  refine r_aload_n dX6_number_48 rfl ?_
  refine r_get (k := 0) dX6_number_49 hA rfl rfl (by decide) kX6_22F ?_
  exact fR_iret dX6_number_52 rfl (isI_of (by rfl))
theorem tX6_number_1 {l : Launch} {κ : KP} {M : Mem} {a b k : Nat} {g : Nat → Int32} (hS : SpAt M a b g k) (hO : SpOk g k) {ap : Int32} (hap : ap = g 6) : fM l κ mX6_number [.ref (a), .int (nI (1)), .int (ap)] M (isI (pOfSample g k 1) M) := by
  refine fM_of rfl (by decide +kernel) (Nat.le_of_ble_eq_true rfl) ?_
  obtain ⟨hA, f, hf, hv⟩ := id hS
  have h5 := hO.m5
  have h9 := hO.m9
  show fR l κ mX6_number 0 [(0, .ref (a)), (1, .int (nI (1))), (2, .int (ap))] [] M 0 0 _
  refine r_iload_n dX6_number_0 rfl ?_
  refine r_tableIn (off := 52) (tgt := 53) dX6_number_1 (by decide) (by decide) (by decide) (by decide) ?_
  refine r_aload_n dX6_number_53 rfl ?_
  refine r_get (k := 1) dX6_number_54 hA rfl rfl (by decide) kX6_25F ?_
  exact fR_iret dX6_number_57 rfl (isI_of (by rfl))
theorem tX6_number_2 {l : Launch} {κ : KP} {M : Mem} {a b k : Nat} {g : Nat → Int32} (hS : SpAt M a b g k) (hO : SpOk g k) {ap : Int32} (hap : ap = g 6) : fM l κ mX6_number [.ref (a), .int (nI (2)), .int (ap)] M (isI (pOfSample g k 2) M) := by
  refine fM_of rfl (by decide +kernel) (Nat.le_of_ble_eq_true rfl) ?_
  obtain ⟨hA, f, hf, hv⟩ := id hS
  have h5 := hO.m5
  have h9 := hO.m9
  show fR l κ mX6_number 0 [(0, .ref (a)), (1, .int (nI (2))), (2, .int (ap))] [] M 0 0 _
  refine r_iload_n dX6_number_0 rfl ?_
  refine r_tableIn (off := 57) (tgt := 58) dX6_number_1 (by decide) (by decide) (by decide) (by decide) ?_
  refine r_aload_n dX6_number_58 rfl ?_
  refine r_get (k := 2) dX6_number_59 hA rfl rfl (by decide) kX6_28F ?_
  exact fR_iret dX6_number_62 rfl (isI_of (by rfl))
theorem tX6_number_3 {l : Launch} {κ : KP} {M : Mem} {a b k : Nat} {g : Nat → Int32} (hS : SpAt M a b g k) (hO : SpOk g k) {ap : Int32} (hap : ap = g 6) : fM l κ mX6_number [.ref (a), .int (nI (3)), .int (ap)] M (isI (pOfSample g k 3) M) := by
  refine fM_of rfl (by decide +kernel) (Nat.le_of_ble_eq_true rfl) ?_
  obtain ⟨hA, f, hf, hv⟩ := id hS
  have h5 := hO.m5
  have h9 := hO.m9
  show fR l κ mX6_number 0 [(0, .ref (a)), (1, .int (nI (3))), (2, .int (ap))] [] M 0 0 _
  refine r_iload_n dX6_number_0 rfl ?_
  refine r_tableIn (off := 62) (tgt := 63) dX6_number_1 (by decide) (by decide) (by decide) (by decide) ?_
  refine r_aload_n dX6_number_63 rfl ?_
  refine r_get (k := 3) dX6_number_64 hA rfl rfl (by decide) kX6_9F ?_
  exact fR_iret dX6_number_67 rfl (isI_of (by rfl))
theorem tX6_number_4 {l : Launch} {κ : KP} {M : Mem} {a b k : Nat} {g : Nat → Int32} (hS : SpAt M a b g k) (hO : SpOk g k) {ap : Int32} (hap : ap = g 6) : fM l κ mX6_number [.ref (a), .int (nI (4)), .int (ap)] M (isI (pOfSample g k 4) M) := by
  refine fM_of rfl (by decide +kernel) (Nat.le_of_ble_eq_true rfl) ?_
  obtain ⟨hA, f, hf, hv⟩ := id hS
  have h5 := hO.m5
  have h9 := hO.m9
  show fR l κ mX6_number 0 [(0, .ref (a)), (1, .int (nI (4))), (2, .int (ap))] [] M 0 0 _
  refine r_iload_n dX6_number_0 rfl ?_
  refine r_tableIn (off := 67) (tgt := 68) dX6_number_1 (by decide) (by decide) (by decide) (by decide) ?_
  refine r_aload_n dX6_number_68 rfl ?_
  refine r_get (k := 5) dX6_number_69 hA rfl rfl (by decide) kX6_31F ?_
  exact fR_iret dX6_number_72 rfl (isI_of (by rfl))
theorem tX6_number_5 {l : Launch} {κ : KP} {M : Mem} {a b k : Nat} {g : Nat → Int32} (hS : SpAt M a b g k) (hO : SpOk g k) {ap : Int32} (hap : ap = g 6) : fM l κ mX6_number [.ref (a), .int (nI (5)), .int (ap)] M (isI (pOfSample g k 5) M) := by
  refine fM_of rfl (by decide +kernel) (Nat.le_of_ble_eq_true rfl) ?_
  obtain ⟨hA, f, hf, hv⟩ := id hS
  have h5 := hO.m5
  have h9 := hO.m9
  show fR l κ mX6_number 0 [(0, .ref (a)), (1, .int (nI (5))), (2, .int (ap))] [] M 0 0 _
  refine r_iload_n dX6_number_0 rfl ?_
  refine r_tableIn (off := 72) (tgt := 73) dX6_number_1 (by decide) (by decide) (by decide) (by decide) ?_
  refine r_aload_n dX6_number_73 rfl ?_
  refine r_iload_n dX6_number_74 rfl ?_
  refine r_callV (As := [.int (ap)]) dX6_number_75 (tX6_pen hS hO hap) rfl hA rfl rfl oX6_penetration rfl kX6_62M nX6_penetration eX6_penetration (by unfold fRoom; decide) (Nat.le_of_ble_eq_true rfl) rfl (bc' := 0) (bs' := 0) rfl rfl ?_
  show fR _ _ _ 78 _ (.int (pPen g k) :: _) _ _ _ _
  exact fR_iret dX6_number_78 rfl (isI_of (by rfl))
theorem tX6_number_6 {l : Launch} {κ : KP} {M : Mem} {a b k : Nat} {g : Nat → Int32} (hS : SpAt M a b g k) (hO : SpOk g k) {ap : Int32} (hap : ap = g 6) : fM l κ mX6_number [.ref (a), .int (nI (6)), .int (ap)] M (isI (pOfSample g k 6) M) := by
  refine fM_of rfl (by decide +kernel) (Nat.le_of_ble_eq_true rfl) ?_
  obtain ⟨hA, f, hf, hv⟩ := id hS
  have h5 := hO.m5
  have h9 := hO.m9
  show fR l κ mX6_number 0 [(0, .ref (a)), (1, .int (nI (6))), (2, .int (ap))] [] M 0 0 _
  refine r_iload_n dX6_number_0 rfl ?_
  refine r_tableIn (off := 78) (tgt := 79) dX6_number_1 (by decide) (by decide) (by decide) (by decide) ?_
  refine r_aload_n dX6_number_79 rfl ?_
  refine r_iload_n dX6_number_80 rfl ?_
  refine r_callV (As := [.int (ap)]) dX6_number_81 (tX6_why hS hO hap) rfl hA rfl rfl oX6_whyNoPenetration rfl kX6_55M nX6_whyNoPenetration eX6_whyNoPenetration (by unfold fRoom; decide) (Nat.le_of_ble_eq_true rfl) rfl (bc' := 0) (bs' := 0) rfl rfl ?_
  show fR _ _ _ 84 _ (.int (pWhy g k) :: _) _ _ _ _
  exact fR_iret dX6_number_84 rfl (isI_of (by rfl))
theorem tX6_number_7 {l : Launch} {κ : KP} {M : Mem} {a b k : Nat} {g : Nat → Int32} (hS : SpAt M a b g k) (hO : SpOk g k) {ap : Int32} (hap : ap = g 6) : fM l κ mX6_number [.ref (a), .int (nI (7)), .int (ap)] M (isI (pOfSample g k 7) M) := by
  refine fM_of rfl (by decide +kernel) (Nat.le_of_ble_eq_true rfl) ?_
  obtain ⟨hA, f, hf, hv⟩ := id hS
  have h5 := hO.m5
  have h9 := hO.m9
  show fR l κ mX6_number 0 [(0, .ref (a)), (1, .int (nI (7))), (2, .int (ap))] [] M 0 0 _
  refine r_iload_n dX6_number_0 rfl ?_
  refine r_tableIn (off := 84) (tgt := 85) dX6_number_1 (by decide) (by decide) (by decide) (by decide) ?_
  refine r_aload_n dX6_number_85 rfl ?_
  refine r_get (k := 4) dX6_number_86 hA rfl rfl (by decide) kX6_15F ?_
  exact fR_iret dX6_number_89 rfl (isI_of (by rfl))
theorem tX6_number_8 {l : Launch} {κ : KP} {M : Mem} {a b k : Nat} {g : Nat → Int32} (hS : SpAt M a b g k) (hO : SpOk g k) {ap : Int32} (hap : ap = g 6) : fM l κ mX6_number [.ref (a), .int (nI (8)), .int (ap)] M (isI (pOfSample g k 8) M) := by
  refine fM_of rfl (by decide +kernel) (Nat.le_of_ble_eq_true rfl) ?_
  obtain ⟨hA, f, hf, hv⟩ := id hS
  have h5 := hO.m5
  have h9 := hO.m9
  show fR l κ mX6_number 0 [(0, .ref (a)), (1, .int (nI (8))), (2, .int (ap))] [] M 0 0 _
  refine r_iload_n dX6_number_0 rfl ?_
  refine r_tableOut (tgt := 90) dX6_number_1 (by decide) (by decide) ?_
  refine r_aload_n dX6_number_90 rfl ?_
  refine r_callV (As := []) dX6_number_91 (tX6_need hS hO) rfl hA rfl rfl oX6_latestNeedles rfl kX6_65M nX6_latestNeedles eX6_latestNeedles (by unfold fRoom; decide) (Nat.le_of_ble_eq_true rfl) rfl (bc' := 0) (bs' := 0) rfl rfl ?_
  show fR _ _ _ 94 _ (.int (pNeed g k) :: _) _ _ _ _
  exact fR_iret dX6_number_94 rfl (isI_of (by rfl))
theorem tX6_number {l : Launch} {κ : KP} {M : Mem} {a b k : Nat} {g : Nat → Int32} (hS : SpAt M a b g k) (hO : SpOk g k) {ap : Int32} (hap : ap = g 6) : ∀ {w : Nat}, w < 9 → fM l κ mX6_number [.ref a, .int (nI w), .int ap] M (isI (pOfSample g k w) M)
  | 0, _ => tX6_number_0 hS hO hap
  | 1, _ => tX6_number_1 hS hO hap
  | 2, _ => tX6_number_2 hS hO hap
  | 3, _ => tX6_number_3 hS hO hap
  | 4, _ => tX6_number_4 hS hO hap
  | 5, _ => tX6_number_5 hS hO hap
  | 6, _ => tX6_number_6 hS hO hap
  | 7, _ => tX6_number_7 hS hO hap
  | 8, _ => tX6_number_8 hS hO hap
  | x + 9, h => by omega
def cRing (h r : Int32) : Int32 := if nI 250 < nI 300 + nI 12 * h - nI 5 * r then nI 300 + nI 12 * h - nI 5 * r else nI 250
theorem tX6_soften_0 {l : Launch} {κ : KP} {M : Mem} {a b hd rd : Nat} {x0 x2 x3 x4 : Int32} (hA : M a = some (.inl (6, [.int x0, .int (nI hd), .int x2, .int x3, .int x4, .int (nI rd), .ref b]))) (hx : x4 = -1) : fM l κ mX6_soften [.ref (a)] M (isI (cRing (nI hd) (nI rd)) (fup M a (.inl (6, [.int x0, .int (nI hd), .int x2, .int x3, .int (cRing (nI hd) (nI rd)), .int (nI rd), .ref b])))) := by
  refine fM_of rfl (by decide +kernel) (Nat.le_of_ble_eq_true rfl) ?_
  show fR l κ mX6_soften 0 [(0, .ref (a))] [] M 0 0 _
  refine r_aload_n dX6_soften_0 rfl ?_
  refine r_get (k := 4) dX6_soften_1 hA rfl rfl (by decide) kX6_15F ?_
  refine r_iconst (v := (-1)) dX6_soften_4 (by decide) ?_
  refine r_icmp_ne (tgt := 36) dX6_soften_5 (by decide) (fun c1 => ?_) (fun c1 => ?_)
  · skip
    exact absurd hx c1
  · skip
    refine r_aload_n dX6_soften_8 rfl ?_
    refine r_sipush (v := nI 250) dX6_soften_9 (by decide) ?_
    refine r_sipush (v := nI 300) dX6_soften_12 (by decide) ?_
    refine r_bipush (v := nI 12) dX6_soften_15 (by decide) ?_
    refine r_aload_n dX6_soften_17 rfl ?_
    refine r_get (k := 1) dX6_soften_18 hA rfl rfl (by decide) kX6_25F ?_
    refine r_imulN dX6_soften_21 ?_
    refine r_iaddN dX6_soften_22 ?_
    refine r_iconst (v := nI 5) dX6_soften_23 (by decide) ?_
    refine r_aload_n dX6_soften_24 rfl ?_
    refine r_get (k := 5) dX6_soften_25 hA rfl rfl (by decide) kX6_31F ?_
    refine r_imulN dX6_soften_28 ?_
    refine r_isub dX6_soften_29 ?_
    refine r_mmax dX6_soften_30 kX6_49M kJ_maxS kJ_math kJ_maxC (Nat.le_of_ble_eq_true rfl) (Nat.le_of_ble_eq_true rfl) ?_
    refine r_top (y := ((cRing (nI hd) (nI rd)))) (by unfold cRing; rw [pk_mul, pk_mul, nI_add]) ?_
    refine r_put (k := 4) (fs' := [.int (x0), .int (nI (hd)), .int (x2), .int (x3), .int ((cRing (nI hd) (nI rd))), .int (nI (rd)), .ref (b)]) dX6_soften_33 hA rfl (by decide) kX6_15F rfl rfl rfl (Nat.le_of_ble_eq_true rfl) rfl ?_
    refine r_aload_n dX6_soften_36 rfl ?_
    refine r_get (k := 4) dX6_soften_37 fup_eq rfl rfl (by decide) kX6_15F ?_
    exact fR_iret dX6_soften_40 rfl (isI_of (by unfold cRing; rw [pk_mul, pk_mul, nI_add]))
theorem tX6_soften_1 {l : Launch} {κ : KP} {M : Mem} {a b hd rd : Nat} {x0 x2 x3 x4 : Int32} (hA : M a = some (.inl (6, [.int x0, .int (nI hd), .int x2, .int x3, .int x4, .int (nI rd), .ref b]))) (hx : ¬ x4 = -1) : fM l κ mX6_soften [.ref (a)] M (isI x4 M) := by
  refine fM_of rfl (by decide +kernel) (Nat.le_of_ble_eq_true rfl) ?_
  show fR l κ mX6_soften 0 [(0, .ref (a))] [] M 0 0 _
  refine r_aload_n dX6_soften_0 rfl ?_
  refine r_get (k := 4) dX6_soften_1 hA rfl rfl (by decide) kX6_15F ?_
  refine r_iconst (v := (-1)) dX6_soften_4 (by decide) ?_
  refine r_icmp_ne (tgt := 36) dX6_soften_5 (by decide) (fun c1 => ?_) (fun c1 => ?_)
  · skip
    refine r_aload_n dX6_soften_36 rfl ?_
    refine r_get (k := 4) dX6_soften_37 hA rfl rfl (by decide) kX6_15F ?_
    exact fR_iret dX6_soften_40 rfl (isI_of (by rfl))
  · skip
    exact absurd c1 hx
theorem tX6_begin {l : Launch} {κ : KP} {M : Mem} {a b : Nat} {x0 x1 x2 x3 x4 x5 : Int32} (hA : M a = some (.inl (6, [.int x0, .int x1, .int x2, .int x3, .int x4, .int x5, .ref b]))) {d h : Int32} : fM l κ mX6_begin [.ref (a), .int (d), .int (h)] M (isR none (fup M a (.inl (6, [.int d, .int h, .int (nI 200), .int (-1), .int (-1), .int (nI 0), .ref b])))) := by
  refine fM_of rfl (by decide +kernel) (Nat.le_of_ble_eq_true rfl) ?_
  show fR l κ mX6_begin 0 [(0, .ref (a)), (1, .int (d)), (2, .int (h))] [] M 0 0 _
  refine r_aload_n dX6_begin_0 rfl ?_
  refine r_iload_n dX6_begin_1 rfl ?_
  refine r_put (k := 0) (fs' := [.int (d), .int (x1), .int (x2), .int (x3), .int (x4), .int (x5), .ref (b)]) dX6_begin_2 hA rfl (by decide) kX6_22F rfl rfl rfl (Nat.le_of_ble_eq_true rfl) rfl ?_
  refine r_aload_n dX6_begin_5 rfl ?_
  refine r_iload_n dX6_begin_6 rfl ?_
  refine r_put (k := 1) (fs' := [.int (d), .int (h), .int (x2), .int (x3), .int (x4), .int (x5), .ref (b)]) dX6_begin_7 fup_eq rfl (by decide) kX6_25F rfl rfl rfl (Nat.le_of_ble_eq_true rfl) rfl ?_
  refine r_mem fup_fup ?_
  refine r_aload_n dX6_begin_10 rfl ?_
  refine r_sipush (v := nI 200) dX6_begin_11 (by decide) ?_
  refine r_put (k := 2) (fs' := [.int (d), .int (h), .int (nI (200)), .int (x3), .int (x4), .int (x5), .ref (b)]) dX6_begin_14 fup_eq rfl (by decide) kX6_28F rfl rfl rfl (Nat.le_of_ble_eq_true rfl) rfl ?_
  refine r_mem fup_fup ?_
  refine r_aload_n dX6_begin_17 rfl ?_
  refine r_iconst (v := (-1)) dX6_begin_18 (by decide) ?_
  refine r_put (k := 3) (fs' := [.int (d), .int (h), .int (nI (200)), .int (-1), .int (x4), .int (x5), .ref (b)]) dX6_begin_19 fup_eq rfl (by decide) kX6_9F rfl rfl rfl (Nat.le_of_ble_eq_true rfl) rfl ?_
  refine r_mem fup_fup ?_
  refine r_aload_n dX6_begin_22 rfl ?_
  refine r_iconst (v := (-1)) dX6_begin_23 (by decide) ?_
  refine r_put (k := 4) (fs' := [.int (d), .int (h), .int (nI (200)), .int (-1), .int (-1), .int (x5), .ref (b)]) dX6_begin_24 fup_eq rfl (by decide) kX6_15F rfl rfl rfl (Nat.le_of_ble_eq_true rfl) rfl ?_
  refine r_mem fup_fup ?_
  refine r_aload_n dX6_begin_27 rfl ?_
  refine r_iconst (v := nI 0) dX6_begin_28 (by decide) ?_
  refine r_put (k := 5) (fs' := [.int (d), .int (h), .int (nI (200)), .int (-1), .int (-1), .int (nI (0)), .ref (b)]) dX6_begin_29 fup_eq rfl (by decide) kX6_31F rfl rfl rfl (Nat.le_of_ble_eq_true rfl) rfl ?_
  refine r_mem fup_fup ?_
  exact fR_vret dX6_begin_32 rfl isR_of
theorem tX6_write {l : Launch} {κ : KP} {M : Mem} {a b r : Nat} {x0 x1 x2 x3 x4 : Int32} {f : Nat → Int32} (hab : a ≠ b) (hr : r < 9) (hA : M a = some (.inl (6, [.int x0, .int x1, .int x2, .int x3, .int x4, .int (nI r), .ref b]))) (hf : M b = some (.inr (0, 36, .inl f))) {nd dp w s : Int32} : fM l κ mX6_write [.ref (a), .int (nd), .int (dp), .int (w), .int (s)] M (isR none (fup (fup M b (.inr (0, 36, .inl (upd (upd (upd (upd f (r * 4 + 0) nd) (r * 4 + 1) dp) (r * 4 + 2) w) (r * 4 + 3) s)))) a (.inl (6, [.int x0, .int x1, .int x2, .int x3, .int x4, .int (nI (r + 1)), .ref b])))) := by
  refine fM_of rfl (by decide +kernel) (Nat.le_of_ble_eq_true rfl) ?_
  show fR l κ mX6_write 0 [(0, .ref (a)), (1, .int (nd)), (2, .int (dp)), (3, .int (w)), (4, .int (s))] [] M 0 0 _
  refine r_aload_n dX6_write_0 rfl ?_
  refine r_get (k := 5) dX6_write_1 hA rfl rfl (by decide) kX6_31F ?_
  refine r_bipush (v := nI 9) dX6_write_4 (by decide) ?_
  refine r_icmp_ltN (tgt := 10) dX6_write_6 (by decide) (by omega) (by omega) (fun c1 => ?_) (fun c1 => ?_)
  · skip
    refine r_aload_n dX6_write_10 rfl ?_
    refine r_get (k := 5) dX6_write_11 hA rfl rfl (by decide) kX6_31F ?_
    refine r_iconst (v := nI 4) dX6_write_14 (by decide) ?_
    refine r_imulN dX6_write_15 ?_
    refine r_istore (lv' := [(5, .int (nI ((r * 4)))), (0, .ref (a)), (1, .int (nd)), (2, .int (dp)), (3, .int (w)), (4, .int (s))]) dX6_write_16 (by decide) rfl ?_
    refine r_aload_n dX6_write_18 rfl ?_
    refine r_get (k := 6) dX6_write_19 hA rfl rfl (by decide) kX6_18F ?_
    refine r_iload dX6_write_22 rfl ?_
    refine r_iconst (v := nI 0) dX6_write_24 (by decide) ?_
    refine r_iaddN dX6_write_25 ?_
    refine r_iload_n dX6_write_26 rfl ?_
    refine r_iastN dX6_write_27 hf (by omega) (by decide) ?_
    refine r_aload_n dX6_write_28 rfl ?_
    refine r_get (k := 6) dX6_write_29 ((fup_ne hab).trans hA) rfl rfl (by decide) kX6_18F ?_
    refine r_iload dX6_write_32 rfl ?_
    refine r_iconst (v := nI 1) dX6_write_34 (by decide) ?_
    refine r_iaddN dX6_write_35 ?_
    refine r_iload_n dX6_write_36 rfl ?_
    refine r_iastN dX6_write_37 fup_eq (by omega) (by decide) ?_
    refine r_mem fup_fup ?_
    refine r_aload_n dX6_write_38 rfl ?_
    refine r_get (k := 6) dX6_write_39 ((fup_ne hab).trans hA) rfl rfl (by decide) kX6_18F ?_
    refine r_iload dX6_write_42 rfl ?_
    refine r_iconst (v := nI 2) dX6_write_44 (by decide) ?_
    refine r_iaddN dX6_write_45 ?_
    refine r_iload_n dX6_write_46 rfl ?_
    refine r_iastN dX6_write_47 fup_eq (by omega) (by decide) ?_
    refine r_mem fup_fup ?_
    refine r_aload_n dX6_write_48 rfl ?_
    refine r_get (k := 6) dX6_write_49 ((fup_ne hab).trans hA) rfl rfl (by decide) kX6_18F ?_
    refine r_iload dX6_write_52 rfl ?_
    refine r_iconst (v := nI 3) dX6_write_54 (by decide) ?_
    refine r_iaddN dX6_write_55 ?_
    refine r_iload dX6_write_56 rfl ?_
    refine r_iastN dX6_write_58 fup_eq (by omega) (by decide) ?_
    refine r_mem fup_fup ?_
    refine r_aload_n dX6_write_59 rfl ?_
    refine r_dup dX6_write_60 rfl ?_
    refine r_get (k := 5) dX6_write_61 ((fup_ne hab).trans hA) rfl rfl (by decide) kX6_31F ?_
    refine r_iconst (v := nI 1) dX6_write_64 (by decide) ?_
    refine r_iaddN dX6_write_65 ?_
    refine r_put (k := 5) (fs' := [.int (x0), .int (x1), .int (x2), .int (x3), .int (x4), .int (nI ((r + 1))), .ref (b)]) dX6_write_66 ((fup_ne hab).trans hA) rfl (by decide) kX6_31F rfl rfl rfl (Nat.le_of_ble_eq_true rfl) rfl ?_
    exact fR_vret dX6_write_69 rfl isR_of
  · skip
    exact absurd hr c1
theorem pShr_N {w : Nat} (hw : w ≤ 900) : ∃ p, 10 ≤ p ∧ p ≤ 230 ∧ pShr (nI w) = nI p ∧ (if nI 10 < nI 100 + pDiv (nI w - nI 250) (nI 5) then nI 100 + pDiv (nI w - nI 250) (nI 5) else nI 10) = nI p := by
  have e : (pDiv (nI w - nI 250) (nI 5)).toInt = ((w : Int) - 250) / 5 := by
    rw [pDiv_toInt (by decide) (by decide), pk_sub_toInt (by omega) (by omega)]; rfl
  have e2 : (nI 100 + pDiv (nI w - nI 250) (nI 5)).toInt = 100 + ((w : Int) - 250) / 5 := i32_add (by rw [e]; rfl) (by omega) (by omega)
  refine ⟨(max 10 (100 + ((w : Int) - 250) / 5)).toNat, by omega, by omega, ?_, ?_⟩
  · apply i32_ext
    rw [nI_toInt (by omega)]
    unfold pShr
    have h10 : (nI 10).toInt = 10 := rfl
    by_cases c : nI 100 + pDiv (nI w - nI 250) (nI 5) < nI 10
    · rw [if_pos c, h10]; rw [i32_lt, e2, h10] at c; omega
    · rw [if_neg c, e2]; rw [i32_lt, e2, h10] at c; omega
  · apply i32_ext
    rw [nI_toInt (by omega)]
    have h10 : (nI 10).toInt = 10 := rfl
    by_cases c : nI 10 < nI 100 + pDiv (nI w - nI 250) (nI 5)
    · rw [if_pos c, e2]; rw [i32_lt, e2, h10] at c; omega
    · rw [if_neg c, h10]; rw [i32_lt, e2, h10] at c; omega
theorem clamp400 {D : Int32} : (if (if nI 0 < D then D else nI 0) < nI 400 then (if nI 0 < D then D else nI 0) else nI 400) = (if D < 0 then nI 0 else if nI 400 < D then nI 400 else D) := by
  have h0 : (nI 0).toInt = 0 := rfl
  have h4 : (nI 400).toInt = 400 := rfl
  by_cases c0 : D < 0
  · rw [if_pos c0]
    rw [i32_lt, i32_0] at c0
    rw [if_neg (show ¬ nI 0 < D by rw [i32_lt, h0]; omega), if_pos (by decide)]
  · rw [if_neg c0]
    rw [i32_lt, i32_0] at c0
    by_cases c1 : nI 0 < D
    · rw [if_pos c1]
      by_cases c2 : nI 400 < D
      · rw [if_pos c2, if_neg (by rw [i32_lt] at c2 ⊢; omega)]
      · rw [if_neg c2]
        by_cases c3 : D < nI 400
        · rw [if_pos c3]
        · rw [if_neg c3]; rw [i32_lt] at c2 c3; exact i32_ext (by omega)
    · rw [if_neg c1, if_pos (by decide)]
      rw [i32_lt, h0] at c1
      have e : D = nI 0 := i32_ext (by rw [h0]; omega)
      rw [e]; decide
theorem tX6_depth {l : Launch} {κ : KP} {M : Mem} {a b k : Nat} {g : Nat → Int32} (hS : SpAt M a b g k) (hO : SpOk g k) {w s : Nat} {wr : Int32} (hw : w ≤ 200) (hs : s ≤ 60) : fM l κ mX6_depthUnder [.ref (a), .int (nI (w)), .int (nI (s)), .int (wr)] M (isI (pDepth (pOf g k 1) (pOf g k 2) wr (nI w) (nI s)) M) := by
  refine fM_of rfl (by decide +kernel) (Nat.le_of_ble_eq_true rfl) ?_
  obtain ⟨hA, f, hf, hv⟩ := id hS
  have h5 := hO.m5
  have h9 := hO.m9
  obtain ⟨h, hh, e1⟩ := hO.1
  obtain ⟨dg, hdg, e2⟩ := hO.2.1
  obtain ⟨pc, hp1, hp2, hp3, hp4⟩ := pShr_N hdg
  have hws : w * s ≤ 12000 := Nat.mul_le_mul hw hs
  have hq : w * s / (h + 1) ≤ 12000 := Nat.le_trans (Nat.div_le_self _ _) hws
  have hqp : w * s / (h + 1) * pc ≤ 12000 * 230 := Nat.mul_le_mul hq hp2
  show fR l κ mX6_depthUnder 0 [(0, .ref (a)), (1, .int (nI (w))), (2, .int (nI (s))), (3, .int (wr))] [] M 0 0 _
  refine r_iload_n dX6_depthUnder_0 rfl ?_
  refine r_iload_n dX6_depthUnder_1 rfl ?_
  refine r_imulN dX6_depthUnder_2 ?_
  refine r_aload_n dX6_depthUnder_3 rfl ?_
  refine r_get (k := 1) dX6_depthUnder_4 hA rfl rfl (by decide) kX6_25F ?_
  refine r_top (y := (nI (h))) e1 ?_
  refine r_iconst (v := nI 1) dX6_depthUnder_7 (by decide) ?_
  refine r_iaddN dX6_depthUnder_8 ?_
  refine r_callSN (As := [.int (nI ((w * s))), .int (nI ((h + 1)))]) dX6_depthUnder_9 (tX8_divided (by omega) (by omega) (by omega)) rfl oX8_divided rfl kX6_40M sX8_divided (by unfold fRoom; decide) (Nat.le_of_ble_eq_true rfl) (bc' := 0) (bs' := 0) rfl rfl ?_
  show fR _ _ _ 12 _ (.int (nI (((w * s) / (h + 1)))) :: _) _ _ _ _
  refine r_istore (lv' := [(4, .int (nI (((w * s) / (h + 1))))), (0, .ref (a)), (1, .int (nI (w))), (2, .int (nI (s))), (3, .int (wr))]) dX6_depthUnder_12 (by decide) rfl ?_
  refine r_bipush (v := nI 10) dX6_depthUnder_14 (by decide) ?_
  refine r_bipush (v := nI 100) dX6_depthUnder_16 (by decide) ?_
  refine r_aload_n dX6_depthUnder_18 rfl ?_
  refine r_get (k := 2) dX6_depthUnder_19 hA rfl rfl (by decide) kX6_28F ?_
  refine r_top (y := (nI (dg))) e2 ?_
  refine r_sipush (v := nI 250) dX6_depthUnder_22 (by decide) ?_
  refine r_isub dX6_depthUnder_25 ?_
  refine r_iconst (v := nI 5) dX6_depthUnder_26 (by decide) ?_
  refine r_callS (As := [.int (((nI (dg)) - (nI (250)))), .int (nI (5))]) dX6_depthUnder_27 (tJ9_floorDiv (by omega) (by omega)) rfl oJ9_floorDiv_7cf53 rfl kX6_44M sJ9_floorDiv_7cf53 (by unfold fRoom; decide) (Nat.le_of_ble_eq_true rfl) rfl (bc' := 0) (bs' := 0) rfl rfl ?_
  show fR _ _ _ 30 _ (.int (pDiv (((nI (dg)) - (nI (250)))) (nI (5))) :: _) _ _ _ _
  refine r_iadd dX6_depthUnder_30 ?_
  refine r_mmax dX6_depthUnder_31 kX6_49M kJ_maxS kJ_math kJ_maxC (Nat.le_of_ble_eq_true rfl) (Nat.le_of_ble_eq_true rfl) ?_
  refine r_top (y := (nI (pc))) hp4 ?_
  refine r_istore (lv' := [(5, .int (nI (pc))), (4, .int (nI (((w * s) / (h + 1))))), (0, .ref (a)), (1, .int (nI (w))), (2, .int (nI (s))), (3, .int (wr))]) dX6_depthUnder_34 (by decide) rfl ?_
  refine r_iload dX6_depthUnder_36 rfl ?_
  refine r_iload dX6_depthUnder_38 rfl ?_
  refine r_imulN dX6_depthUnder_40 ?_
  refine r_bipush (v := nI 100) dX6_depthUnder_41 (by decide) ?_
  have hfd := tJ9_floorDiv (l := l) (κ := κ) (M := M) (x := (nI ((((w * s) / (h + 1)) * pc)))) (m := 100) (by omega) (by omega)
  rw [pDiv_n (by omega) (by omega) (by omega)] at hfd
  refine r_callS (As := [.int (nI ((((w * s) / (h + 1)) * pc))), .int (nI (100))]) dX6_depthUnder_43 hfd rfl oJ9_floorDiv_7cf53 rfl kX6_44M sJ9_floorDiv_7cf53 (by unfold fRoom; decide) (Nat.le_of_ble_eq_true rfl) rfl (bc' := 0) (bs' := 0) rfl rfl ?_
  show fR _ _ _ 46 _ (.int (nI (((((w * s) / (h + 1)) * pc) / 100))) :: _) _ _ _ _
  refine r_iload_n dX6_depthUnder_46 rfl ?_
  refine r_isub dX6_depthUnder_47 ?_
  refine r_istore (lv' := [(6, .int (((nI (((((w * s) / (h + 1)) * pc) / 100))) - (wr)))), (5, .int (nI (pc))), (4, .int (nI (((w * s) / (h + 1))))), (0, .ref (a)), (1, .int (nI (w))), (2, .int (nI (s))), (3, .int (wr))]) dX6_depthUnder_48 (by decide) rfl ?_
  refine r_sipush (v := nI 400) dX6_depthUnder_50 (by decide) ?_
  refine r_iconst (v := nI 0) dX6_depthUnder_53 (by decide) ?_
  refine r_iload dX6_depthUnder_54 rfl ?_
  refine r_mmax dX6_depthUnder_56 kX6_49M kJ_maxS kJ_math kJ_maxC (Nat.le_of_ble_eq_true rfl) (Nat.le_of_ble_eq_true rfl) ?_
  refine r_mmin dX6_depthUnder_59 kX6_52M kJ_minS kJ_math kJ_minC (Nat.le_of_ble_eq_true rfl) (Nat.le_of_ble_eq_true rfl) ?_
  refine fR_iret dX6_depthUnder_62 rfl (isI_of ?_)
  rw [clamp400]
  unfold pDepth pDeep
  rw [e1, e2, hp3, pk_mul, nI_add, pk_div (by omega) (by omega) (by omega), pk_mul, pk_div (by omega) (by omega) (by omega)]
theorem tX6_copyFrom {l : Launch} {κ : KP} {M : Mem} {a b a2 b2 : Nat} {x0 x1 x2 x3 x4 x5 z0 z1 z2 z3 z4 z5 : Int32} {f f2 : Nat → Int32} (h1 : b ≠ a) (h2 : b2 ≠ a) (h3 : a2 ≠ a) (hA : M a = some (.inl (6, [.int x0, .int x1, .int x2, .int x3, .int x4, .int x5, .ref b]))) (hf : M b = some (.inr (0, 36, .inl f))) (hA2 : M a2 = some (.inl (6, [.int z0, .int z1, .int z2, .int z3, .int z4, .int z5, .ref b2]))) (hf2 : M b2 = some (.inr (0, 36, .inl f2))) : fM l κ mX6_copyFrom [.ref (a), .ref (a2)] M (isR none (fup (fup M a (.inl (6, [.int z0, .int z1, .int z2, .int z3, .int z4, .int z5, .ref b]))) b (.inr (0, 36, .inl (va_cpy f2 f 0 0 36))))) := by
  refine fM_of rfl (by decide +kernel) (Nat.le_of_ble_eq_true rfl) ?_
  show fR l κ mX6_copyFrom 0 [(0, .ref (a)), (1, .ref (a2))] [] M 0 0 _
  refine r_aload_n dX6_copyFrom_0 rfl ?_
  refine r_aload_n dX6_copyFrom_1 rfl ?_
  refine r_get (k := 0) dX6_copyFrom_2 hA2 rfl rfl (by decide) kX6_22F ?_
  refine r_put (k := 0) (fs' := [.int (z0), .int (x1), .int (x2), .int (x3), .int (x4), .int (x5), .ref (b)]) dX6_copyFrom_5 hA rfl (by decide) kX6_22F rfl rfl rfl (Nat.le_of_ble_eq_true rfl) rfl ?_
  refine r_aload_n dX6_copyFrom_8 rfl ?_
  refine r_aload_n dX6_copyFrom_9 rfl ?_
  refine r_get (k := 1) dX6_copyFrom_10 ((fup_ne h3).trans hA2) rfl rfl (by decide) kX6_25F ?_
  refine r_put (k := 1) (fs' := [.int (z0), .int (z1), .int (x2), .int (x3), .int (x4), .int (x5), .ref (b)]) dX6_copyFrom_13 fup_eq rfl (by decide) kX6_25F rfl rfl rfl (Nat.le_of_ble_eq_true rfl) rfl ?_
  refine r_mem fup_fup ?_
  refine r_aload_n dX6_copyFrom_16 rfl ?_
  refine r_aload_n dX6_copyFrom_17 rfl ?_
  refine r_get (k := 2) dX6_copyFrom_18 ((fup_ne h3).trans hA2) rfl rfl (by decide) kX6_28F ?_
  refine r_put (k := 2) (fs' := [.int (z0), .int (z1), .int (z2), .int (x3), .int (x4), .int (x5), .ref (b)]) dX6_copyFrom_21 fup_eq rfl (by decide) kX6_28F rfl rfl rfl (Nat.le_of_ble_eq_true rfl) rfl ?_
  refine r_mem fup_fup ?_
  refine r_aload_n dX6_copyFrom_24 rfl ?_
  refine r_aload_n dX6_copyFrom_25 rfl ?_
  refine r_get (k := 3) dX6_copyFrom_26 ((fup_ne h3).trans hA2) rfl rfl (by decide) kX6_9F ?_
  refine r_put (k := 3) (fs' := [.int (z0), .int (z1), .int (z2), .int (z3), .int (x4), .int (x5), .ref (b)]) dX6_copyFrom_29 fup_eq rfl (by decide) kX6_9F rfl rfl rfl (Nat.le_of_ble_eq_true rfl) rfl ?_
  refine r_mem fup_fup ?_
  refine r_aload_n dX6_copyFrom_32 rfl ?_
  refine r_aload_n dX6_copyFrom_33 rfl ?_
  refine r_get (k := 4) dX6_copyFrom_34 ((fup_ne h3).trans hA2) rfl rfl (by decide) kX6_15F ?_
  refine r_put (k := 4) (fs' := [.int (z0), .int (z1), .int (z2), .int (z3), .int (z4), .int (x5), .ref (b)]) dX6_copyFrom_37 fup_eq rfl (by decide) kX6_15F rfl rfl rfl (Nat.le_of_ble_eq_true rfl) rfl ?_
  refine r_mem fup_fup ?_
  refine r_aload_n dX6_copyFrom_40 rfl ?_
  refine r_aload_n dX6_copyFrom_41 rfl ?_
  refine r_get (k := 5) dX6_copyFrom_42 ((fup_ne h3).trans hA2) rfl rfl (by decide) kX6_31F ?_
  refine r_put (k := 5) (fs' := [.int (z0), .int (z1), .int (z2), .int (z3), .int (z4), .int (z5), .ref (b)]) dX6_copyFrom_45 fup_eq rfl (by decide) kX6_31F rfl rfl rfl (Nat.le_of_ble_eq_true rfl) rfl ?_
  refine r_mem fup_fup ?_
  refine r_aload_n dX6_copyFrom_48 rfl ?_
  refine r_get (k := 6) dX6_copyFrom_49 ((fup_ne h3).trans hA2) rfl rfl (by decide) kX6_18F ?_
  refine r_iconst (v := nI 0) dX6_copyFrom_52 (by decide) ?_
  refine r_aload_n dX6_copyFrom_53 rfl ?_
  refine r_get (k := 6) dX6_copyFrom_54 fup_eq rfl rfl (by decide) kX6_18F ?_
  refine r_iconst (v := nI 0) dX6_copyFrom_57 (by decide) ?_
  refine r_aload_n dX6_copyFrom_58 rfl ?_
  refine r_get (k := 6) dX6_copyFrom_59 fup_eq rfl rfl (by decide) kX6_18F ?_
  refine r_alen dX6_copyFrom_62 ((fup_ne h1).trans hf) (v := nI 36) rfl ?_
  refine r_copyi dX6_copyFrom_63 kX6_34M kJ_cpN kJ_cpS kJ_sys ((fup_ne h2).trans hf2) ((fup_ne h1).trans hf) (by decide) (by decide) (by decide) (by decide) (by decide) (Nat.le_of_ble_eq_true rfl) (Nat.le_of_ble_eq_true rfl) ?_
  refine r_mem (M1 := fup (fup M (a) (.inl (6, [.int (z0), .int (z1), .int (z2), .int (z3), .int (z4), .int (z5), .ref (b)]))) (b) (.inr (0, 36, .inl (va_cpy (f2) (f) 0 0 36)))) rfl ?_
  exact fR_vret dX6_copyFrom_66 rfl isR_of
