/-! THE LAW'S BODY -/
theorem CC.eq {κ : KP} {M M' : Mem} {w : Nat → Nat} (h : CC κ M w) (e : ∀ i, i < 255 → M' (w i) = M (w i)) : CC κ M' w := by
  obtain ⟨h0, hL, hH, t0, t1, t2, t3⟩ := h
  exact ⟨(e _ (by omega)).trans h0, hL.eq (fun j hj => ⟨rfl, e _ (by omega)⟩), hH.eq (fun j hj => ⟨rfl, e _ (by omega)⟩), (e _ (by omega)).trans t0, (e _ (by omega)).trans t1, (e _ (by omega)).trans t2, (e _ (by omega)).trans t3⟩
theorem cls_new2 {κ : KP} {M : Mem} {w : Nat → Nat} (N : Nat) (hw : ∀ i j, i < 255 → j < 255 → w i = w j → i = j) (h : CC κ M w) : ∃ ad, aInj ad ∧ ad 254 = w 0 ∧ (∀ i, i < 255 → ad i = w (pm i)) ∧ (∀ t, t < N → ad 255 ≠ t) ∧ ClsAt κ ad M ⟨gI, 0, false, fun _ => 0, 0⟩ 0 0 := by
  obtain ⟨B, hB⟩ := big_of w 255
  obtain ⟨ad, had⟩ : ∃ ad : Nat → Nat, ad = fun i => if i < 255 then w (pm i) else B + N := ⟨_, rfl⟩
  have e : ∀ i, i < 255 → ad i = w (pm i) := fun i hi => by rw [had]; exact if_pos hi
  have e5 : ∀ i, ¬ i < 255 → ad i = B + N := fun i hi => by rw [had]; exact if_neg hi
  obtain ⟨h0, hL, ⟨a0, ⟨f, a1, b1⟩, a2, a3⟩, t0, t1, t2, t3⟩ := h
  have em : ∀ j, j < 31 → ad (0 + j) = w (1 + pl j) := fun j hj => by rw [e _ (by omega)]; unfold pm; rw [if_pos (by omega), Nat.zero_add]
  have ek : ∀ i j, i < 6 → j < 31 → ad (31 + 31 * i + j) = w (32 + (33 + 31 * i + pl j)) := fun i j hi hj => by
    rw [e _ (by omega)]; unfold pm
    rw [if_neg (by omega), if_pos (by omega), show (31 + 31 * i + j - 31) / 31 = i by omega, show (31 + 31 * i + j - 31) % 31 = j by omega]
  have es : ∀ j, j < 31 → ad (217 + j) = w (32 + (2 + pl j)) := fun j hj => by
    rw [e _ (by omega)]; unfold pm
    rw [if_neg (by omega), if_neg (by omega), if_pos (by omega), show 217 + j - 217 = j by omega]
  have labm : LabAt M ad 0 gI 0 0 (fun k => k) := hL.lab em rfl rfl rfl rfl gI_d gI_s (fun j q1 q2 => gI_z (by omega) (by omega))
  have p252 : ad 252 = w 32 := e 252 (by omega)
  have p253 : ad 253 = w 33 := e 253 (by omega)
  have p254 : ad 254 = w 0 := e 254 (by omega)
  have p248 : ad 248 = w 251 := e 248 (by omega)
  have p249 : ad 249 = w 252 := e 249 (by omega)
  have p250 : ad 250 = w 253 := e 250 (by omega)
  have p251 : ad 251 = w 254 := e 251 (by omega)
  have p0 : ad 0 = w 1 := em 0 (by omega)
  have p217 : ad 217 = w 34 := es 0 (by omega)
  refine ⟨ad, fun i j hi hj z => ?_, p254, e, fun t ht z => by rw [e5 255 (by omega)] at z; omega, ?_, ⟨fun k => k, fun k => k, labm, ?_, ⟨f, ?_, fun i hi => ?_⟩, fun i hi => hi, fun i j _ _ z => z, Nat.zero_le 6, fun i hi => ?_, ?_⟩, BI_gI, ⟨0, 0, 0, 0, 0, fun _ => 0, fun _ => 0, ?_, ?_, fun i hi => absurd hi (Nat.not_lt_zero i), ?_, by omega, ?_⟩, TX.none⟩
  · by_cases ci : i < 255
    · by_cases cj : j < 255
      · rw [e i ci, e j cj] at z; exact pm_inj ci cj (hw _ _ (pm_lt ci) (pm_lt cj) z)
      · rw [e i ci, e5 j cj] at z; have := hB _ (pm_lt ci); omega
    · by_cases cj : j < 255
      · rw [e5 i ci, e j cj] at z; have := hB _ (pm_lt cj); omega
      · omega
  · rw [p254, p0, p252, p248]; exact h0
  · rw [p252, p253, p217]; exact a0
  · rw [p253]; exact a1
  · have := ek i 0 hi (by omega)
    rw [Nat.add_zero] at this
    rw [this]; exact b1 i hi
  · refine ⟨fun k => k, ((a3 i hi).lab (ad := ad) (c := 31 + 31 * i) (g := gI) (fun j hj => ek i j hi hj) rfl rfl rfl rfl gI_d gI_s (fun j q1 q2 => gI_z (by omega) (by omega))).raw, fun z => absurd z (Nat.not_lt_zero i)⟩
  · exact ⟨fun k => k, (a2.lab (ad := ad) (c := 217) (g := gI) (fun j hj => es j hj) rfl rfl rfl rfl gI_d gI_s (fun j q1 q2 => gI_z (by omega) (by omega))).raw, fun z => by cases z⟩
  · rw [p248, p249, p250]; exact t0
  · rw [p249]; exact t1
  · rw [p250, p251]; exact t2
  · rw [p251]; exact t3
theorem le10 {P : Nat → Prop} (h0 : P 0) (h1 : P 1) (h2 : P 2) (h3 : P 3) (h4 : P 4) (h5 : P 5) (h6 : P 6) (h7 : P 7) (h8 : P 8) (h9 : P 9) : ∀ j, j < 10 → P j
  | 0, _ => h0
  | 1, _ => h1
  | 2, _ => h2
  | 3, _ => h3
  | 4, _ => h4
  | 5, _ => h5
  | 6, _ => h6
  | 7, _ => h7
  | 8, _ => h8
  | 9, _ => h9
  | j + 10, h => by omega
theorem kC_Bit : Cond.instantiable "BitumenNeedle" 3 ∈ lw_tbl := lw_of (i := 25) (by decide +kernel)
theorem kD_Bit : Cond.initialized "BitumenNeedle" ∈ lw_tbl := lw_of (i := 1) (by decide +kernel)
theorem law_body {nm : String} {hh : List (Nat × Nat × Nat × Nat)} {l : Launch} {κ : KP} (hk : kL κ ≤ 2560) : fR l κ (mL_law nm hh) 0 [(0, .ref (kB κ))] [] (fun _ => none) 601024 7293034 (fun o _ => o = .inl (some (.int (nI 1)))) := by
  refine r_new (ci := 7) (fs := [.null, .null, .null]) (bc' := 601023) (bs' := 7293031) dL_law_0 rfl kL_8C kC_Bit kD_Bit (le3 rfl rfl rfl) rfl rfl (fun a ha => ?_)
  refine r_dup dL_law_3 rfl ?_
  refine r_callIP (As := []) dL_law_4 (tX8_init fup_eq) rfl oX8_init rfl rfl rfl kL_107M nX8_init ⟨Nat.le_of_ble_eq_true rfl, Nat.le_of_ble_eq_true rfl, Nat.le_of_ble_eq_true rfl, Nat.le_of_ble_eq_true rfl⟩ (Nat.le_of_ble_eq_true rfl) (bc' := 600769) (bs' := 7289706) rfl rfl (fun E M9 h => by cases h.1) (fun v M1 hv => ?_)
  obtain ⟨hv1, w, hw0, hE, hCC⟩ := hv
  cases hv1
  show fR _ _ _ 7 _ (.ref a :: []) _ _ _ _
  refine r_astore_n (lv' := [(1, .ref a), (0, .ref (kB κ))]) dL_law_7 (Nat.le_of_ble_eq_true rfl) rfl ?_
  refine r_new (ci := 8) (fs := [.int 0, .null, .int 0, .int 0, .null, .int 0, .int 0, .int 0, .null, .long 0]) (bc' := 600768) (bs' := 7289696) dL_law_8 rfl kL_108C kC_Mod kD_Mod (le10 rfl rfl rfl rfl rfl rfl rfl rfl rfl rfl) rfl rfl (fun m hm => ?_)
  refine r_dup dL_law_11 rfl ?_
  refine r_callIP (As := []) dL_law_12 (tX9_init fup_eq) rfl oX9_init rfl rfl rfl kL_110M nX9_init ⟨Nat.le_of_ble_eq_true rfl, Nat.le_of_ble_eq_true rfl, Nat.le_of_ble_eq_true rfl, Nat.le_of_ble_eq_true rfl⟩ (Nat.le_of_ble_eq_true rfl) (bc' := 600765) (bs' := 7286624) rfl rfl (fun E M9 h => by cases h.1) (fun v M3 hv => ?_)
  obtain ⟨hv1, sA, tA, nA, hD, hs0, ht0, hn0, hM3⟩ := hv
  cases hv1
  show fR _ _ _ 15 _ (.ref m :: []) _ _ _ _
  refine r_astore_n (lv' := [(2, .ref m), (1, .ref a), (0, .ref (kB κ))]) dL_law_15 (Nat.le_of_ble_eq_true rfl) rfl ?_
  refine r_iconst (v := nI 1) dL_law_16 (by decide) ?_
  refine r_newa (atype := .long) (t := 2) (N := 1) (a0 := (1, .inr (.inl (fun _ => 0)))) (bc' := 600764) (bs' := 7286623) dL_law_17 kJ_arrL rfl (fun _ => rfl) (by decide) (by decide) (Nat.le_of_ble_eq_true rfl) rfl rfl (fun q hq => ?_)
  refine r_astore_n (lv' := [(3, .ref q), (2, .ref m), (1, .ref a), (0, .ref (kB κ))]) dL_law_19 (Nat.le_of_ble_eq_true rfl) rfl ?_
  refine r_iconst (v := nI 0) dL_law_20 (by decide) ?_
  refine r_istore (lv' := [(4, .int (nI 0)), (3, .ref q), (2, .ref m), (1, .ref a), (0, .ref (kB κ))]) dL_law_21 (Nat.le_of_ble_eq_true rfl) rfl ?_
  have live := hE.2.2.2
  have s0 : M1 sA = none := (fup_ne hD.1).symm.trans hs0
  have t0 : M1 tA = none := (fup_ne hD.2.1).symm.trans ht0
  have n0 : M1 nA = none := (fup_ne hD.2.2.1).symm.trans hn0
  have wm : ∀ i, i < 255 → w i ≠ m ∧ w i ≠ sA ∧ w i ≠ tA ∧ w i ≠ nA := fun i hi => ⟨fun e => live i hi (e ▸ hm), fun e => live i hi (e ▸ s0), fun e => live i hi (e ▸ t0), fun e => live i hi (e ▸ n0)⟩
  have keep3 : ∀ i, i < 255 → M3 (w i) = M1 (w i) := fun i hi => by
    obtain ⟨h1, h2, h3, h4⟩ := wm i hi
    rw [hM3, RM_out h1 h2 h3 h4]; exact fup_ne h1
  have wq : ∀ i, i < 255 → w i ≠ q := fun i hi e => live i hi ((keep3 i hi).symm.trans (e ▸ hq))
  have hC4 : CC κ (fup M3 q (.inr (2, 1, .inr (.inl (fun _ => 0))))) w := hCC.eq (fun i hi => (fup_ne (wq i hi)).trans (keep3 i hi))
  have r0 : M3 m ≠ none := by rw [hM3, RM_0]; exact fun z => by cases z
  have r1 : M3 sA ≠ none := by rw [hM3, RM_1 hD]; exact fun z => by cases z
  have r2 : M3 tA ≠ none := by rw [hM3, RM_2 hD]; exact fun z => by cases z
  have r3 : M3 nA ≠ none := by rw [hM3, RM_3 hD]; exact fun z => by cases z
  have q0 : q ≠ m := fun e => r0 (e ▸ hq)
  have q1 : q ≠ sA := fun e => r1 (e ▸ hq)
  have q2 : q ≠ tA := fun e => r2 (e ▸ hq)
  have q3 : q ≠ nA := fun e => r3 (e ▸ hq)
  obtain ⟨ad, hA, h254, hpm, h255, hcls⟩ := cls_new2 (q + m + sA + tA + nA + 1) hE.1 hC4
  have hLD : LD ad q m sA tA nA := by
    refine ⟨hA, fun t ht e => ?_, hD, fun t ht => ?_, q0, q1, q2, q3⟩
    · by_cases c : t < 255
      · rw [hpm t c] at e; exact wq _ (pm_lt c) e.symm
      · have c2 : t = 255 := by omega
        subst c2; exact h255 q (by omega) e.symm
    · by_cases c : t < 255
      · rw [hpm t c]; exact wm _ (pm_lt c)
      · have c2 : t = 255 := by omega
        subst c2; exact ⟨h255 m (by omega), h255 sA (by omega), h255 tA (by omega), h255 nA (by omega)⟩
  have hR3 : M3 = RM M3 m sA tA nA 0 0 0 0 0 0 0 gI (fun _ => 0) (fun _ => 0) := by
    have := RM_twice (M := fup M1 m (.inl (8, [.int 0, .null, .int 0, .int 0, .null, .int 0, .int 0, .int 0, .null, .long 0]))) (th := 0) (sv := 0) (kp := 0) (ln := 0) (ap := 0) (pt := 0) (hs := 0) (g := gI) (tx := fun _ => 0) (nu := fun _ => 0) hD
    rw [← hM3] at this; exact this
  have hLI : LI κ ad q m sA tA nA (fup M3 q (.inr (2, 1, .inr (.inl (fun _ => 0))))) ⟨gI, 0, false, fun _ => 0, 0⟩ 0 0 := ⟨0, 0, 0, 0, fun _ => 0, fun _ => 0, hcls, fup_eq, RM_self hD hR3 (fup_ne q0.symm) (fup_ne q1.symm) (fup_ne q2.symm) (fup_ne q3.symm)⟩
  have ea : ad 254 = a := h254.trans hw0
  refine r_lv (lv' := LV κ ad q m 0) (by rw [← ea]; simp [LV]) ?_
  by_cases h5 : 5 ≤ kL κ
  · refine r_bud (bc' := 5 * 2561) (bs' := 30 * 2561) (Nat.le_of_ble_eq_true rfl) (Nat.le_of_ble_eq_true rfl) ?_
    exact law_loop hLD h5 hk 2561 0 _ _ 0 0 (by omega) (by omega) hLI
  · exact law_short h5
