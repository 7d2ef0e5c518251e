/-! THE LAW'S BODY -/
theorem CC.eq {κ : KP} {M M' : Mem} {w : Nat → Nat} (h : CC κ M w) (e : ∀ i, i < 255 → M' (w i) = M (w i)) : CC κ M' w := by
  obtain ⟨h0, hL, hH, t0, t1, t2, t3⟩ := h
  exact ⟨(e _ (by omega)).trans h0, hL.eq (fun j hj => ⟨rfl, e _ (by omega)⟩), hH.eq (fun j hj => ⟨rfl, e _ (by omega)⟩), (e _ (by omega)).trans t0, (e _ (by omega)).trans t1, (e _ (by omega)).trans t2, (e _ (by omega)).trans t3⟩
theorem cls_new2 {κ : KP} {M : Mem} {w : Nat → Nat} (N : Nat) (hw : ∀ i j, i < 255 → j < 255 → w i = w j → i = j) (h : CC κ M w) : ∃ ad, aInj ad ∧ ad 254 = w 0 ∧ (∀ i, i < 255 → ad i = w (pm i)) ∧ (∀ t, t < N → ad 255 ≠ t) ∧ ClsAt κ ad M ⟨gI, 0, false, fun _ => 0, 0⟩ 0 0 := by
  obtain ⟨B, hB⟩ := big_of w 255
  obtain ⟨ad, had⟩ : ∃ ad : Nat → Nat, ad = fun i => if i < 255 then w (pm i) else B + N := ⟨_, rfl⟩
  have e : ∀ i, i < 255 → ad i = w (pm i) := fun i hi => by rw [had]; exact if_pos hi
  have e5 : ∀ i, ¬ i < 255 → ad i = B + N := fun i hi => by rw [had]; exact if_neg hi
  obtain ⟨h0, hL, ⟨a0, ⟨f, a1, b1⟩, a2, a3⟩, t0, t1, t2, t3⟩ := h
  have em : ∀ j, j < 31 → ad (0 + j) = w (1 + pl j) := fun j hj => by rw [e _ (by omega)]; unfold pm; rw [if_pos (by omega), Nat.zero_add]
  have ek : ∀ i j, i < 6 → j < 31 → ad (31 + 31 * i + j) = w (32 + (33 + 31 * i + pl j)) := fun i j hi hj => by
    rw [e _ (by omega)]; unfold pm
    rw [if_neg (by omega), if_pos (by omega), show (31 + 31 * i + j - 31) / 31 = i by omega, show (31 + 31 * i + j - 31) % 31 = j by omega]
  have es : ∀ j, j < 31 → ad (217 + j) = w (32 + (2 + pl j)) := fun j hj => by
    rw [e _ (by omega)]; unfold pm
    rw [if_neg (by omega), if_neg (by omega), if_pos (by omega), show 217 + j - 217 = j by omega]
  have labm : LabAt M ad 0 gI 0 0 (fun k => k) := hL.lab em rfl rfl rfl rfl gI_d gI_s (fun j q1 q2 => gI_z (by omega) (by omega))
  have p252 : ad 252 = w 32 := e 252 (by omega)
  have p253 : ad 253 = w 33 := e 253 (by omega)
  have p254 : ad 254 = w 0 := e 254 (by omega)
  have p248 : ad 248 = w 251 := e 248 (by omega)
  have p249 : ad 249 = w 252 := e 249 (by omega)
  have p250 : ad 250 = w 253 := e 250 (by omega)
  have p251 : ad 251 = w 254 := e 251 (by omega)
  have p0 : ad 0 = w 1 := em 0 (by omega)
  have p217 : ad 217 = w 34 := es 0 (by omega)
  refine ⟨ad, fun i j hi hj z => ?_, p254, e, fun t ht z => by rw [e5 255 (by omega)] at z; omega, ?_, ⟨fun k => k, fun k => k, labm, ?_, ⟨f, ?_, fun i hi => ?_⟩, fun i hi => hi, fun i j _ _ z => z, Nat.zero_le 6, fun i hi => ?_, ?_⟩, BI_gI, ⟨0, 0, 0, 0, 0, fun _ => 0, fun _ => 0, ?_, ?_, fun i hi => absurd hi (Nat.not_lt_zero i), ?_, by omega, ?_⟩, TX.none⟩
  · by_cases ci : i < 255
    · by_cases cj : j < 255
      · rw [e i ci, e j cj] at z; exact pm_inj ci cj (hw _ _ (pm_lt ci) (pm_lt cj) z)
      · rw [e i ci, e5 j cj] at z; have := hB _ (pm_lt ci); omega
    · by_cases cj : j < 255
      · rw [e5 i ci, e j cj] at z; have := hB _ (pm_lt cj); omega
      · omega
  · rw [p254, p0, p252, p248]; exact h0
  · rw [p252, p253, p217]; exact a0
  · rw [p253]; exact a1
  · have := ek i 0 hi (by omega)
    rw [Nat.add_zero] at this
    rw [this]; exact b1 i hi
  · refine ⟨fun k => k, ((a3 i hi).lab (ad := ad) (c := 31 + 31 * i) (g := gI) (fun j hj => ek i j hi hj) rfl rfl rfl rfl gI_d gI_s (fun j q1 q2 => gI_z (by omega) (by omega))).raw, fun z => absurd z (Nat.not_lt_zero i)⟩
  · exact ⟨fun k => k, (a2.lab (ad := ad) (c := 217) (g := gI) (fun j hj => es j hj) rfl rfl rfl rfl gI_d gI_s (fun j q1 q2 => gI_z (by omega) (by omega))).raw, fun z => by cases z⟩
  · rw [p248, p249, p250]; exact t0
  · rw [p249]; exact t1
  · rw [p250, p251]; exact t2
  · rw [p251]; exact t3
theorem le10 {P : Nat → Prop} (h0 : P 0) (h1 : P 1) (h2 : P 2) (h3 : P 3) (h4 : P 4) (h5 : P 5) (h6 : P 6) (h7 : P 7) (h8 : P 8) (h9 : P 9) : ∀ j, j < 10 → P j
  | 0, _ => h0
  | 1, _ => h1
  | 2, _ => h2
  | 3, _ => h3
  | 4, _ => h4
  | 5, _ => h5
  | 6, _ => h6
  | 7, _ => h7
  | 8, _ => h8
  | 9, _ => h9
  | j + 10, h => by omega
theorem kC_Bit : Cond.instantiable "BitumenNeedle" 3 ∈ lw_tbl := lw_of (i := 20) (by decide +kernel)
theorem kD_Bit : Cond.initialized "BitumenNeedle" ∈ lw_tbl := lw_of (i := 1) (by decide +kernel)
