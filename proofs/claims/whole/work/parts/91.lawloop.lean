/-! THE LAW'S LOOP -/
theorem and63 (x : Int32) : ∃ k, k < 64 ∧ x &&& nI 63 = nI k := by
  refine ⟨(x &&& nI 63).toBitVec.toNat, ?_, ?_⟩
  · show ((x.toBitVec) &&& (nI 63).toBitVec).toNat < 64
    rw [BitVec.toNat_and]
    have : (nI 63).toBitVec.toNat = 63 := by decide
    rw [this]
    exact Nat.lt_succ_of_le Nat.and_le_right
  · apply Int32.toBitVec_inj.mp
    show _ = BitVec.ofNat 32 _
    simp
theorem law_true {nm : String} {hh : List (Nat × Nat × Nat × Nat)} {l : Launch} {κ : KP} {lv : List (Nat × Value)} {M : Mem} {bc bs : Nat} : fR l κ (mL_law nm hh) 2104 lv [] M bc bs (fun o _ => o = .inl (some (.int (nI 1)))) := by
  refine r_iconst (v := nI 1) dL_law_2104 (by decide) ?_
  exact fR_zret dL_law_2105 rfl rfl rfl
theorem law_loop {nm : String} {hh : List (Nat × Nat × Nat × Nat)} {l : Launch} {κ : KP} {ad : Nat → Nat} {q m sA tA nA : Nat} (hD : LD ad q m sA tA nA) (h5 : 5 ≤ kL κ) (hk : kL κ ≤ 2560) : ∀ (N i : Nat) (M : Mem) (z : Zs) (dn n : Nat), kL κ < N + i → i ≤ 3000 → LI κ ad q m sA tA nA M z dn n → fR l κ (mL_law nm hh) 23 (LV κ ad q m i) [] M (5 * N) (30 * N) (fun o _ => o = .inl (some (.int (nI 1)))) := by
  intro N
  induction N with
  | zero =>
    intro i M z dn n h1 h2 hL
    refine r_iload dL_law_23 rfl ?_
    refine r_aload_n dL_law_25 rfl ?_
    refine r_slen dL_law_26 ?_
    refine r_top (y := nI (kL κ)) rfl ?_
    refine r_iconst (v := nI 5) dL_law_27 (by decide) ?_
    refine r_isubN dL_law_28 h5 ?_
    refine r_icmp_gtN (tgt := 2104) dL_law_29 (by decide) (by omega) (by omega) (fun _ => law_true) (fun c => absurd c (by omega))
  | succ N ih =>
    intro i M z dn n h1 h2 hL
    have next : ∀ (z' : Zs) (dn' n' : Nat) (M2 : Mem), i + 5 ≤ kL κ → LI κ ad q m sA tA nA M2 z' dn' n' → fR l κ (mL_law nm hh) 2098 (LV κ ad q m i) [] M2 (5 * N) (30 * N) (fun o _ => o = .inl (some (.int (nI 1)))) := fun z' dn' n' M2 hi h => by
      refine r_iinc (v := nI (i + 5)) (lv' := LV κ ad q m (i + 5)) dL_law_2098 rfl (nI_add _ _) (Nat.le_of_ble_eq_true rfl) rfl ?_
      refine r_goto (tgt := 23) dL_law_2101 (by decide) ?_
      exact ih (i + 5) M2 z' dn' n' (by omega) (by omega) h
    refine r_iload dL_law_23 rfl ?_
    refine r_aload_n dL_law_25 rfl ?_
    refine r_slen dL_law_26 ?_
    refine r_top (y := nI (kL κ)) rfl ?_
    refine r_iconst (v := nI 5) dL_law_27 (by decide) ?_
    refine r_isubN dL_law_28 h5 ?_
    refine r_icmp_gtN (tgt := 2104) dL_law_29 (by decide) (by omega) (by omega) (fun _ => law_true) (fun c1 => ?_)
    have hi : i + 5 ≤ kL κ := by omega
    refine r_aload_n dL_law_32 rfl ?_
    refine r_iload dL_law_33 rfl ?_
    refine r_sld dL_law_35 (vp_in_nI (by omega) (by omega)) ?_
    refine r_bipush (v := nI 63) dL_law_36 (by decide) ?_
    refine r_iand dL_law_38 ?_
    obtain ⟨k, hk64, ek⟩ := and63 (kX κ (nI i).toNatClampNeg)
    refine r_top (y := nI k) ek ?_
    by_cases c0 : k = 0
    · refine r_top (y := nI 0) (by rw [c0]) ?_
      refine r_tableIn (off := 149) (tgt := 188) dL_law_39 (by decide) (by decide) (by decide) (by decide) ?_
      refine r_bud (bc' := 5 * N + 2) (bs' := 30 * N + 12) (by omega) (by omega) ?_
      exact lL_op0 hD hL hi hk (fun z' dn' n' M2 h => next z' dn' n' M2 hi h)
    by_cases c1 : k = 1
    · refine r_top (y := nI 1) (by rw [c1]) ?_
      refine r_tableIn (off := 205) (tgt := 244) dL_law_39 (by decide) (by decide) (by decide) (by decide) ?_
      refine r_bud (bc' := 5 * N + 1) (bs' := 30 * N + 6) (by omega) (by omega) ?_
      exact lL_op1 hD hL hi hk (fun z' dn' n' M2 h => next z' dn' n' M2 hi h)
    by_cases c2 : k = 2
    · refine r_top (y := nI 2) (by rw [c2]) ?_
      refine r_tableIn (off := 261) (tgt := 300) dL_law_39 (by decide) (by decide) (by decide) (by decide) ?_
      refine r_bud (bc' := 5 * N + 1) (bs' := 30 * N + 6) (by omega) (by omega) ?_
      exact lL_op2 hD hL hi hk (fun z' dn' n' M2 h => next z' dn' n' M2 hi h)
    by_cases c3 : k = 3
    · refine r_top (y := nI 3) (by rw [c3]) ?_
      refine r_tableIn (off := 317) (tgt := 356) dL_law_39 (by decide) (by decide) (by decide) (by decide) ?_
      refine r_bud (bc' := 5 * N + 1) (bs' := 30 * N + 6) (by omega) (by omega) ?_
      exact lL_op3 hD hL hi hk (fun z' dn' n' M2 h => next z' dn' n' M2 hi h)
    by_cases c4 : k = 4
    · refine r_top (y := nI 4) (by rw [c4]) ?_
      refine r_tableIn (off := 373) (tgt := 412) dL_law_39 (by decide) (by decide) (by decide) (by decide) ?_
      refine r_bud (bc' := 5 * N + 2) (bs' := 30 * N + 12) (by omega) (by omega) ?_
      exact lL_op4 hD hL hi hk (fun z' dn' n' M2 h => next z' dn' n' M2 hi h)
    by_cases c5 : k = 5
    · refine r_top (y := nI 5) (by rw [c5]) ?_
      refine r_tableIn (off := 441) (tgt := 480) dL_law_39 (by decide) (by decide) (by decide) (by decide) ?_
      refine r_bud (bc' := 5 * N + 2) (bs' := 30 * N + 12) (by omega) (by omega) ?_
      exact lL_op5 hD hL hi hk (fun z' dn' n' M2 h => next z' dn' n' M2 hi h)
    by_cases c6 : k = 6
    · refine r_top (y := nI 6) (by rw [c6]) ?_
      refine r_tableIn (off := 509) (tgt := 548) dL_law_39 (by decide) (by decide) (by decide) (by decide) ?_
      refine r_bud (bc' := 5 * N + 1) (bs' := 30 * N + 6) (by omega) (by omega) ?_
      exact lL_op6 hD hL hi hk (fun z' dn' n' M2 h => next z' dn' n' M2 hi h)
    by_cases c7 : k = 7
    · refine r_top (y := nI 7) (by rw [c7]) ?_
      refine r_tableIn (off := 565) (tgt := 604) dL_law_39 (by decide) (by decide) (by decide) (by decide) ?_
      refine r_bud (bc' := 5 * N + 5) (bs' := 30 * N + 30) (by omega) (by omega) ?_
      exact lL_op7 hD hL hi hk (fun z' dn' n' M2 h => next z' dn' n' M2 hi h)
    by_cases c8 : k = 8
    · refine r_top (y := nI 8) (by rw [c8]) ?_
      refine r_tableIn (off := 657) (tgt := 696) dL_law_39 (by decide) (by decide) (by decide) (by decide) ?_
      refine r_bud (bc' := 5 * N + 1) (bs' := 30 * N + 6) (by omega) (by omega) ?_
      exact lL_op8 hD hL hi hk (fun z' dn' n' M2 h => next z' dn' n' M2 hi h)
    by_cases c9 : k = 9
    · refine r_top (y := nI 9) (by rw [c9]) ?_
      refine r_tableIn (off := 713) (tgt := 752) dL_law_39 (by decide) (by decide) (by decide) (by decide) ?_
      refine r_bud (bc' := 5 * N + 1) (bs' := 30 * N + 6) (by omega) (by omega) ?_
      exact lL_op9 hD hL hi hk (fun z' dn' n' M2 h => next z' dn' n' M2 hi h)
    by_cases c10 : k = 10
    · refine r_top (y := nI 10) (by rw [c10]) ?_
      refine r_tableIn (off := 769) (tgt := 808) dL_law_39 (by decide) (by decide) (by decide) (by decide) ?_
      refine r_bud (bc' := 5 * N + 1) (bs' := 30 * N + 6) (by omega) (by omega) ?_
      exact lL_op10 hD hL hi hk (fun z' dn' n' M2 h => next z' dn' n' M2 hi h)
    by_cases c11 : k = 11
    · refine r_top (y := nI 11) (by rw [c11]) ?_
      refine r_tableIn (off := 825) (tgt := 864) dL_law_39 (by decide) (by decide) (by decide) (by decide) ?_
      refine r_bud (bc' := 5 * N + 2) (bs' := 30 * N + 12) (by omega) (by omega) ?_
      exact lL_op11 hD hL hi hk (fun z' dn' n' M2 h => next z' dn' n' M2 hi h)
    by_cases c12 : k = 12
    · refine r_top (y := nI 12) (by rw [c12]) ?_
      refine r_tableIn (off := 893) (tgt := 932) dL_law_39 (by decide) (by decide) (by decide) (by decide) ?_
      refine r_bud (bc' := 5 * N + 2) (bs' := 30 * N + 12) (by omega) (by omega) ?_
      exact lL_op12 hD hL hi hk (fun z' dn' n' M2 h => next z' dn' n' M2 hi h)
    by_cases c13 : k = 13
    · refine r_top (y := nI 13) (by rw [c13]) ?_
      refine r_tableIn (off := 949) (tgt := 988) dL_law_39 (by decide) (by decide) (by decide) (by decide) ?_
      refine r_bud (bc' := 5 * N + 0) (bs' := 30 * N + 0) (by omega) (by omega) ?_
      exact lL_op13 hD hL hi hk (fun z' dn' n' M2 h => next z' dn' n' M2 hi h)
    by_cases c14 : k = 14
    · refine r_top (y := nI 14) (by rw [c14]) ?_
      refine r_tableIn (off := 962) (tgt := 1001) dL_law_39 (by decide) (by decide) (by decide) (by decide) ?_
      refine r_bud (bc' := 5 * N + 0) (bs' := 30 * N + 0) (by omega) (by omega) ?_
      exact lL_op14 hD hL hi hk (fun z' dn' n' M2 h => next z' dn' n' M2 hi h)
    by_cases c15 : k = 15
    · refine r_top (y := nI 15) (by rw [c15]) ?_
      refine r_tableIn (off := 975) (tgt := 1014) dL_law_39 (by decide) (by decide) (by decide) (by decide) ?_
      refine r_bud (bc' := 5 * N + 1) (bs' := 30 * N + 6) (by omega) (by omega) ?_
      exact lL_op15 hD hL hi hk (fun z' dn' n' M2 h => next z' dn' n' M2 hi h)
    by_cases c16 : k = 16
    · refine r_top (y := nI 16) (by rw [c16]) ?_
      refine r_tableIn (off := 1019) (tgt := 1058) dL_law_39 (by decide) (by decide) (by decide) (by decide) ?_
      refine r_bud (bc' := 5 * N + 1) (bs' := 30 * N + 6) (by omega) (by omega) ?_
      exact lL_op16 hD hL hi hk (fun z' dn' n' M2 h => next z' dn' n' M2 hi h)
    by_cases c17 : k = 17
    · refine r_top (y := nI 17) (by rw [c17]) ?_
      refine r_tableIn (off := 1075) (tgt := 1114) dL_law_39 (by decide) (by decide) (by decide) (by decide) ?_
      refine r_bud (bc' := 5 * N + 1) (bs' := 30 * N + 6) (by omega) (by omega) ?_
      exact lL_op17 hD hL hi hk (fun z' dn' n' M2 h => next z' dn' n' M2 hi h)
    by_cases c18 : k = 18
    · refine r_top (y := nI 18) (by rw [c18]) ?_
      refine r_tableIn (off := 1119) (tgt := 1158) dL_law_39 (by decide) (by decide) (by decide) (by decide) ?_
      refine r_bud (bc' := 5 * N + 0) (bs' := 30 * N + 0) (by omega) (by omega) ?_
      exact lL_op18 hD hL hi hk (fun z' dn' n' M2 h => next z' dn' n' M2 hi h)
    by_cases c19 : k = 19
    · refine r_top (y := nI 19) (by rw [c19]) ?_
      refine r_tableIn (off := 1132) (tgt := 1171) dL_law_39 (by decide) (by decide) (by decide) (by decide) ?_
      refine r_bud (bc' := 5 * N + 1) (bs' := 30 * N + 6) (by omega) (by omega) ?_
      exact lL_op19 hD hL hi hk (fun z' dn' n' M2 h => next z' dn' n' M2 hi h)
    by_cases c20 : k = 20
    · refine r_top (y := nI 20) (by rw [c20]) ?_
      refine r_tableIn (off := 1176) (tgt := 1215) dL_law_39 (by decide) (by decide) (by decide) (by decide) ?_
      refine r_bud (bc' := 5 * N + 2) (bs' := 30 * N + 12) (by omega) (by omega) ?_
      exact lL_op20 hD hL hi hk (fun z' dn' n' M2 h => next z' dn' n' M2 hi h)
    by_cases c21 : k = 21
    · refine r_top (y := nI 21) (by rw [c21]) ?_
      refine r_tableIn (off := 1244) (tgt := 1283) dL_law_39 (by decide) (by decide) (by decide) (by decide) ?_
      refine r_bud (bc' := 5 * N + 2) (bs' := 30 * N + 12) (by omega) (by omega) ?_
      exact lL_op21 hD hL hi hk (fun z' dn' n' M2 h => next z' dn' n' M2 hi h)
    by_cases c22 : k = 22
    · refine r_top (y := nI 22) (by rw [c22]) ?_
      refine r_tableIn (off := 1312) (tgt := 1351) dL_law_39 (by decide) (by decide) (by decide) (by decide) ?_
      refine r_bud (bc' := 5 * N + 3) (bs' := 30 * N + 18) (by omega) (by omega) ?_
      exact lL_op22 hD hL hi hk (fun z' dn' n' M2 h => next z' dn' n' M2 hi h)
    by_cases c23 : k = 23
    · refine r_top (y := nI 23) (by rw [c23]) ?_
      refine r_tableIn (off := 1392) (tgt := 1431) dL_law_39 (by decide) (by decide) (by decide) (by decide) ?_
      refine r_bud (bc' := 5 * N + 2) (bs' := 30 * N + 12) (by omega) (by omega) ?_
      exact lL_op23 hD hL hi hk (fun z' dn' n' M2 h => next z' dn' n' M2 hi h)
    by_cases c24 : k = 24
    · refine r_top (y := nI 24) (by rw [c24]) ?_
      refine r_tableIn (off := 1460) (tgt := 1499) dL_law_39 (by decide) (by decide) (by decide) (by decide) ?_
      refine r_bud (bc' := 5 * N + 2) (bs' := 30 * N + 12) (by omega) (by omega) ?_
      exact lL_op24 hD hL hi hk (fun z' dn' n' M2 h => next z' dn' n' M2 hi h)
    by_cases c25 : k = 25
    · refine r_top (y := nI 25) (by rw [c25]) ?_
      refine r_tableIn (off := 1528) (tgt := 1567) dL_law_39 (by decide) (by decide) (by decide) (by decide) ?_
      refine r_bud (bc' := 5 * N + 1) (bs' := 30 * N + 6) (by omega) (by omega) ?_
      exact lL_op25 hD hL hi hk (fun z' dn' n' M2 h => next z' dn' n' M2 hi h)
    by_cases c26 : k = 26
    · refine r_top (y := nI 26) (by rw [c26]) ?_
      refine r_tableIn (off := 1584) (tgt := 1623) dL_law_39 (by decide) (by decide) (by decide) (by decide) ?_
      refine r_bud (bc' := 5 * N + 2) (bs' := 30 * N + 12) (by omega) (by omega) ?_
      exact lL_op26 hD hL hi hk (fun z' dn' n' M2 h => next z' dn' n' M2 hi h)
    by_cases c27 : k = 27
    · refine r_top (y := nI 27) (by rw [c27]) ?_
      refine r_tableIn (off := 1652) (tgt := 1691) dL_law_39 (by decide) (by decide) (by decide) (by decide) ?_
      refine r_bud (bc' := 5 * N + 1) (bs' := 30 * N + 6) (by omega) (by omega) ?_
      exact lL_op27 hD hL hi hk (fun z' dn' n' M2 h => next z' dn' n' M2 hi h)
    by_cases c28 : k = 28
    · refine r_top (y := nI 28) (by rw [c28]) ?_
      refine r_tableIn (off := 1708) (tgt := 1747) dL_law_39 (by decide) (by decide) (by decide) (by decide) ?_
      refine r_bud (bc' := 5 * N + 4) (bs' := 30 * N + 24) (by omega) (by omega) ?_
      exact lL_op28 hD hL hi hk (fun z' dn' n' M2 h => next z' dn' n' M2 hi h)
    by_cases c29 : k = 29
    · refine r_top (y := nI 29) (by rw [c29]) ?_
      refine r_tableIn (off := 1800) (tgt := 1839) dL_law_39 (by decide) (by decide) (by decide) (by decide) ?_
      refine r_bud (bc' := 5 * N + 4) (bs' := 30 * N + 24) (by omega) (by omega) ?_
      exact lL_op29 hD hL hi hk (fun z' dn' n' M2 h => next z' dn' n' M2 hi h)
    by_cases c30 : k = 30
    · refine r_top (y := nI 30) (by rw [c30]) ?_
      refine r_tableIn (off := 1892) (tgt := 1931) dL_law_39 (by decide) (by decide) (by decide) (by decide) ?_
      refine r_bud (bc' := 5 * N + 1) (bs' := 30 * N + 6) (by omega) (by omega) ?_
      exact lL_op30 hD hL hi hk (fun z' dn' n' M2 h => next z' dn' n' M2 hi h)
    by_cases c31 : k = 31
    · refine r_top (y := nI 31) (by rw [c31]) ?_
      refine r_tableIn (off := 1948) (tgt := 1987) dL_law_39 (by decide) (by decide) (by decide) (by decide) ?_
      refine r_bud (bc' := 5 * N + 1) (bs' := 30 * N + 6) (by omega) (by omega) ?_
      exact lL_op31 hD hL hi hk (fun z' dn' n' M2 h => next z' dn' n' M2 hi h)
    by_cases c32 : k = 32
    · refine r_top (y := nI 32) (by rw [c32]) ?_
      refine r_tableIn (off := 2004) (tgt := 2043) dL_law_39 (by decide) (by decide) (by decide) (by decide) ?_
      refine r_bud (bc' := 5 * N + 0) (bs' := 30 * N + 0) (by omega) (by omega) ?_
      exact lL_op32 hD hL hi hk (fun z' dn' n' M2 h => next z' dn' n' M2 hi h)
    by_cases c33 : k = 33
    · refine r_top (y := nI 33) (by rw [c33]) ?_
      refine r_tableIn (off := 2045) (tgt := 2084) dL_law_39 (by decide) (by decide) (by decide) (by decide) ?_
      refine r_bud (bc' := 5 * N + 0) (bs' := 30 * N + 0) (by omega) (by omega) ?_
      exact lL_op33 hD hL hi hk (fun z' dn' n' M2 h => next z' dn' n' M2 hi h)
    refine r_tableOut (tgt := 2098) dL_law_39 (Or.inr (by rw [nI_toInt (by omega)]; omega)) (by decide) ?_
    exact r_bud (bc' := 5 * N) (bs' := 30 * N) (by omega) (by omega) (next z dn n M hi hL)
theorem law_short {nm : String} {hh : List (Nat × Nat × Nat × Nat)} {l : Launch} {κ : KP} {ad : Nat → Nat} {q m : Nat} {M : Mem} {bc bs : Nat} (h5 : ¬ 5 ≤ kL κ) : fR l κ (mL_law nm hh) 23 (LV κ ad q m 0) [] M bc bs (fun o _ => o = .inl (some (.int (nI 1)))) := by
  refine r_iload dL_law_23 rfl ?_
  refine r_aload_n dL_law_25 rfl ?_
  refine r_slen dL_law_26 ?_
  refine r_top (y := nI (kL κ)) rfl ?_
  refine r_iconst (v := nI 5) dL_law_27 (by decide) ?_
  refine r_isub dL_law_28 ?_
  have h : kL κ = 0 ∨ kL κ = 1 ∨ kL κ = 2 ∨ kL κ = 3 ∨ kL κ = 4 := by omega
  refine r_icmp_gt (tgt := 2104) dL_law_29 (by decide) (fun _ => law_true) (fun c => absurd ?_ c)
  rcases h with h | h | h | h | h <;> rw [h] <;> decide
