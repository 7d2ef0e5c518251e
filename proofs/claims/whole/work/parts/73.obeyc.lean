/-! THE CLASS'S ORDERS -/
theorem tX8_doPart {l : Launch} {κ : KP} {M : Mem} {ad : Nat → Nat} {g u : Nat → Int32} {dn n : Nat} {π : Nat → Nat} (hA : aInj ad) (hX : M (ad 254) = some (.inl (7, [.ref (ad 0), .ref (ad 252), .ref (ad 248)]))) (h0 : LabAt M ad 0 g dn n π) (hI : BI g dn n) {c : Nat} {S : MS} (hP : PN c u) (hv : VALs c S u) (hp : PtAt κ ad M S) : fM l κ mX8_doPart [.ref (ad 254), .ref (ad 250)] M (dPost ad M g dn n c u) := by
  obtain ⟨lt, j, sl, tk, cv, vs⟩ := S
  obtain ⟨hp1, f, hf, hfv⟩ := hp
  obtain ⟨v0, v1, v2, v3⟩ := hv
  replace v0 : lt = c := v0
  replace v1 : c = 98 → vs 0 = u 0 ∧ vs 1 = u 1 := v1
  replace v2 : c = 110 → vs 0 = u 0 ∧ vs 1 = u 1 ∧ vs 3 = u 2 ∧ vs 5 = u 3 := v2
  replace v3 : c ≠ 98 → c ≠ 110 → vs 0 = u 0 := v3
  subst v0
  have g0 := hfv 0 (by omega)
  have g1 := hfv 1 (by omega)
  have g3 := hfv 3 (by omega)
  have g5 := hfv 5 (by omega)
  rcases hP with ⟨rfl, d, hd, e0⟩ | ⟨rfl, q, h1, h2, e0⟩ | ⟨rfl, k, hk, e0, e1⟩ | ⟨rfl, nd, k, w, s, h1, h2, h3, h4, h5, h6, e0, e1, e2, e3⟩ | ⟨rfl, k, hk, e0⟩ | ⟨rfl, d, hd, e0⟩
  · exact tX8_doPart_36 hA hX h0 hI hd e0 hp1 hf (g0.trans ((v3 (by omega) (by omega)).trans e0))
  · exact tX8_doPart_43 hA hX h0 hI h2 e0 hp1 hf (g0.trans ((v3 (by omega) (by omega)).trans e0))
  · obtain ⟨w0, w1⟩ := v1 rfl
    exact tX8_doPart_98 hA hX h0 hI hk e0 rfl hp1 hf (g0.trans (w0.trans e0)) (g1.trans w1)
  · obtain ⟨w0, w1, w2, w3⟩ := v2 rfl
    exact tX8_doPart_110 hA hX h0 hI h1 h2 e0 e1 hp1 hf h4 h6 e2 e3 (g0.trans (w0.trans e0)) (g1.trans (w1.trans e1)) (g3.trans (w2.trans e2)) (g5.trans (w3.trans e3))
  · exact tX8_doPart_111 hA hX h0 hI hk e0 hp1 hf (g0.trans ((v3 (by omega) (by omega)).trans e0))
  · exact tX8_doPart_115 hA hX h0 hI hd e0 hp1 hf (g0.trans ((v3 (by omega) (by omega)).trans e0))
theorem tX8_doPart_y {l : Launch} {κ : KP} {M : Mem} {ad : Nat → Nat} {g u : Nat → Int32} {dn n : Nat} {π : Nat → Nat} (hA : aInj ad) (hX : M (ad 254) = some (.inl (7, [.ref (ad 0), .ref (ad 252), .ref (ad 248)]))) (h0 : LabAt M ad 0 g dn n π) (hI : BI g dn n) {c : Nat} {S : MS} (hP : PN c u) (hv : VALs c S u) (hp : PtAt κ ad M S) (hst : pStops g dn n c u ≤ 0) :
    fM l κ mX8_doPart [.ref (ad 254), .ref (ad 250)] M (fun o M' => o = .inl (some (.int (nI 0))) ∧ (∃ π, LabAt M' ad 0 (pDoes g n c u) dn (n + if c = 115 then 1 else 0) π) ∧ Off ad 0 31 M M') :=
  fM.mono (tX8_doPart hA hX h0 hI hP hv hp) (fun o M' h => h.elim (fun h => ⟨h.2.1, h.2.2.1, h.2.2.2⟩) (fun h => absurd hst h.1))
theorem tX8_doPart_n {l : Launch} {κ : KP} {M : Mem} {ad : Nat → Nat} {g u : Nat → Int32} {dn n : Nat} {π : Nat → Nat} (hA : aInj ad) (hX : M (ad 254) = some (.inl (7, [.ref (ad 0), .ref (ad 252), .ref (ad 248)]))) (h0 : LabAt M ad 0 g dn n π) (hI : BI g dn n) {c : Nat} {S : MS} (hP : PN c u) (hv : VALs c S u) (hp : PtAt κ ad M S) (hst : ¬ pStops g dn n c u ≤ 0) :
    fM l κ mX8_doPart [.ref (ad 254), .ref (ad 250)] M (isI (pStops g dn n c u) M) :=
  fM.mono (tX8_doPart hA hX h0 hI hP hv hp) (fun o M' h => h.elim (fun h => absurd h.1 hst) (fun h => ⟨h.2.1, h.2.2⟩))
theorem LabsAt.frame {ad : Nat → Nat} {M M2 : Mem} {g : Nat → Int32} {sn dn n : Nat} {kp : Bool} (h : LabsAt ad M g sn kp dn n) (hM : ∀ i, i < 256 → (i < 248 ∨ 252 ≤ i) → M2 (ad i) = M (ad i)) : LabsAt ad M2 g sn kp dn n := by
  obtain ⟨π, σ, a1, a2, ⟨f, a3, a4⟩, a5, a6, a7, a8, a9⟩ := h
  refine ⟨π, σ, a1.frame (fun j hj => hM _ (by omega) (by omega)), (hM _ (by omega) (by omega)).trans a2, ⟨f, (hM _ (by omega) (by omega)).trans a3, a4⟩, a5, a6, a7, ?_, ?_⟩
  · intro i hi
    have := a5 i hi
    obtain ⟨ρ, b1, b2⟩ := a8 i hi
    refine ⟨ρ, b1.frame (fun j hj => hM _ (by omega) (by omega)), fun h => ?_⟩
    obtain ⟨x, y, b3, b4⟩ := b2 h
    exact ⟨x, y, b3.frame (fun j hj => hM _ (by omega) (by omega)), b4⟩
  · obtain ⟨ρ, b1, b2⟩ := a9
    refine ⟨ρ, b1.frame (fun j hj => hM _ (by omega) (by omega)), fun h => ?_⟩
    obtain ⟨x, y, b3, b4⟩ := b2 h
    exact ⟨x, y, b3.frame (fun j hj => hM _ (by omega) (by omega)), b4⟩
theorem far_does {g u : Nat → Int32} {dn n c : Nat} (hI : BI g dn n) (hP : PN c u) (hst : pStops g dn n c u ≤ 0) : ∀ j, 376 ≤ j → j < 3008 → pDoes g n c u j = g j := by
  obtain ⟨s1, s2, s3, s4, s5⟩ := pStops_h hI hst
  have hn := hI.nle
  have hdn := hI.dle
  intro j h1 h2
  unfold pDoes
  rcases hP with ⟨rfl, d, hd, e0⟩ | ⟨rfl, q, q1, q2, e0⟩ | ⟨rfl, k, hk, e0, e1⟩ | ⟨rfl, nd, k, w, s, q1, q2, h3, h4, h5, h6, e0, e1, e2, e3⟩ | ⟨rfl, k, hk, e0⟩ | ⟨rfl, d, hd, e0⟩
  · have := (s1 rfl).1
    rw [if_pos rfl]; unfold pSell; exact pk_un (by omega)
  · rw [if_neg (by decide), if_neg (by decide), if_neg (by decide), if_neg (by decide), if_neg (by decide)]; exact far_passT hn j h1 h2
  · have := s2 rfl
    rw [if_neg (by decide), if_pos rfl]; exact pk_un (by omega)
  · have := s3 rfl
    rw [if_neg (by decide), if_neg (by decide), if_pos rfl]; exact far_sink (by omega) (by rw [e0, show cN (nI nd) = nd from nI_clamp (by omega)]; exact q1) this.2 j h1 h2
  · have := s4 rfl
    rw [if_neg (by decide), if_neg (by decide), if_neg (by decide), if_pos rfl]; exact far_ring (by omega) j h1 h2
  · have := s5 rfl
    rw [if_neg (by decide), if_neg (by decide), if_neg (by decide), if_neg (by decide), if_pos rfl]; exact far_take hI this.1 this.2 j h1 h2
theorem rPart_0 {ch : Nat → Nat} {nu : Nat → Int32} {i : Nat} (h : ch i = 0) : (rPart ch nu i).1 = false := by
  unfold rPart
  rw [if_neg (by omega), if_neg (by omega), if_neg (by omega), if_neg (by omega), if_neg (by omega), if_neg (by omega)]
theorem rAll_step {ch : Nat → Nat} {ln K i : Nat} {nu : Nat → Int32} (h : (rAll ch ln K nu i).1.1 = true) : (rPart ch nu0 i).1 = true ∧ ((rPart ch nu0 i).2.1 = ln ∨ (ch (rPart ch nu0 i).2.1 = 59 ∧ ∃ K nu, (rAll ch ln K nu ((rPart ch nu0 i).2.1 + 1)).1.1 = true)) := by
  cases K with
  | zero => cases h
  | succ K =>
    have e : rAll ch ln (K + 1) nu i = if (rPart ch nu i).1 = true then (if (rPart ch nu i).2.1 = ln then (rPart ch nu i, ch i) else if ch (rPart ch nu i).2.1 = 59 then rAll ch ln K (rPart ch nu i).2.2 ((rPart ch nu i).2.1 + 1) else ((false, (rPart ch nu i).2), ch i)) else (rPart ch nu i, ch i) := rfl
    obtain ⟨n1, n2, -⟩ := rPart_nu (ch := ch) (nu := nu) (nu' := nu0) (i := i)
    rw [e] at h
    rw [← n1, ← n2]
    by_cases h1 : (rPart ch nu i).1 = true
    · rw [if_pos h1] at h
      refine ⟨h1, ?_⟩
      by_cases h2 : (rPart ch nu i).2.1 = ln
      · exact Or.inl h2
      · rw [if_neg h2] at h
        by_cases h3 : ch (rPart ch nu i).2.1 = 59
        · rw [if_pos h3] at h
          exact Or.inr ⟨h3, _, _, h⟩
        · rw [if_neg h3] at h; cases h
    · rw [if_neg h1] at h; exact absurd h h1
/-- what stands between two orders -/
def ObAt (κ : KP) (ad : Nat → Nat) (M : Mem) (g : Nat → Int32) (sn : Nat) (kp : Bool) (dn n : Nat) (fc : Nat → Int32) (ln : Nat) (pl : Int32) : Prop :=
  M (ad 254) = some (.inl (7, [.ref (ad 0), .ref (ad 252), .ref (ad 248)])) ∧ LabsAt ad M g sn kp dn n ∧ BI g dn n ∧ TxAt ad M fc ln pl ∧ ∃ (x0 x2 x3 : Int32) (jq : Nat) (fq : Nat → Int32), jq < 6 ∧ M (ad 250) = some (.inl (5, [.int x0, .ref (kK κ jq), .int x2, .int x3, .ref (ad 251)])) ∧ M (ad 251) = some (.inr (0, 6, .inl fq))
def obPost (κ : KP) (ad : Nat → Nat) (M : Mem) (sn : Nat) (kp : Bool) (tx : Nat → Int32) (R : (Nat → Int32) × Int32 × Nat × Nat) : FPost := fun o M' => o = .inl (some (.int (nI R.2.2.1))) ∧ (∃ dn' n', ClsAt κ ad M' ⟨U89 R.1 (st89 R.2.1 (nI R.2.2.1)) (st89 R.2.1 R.2.1), sn, kp, tx, 0⟩ dn' n') ∧ OffC ad M M'
theorem U89_lab {ad : Nat → Nat} {M : Mem} {g : Nat → Int32} {dn n : Nat} {π : Nat → Nat} {x y : Int32} (hA : aInj ad) (h0 : LabAt M ad 0 g dn n π) (hI : BI g dn n) : LabAt (fup M (ad 0) (.inl (2, [.ref (ad (0 + 1)), .ref (ad (0 + 2)), .ref (ad (0 + 3)), .ref (ad (0 + 4)), .ref (ad (0 + 5)), .int (nI dn), .int (nI n), .int (g 3), .int (g 4), .int x, .int y]))) ad 0 (U89 g x y) dn n π :=
  W_num hA (by omega) h0 hI (by unfold U89; rw [pk_un (by omega), pk_un (by omega)]) (by unfold U89; rw [pk_un (by omega), pk_un (by omega)]) (by unfold U89; rw [pk_un (by omega), pk_us]) (by unfold U89; rw [pk_us]) (fun j h1 h2 => by unfold U89; rw [pk_un (by omega), pk_un (by omega)])
theorem ob_end {κ : KP} {ad : Nat → Nat} {M M2 : Mem} {g fc tx : Nat → Int32} {sn dn n ln : Nat} {kp : Bool} {pl x y : Int32} {π : Nat → Nat} (hA : aInj ad) (hO : ObAt κ ad M g sn kp dn n fc ln pl) (hL : LabAt (fup M (ad 0) (.inl (2, [.ref (ad (0 + 1)), .ref (ad (0 + 2)), .ref (ad (0 + 3)), .ref (ad (0 + 4)), .ref (ad (0 + 5)), .int (nI dn), .int (nI n), .int (g 3), .int (g 4), .int x, .int y]))) ad 0 (U89 g x y) dn n π)
    (hM : M2 = fup (fup M (ad 0) (.inl (2, [.ref (ad (0 + 1)), .ref (ad (0 + 2)), .ref (ad (0 + 3)), .ref (ad (0 + 4)), .ref (ad (0 + 5)), .int (nI dn), .int (nI n), .int (g 3), .int (g 4), .int x, .int y]))) (ad 248) (.inl (4, [.ref (ad 249), .ref (ad 250), .int (nI 0), .int pl]))) :
    ClsAt κ ad M2 ⟨U89 g x y, sn, kp, tx, 0⟩ dn n ∧ OffC ad M M2 := by
  subst hM
  obtain ⟨hX, hS, hI, hT, x0, x2, x3, jq, fq, hj, hp, hf⟩ := hO
  have m1 : ∀ i, i < 256 → i ≠ 0 → i ≠ 248 → fup (fup M (ad 0) (.inl (2, [.ref (ad (0 + 1)), .ref (ad (0 + 2)), .ref (ad (0 + 3)), .ref (ad (0 + 4)), .ref (ad (0 + 5)), .int (nI dn), .int (nI n), .int (g 3), .int (g 4), .int x, .int y]))) (ad 248) (.inl (4, [.ref (ad 249), .ref (ad 250), .int (nI 0), .int pl])) (ad i) = M (ad i) := fun i h1 h2 h3 => (fup_ne (hA.ne h1 (by omega) h3)).trans (fup_ne (hA.ne h1 (by omega) h2))
  have hS1 := labs_own (M2 := fup M (ad 0) (.inl (2, [.ref (ad (0 + 1)), .ref (ad (0 + 2)), .ref (ad (0 + 3)), .ref (ad (0 + 4)), .ref (ad (0 + 5)), .int (nI dn), .int (nI n), .int (g 3), .int (g 4), .int x, .int y]))) (g' := U89 g x y) hA hS (Off.up0 (by omega)) hL (fun j h1 h2 => by unfold U89; rw [pk_un (by omega), pk_un (by omega)])
  refine ⟨⟨(m1 _ (by omega) (by omega) (by omega)).trans hX, hS1.frame (fun i h1 h2 => fup_ne (hA.ne h1 (by omega) (by omega))), hI.u89, ⟨pl, x0, x2, x3, jq, fc, fq, fup_eq, (m1 _ (by omega) (by omega) (by omega)).trans hT.2, fun i hi => absurd hi (Nat.not_lt_zero i), (m1 _ (by omega) (by omega) (by omega)).trans hp, hj, (m1 _ (by omega) (by omega) (by omega)).trans hf⟩, TX.none⟩, fun b hb => (fup_ne (hb 248 (by omega))).trans (fup_ne (hb 0 (by omega)))⟩
theorem lX8_obey_end {l : Launch} {κ : KP} {M : Mem} {ad : Nat → Nat} {g fc tx : Nat → Int32} {ln sn dn n c : Nat} {kp : Bool} {pl r : Int32} (hA : aInj ad) (hO : ObAt κ ad M g sn kp dn n fc ln pl) : fR l κ mX8_obey 82 [(2, .int (r)), (1, .int (nI (c))), (0, .ref (ad 254))] [] M 1 6 (obPost κ ad M sn kp tx (g, r, c, n)) := by
  obtain ⟨hX, hS, hI, hT, x0, x2, x3, jq, fq, hj, hp, hf⟩ := id hO
  obtain ⟨π, h0⟩ := hS.main
  refine r_aload_n dX8_obey_82 rfl ?_
  refine r_get (k := 0) dX8_obey_83 hX rfl rfl (by decide) kX8_10F ?_
  refine r_iload_n dX8_obey_86 rfl ?_
  refine r_if_ne (tgt := 94) dX8_obey_87 (by decide) (fun c1 => ?_) (fun c1 => ?_)
  · skip
    refine r_iload_n dX8_obey_94 rfl ?_
    refine r_put (k := 9) (fs' := [.ref (ad (0 + 1)), .ref (ad (0 + 2)), .ref (ad (0 + 3)), .ref (ad (0 + 4)), .ref (ad (0 + 5)), .int (nI (dn)), .int (nI (n)), .int (g 3), .int (g 4), .int (nI (c)), .int (g 9)]) dX8_obey_95 h0.lab rfl (by decide) kX8_168F rfl rfl rfl (Nat.le_of_ble_eq_true rfl) rfl ?_
    refine r_aload_n dX8_obey_98 rfl ?_
    refine r_get (k := 0) dX8_obey_99 ((fup_ne (hA.ne (by omega) (by omega) (by omega))).trans hX) rfl rfl (by decide) kX8_10F ?_
    refine r_iload_n dX8_obey_102 rfl ?_
    refine r_if_ne (tgt := 110) dX8_obey_103 (by decide) (fun c2 => ?_) (fun c2 => by first | exact absurd c2 (by assumption) | exact absurd (by assumption) c2 | exact absurd (c2.symm.trans (by assumption)) (by decide))
    refine r_iload_n dX8_obey_110 rfl ?_
    refine r_put (k := 10) (fs' := [.ref (ad (0 + 1)), .ref (ad (0 + 2)), .ref (ad (0 + 3)), .ref (ad (0 + 4)), .ref (ad (0 + 5)), .int (nI (dn)), .int (nI (n)), .int (g 3), .int (g 4), .int (nI (c)), .int (r)]) dX8_obey_111 fup_eq rfl (by decide) kX8_171F rfl rfl rfl (Nat.le_of_ble_eq_true rfl) rfl ?_
    refine r_mem fup_fup ?_
    refine r_aload_n dX8_obey_114 rfl ?_
    refine r_get (k := 2) dX8_obey_115 ((fup_ne (hA.ne (by omega) (by omega) (by omega))).trans hX) rfl rfl (by decide) kX8_26F ?_
    refine r_callV (As := []) dX8_obey_118 (tX4_empty hA ((fup_ne (hA.ne (by omega) (by omega) (by omega))).trans hT.1)) rfl ((fup_ne (hA.ne (by omega) (by omega) (by omega))).trans hT.1) rfl rfl oX4_empty rfl kX8_140M nX4_empty eX4_empty (by unfold fRoom; decide) (Nat.le_of_ble_eq_true rfl) rfl (bc' := 1) (bs' := 6) rfl rfl ?_
    show fR _ _ _ 121 _ (.int (nI (ln)) :: _) _ _ _ _
    refine r_pop dX8_obey_121 rfl ?_
    refine r_iload_n dX8_obey_122 rfl ?_
    have e8 : st89 r (nI c) = nI c := if_neg (by assumption)
    have e9 : st89 r r = r := if_neg (by assumption)
    have hL := U89_lab (x := (nI c)) (y := r) hA h0 hI
    obtain ⟨k1, k2⟩ := ob_end (tx := tx) hA hO hL rfl
    exact fR_iret dX8_obey_123 rfl ⟨rfl, ⟨dn, n, by rw [show (st89 (g, r, c, n).2.1 (nI (g, r, c, n).2.2.1)) = _ from e8, show (st89 (g, r, c, n).2.1 (g, r, c, n).2.1) = _ from e9]; exact k1⟩, k2⟩
  · skip
    refine r_iconst (v := (-1)) dX8_obey_90 (by decide) ?_
    refine r_goto (tgt := 95) dX8_obey_91 (by decide) ?_
    refine r_put (k := 9) (fs' := [.ref (ad (0 + 1)), .ref (ad (0 + 2)), .ref (ad (0 + 3)), .ref (ad (0 + 4)), .ref (ad (0 + 5)), .int (nI (dn)), .int (nI (n)), .int (g 3), .int (g 4), .int (-1), .int (g 9)]) dX8_obey_95 h0.lab rfl (by decide) kX8_168F rfl rfl rfl (Nat.le_of_ble_eq_true rfl) rfl ?_
    refine r_aload_n dX8_obey_98 rfl ?_
    refine r_get (k := 0) dX8_obey_99 ((fup_ne (hA.ne (by omega) (by omega) (by omega))).trans hX) rfl rfl (by decide) kX8_10F ?_
    refine r_iload_n dX8_obey_102 rfl ?_
    refine r_if_ne (tgt := 110) dX8_obey_103 (by decide) (fun c3 => by first | exact absurd c3 (by assumption) | exact absurd (by assumption) c3 | exact absurd (c3.symm.trans (by assumption)) (by decide)) (fun c3 => ?_)
    refine r_iconst (v := (-1)) dX8_obey_106 (by decide) ?_
    refine r_goto (tgt := 111) dX8_obey_107 (by decide) ?_
    refine r_put (k := 10) (fs' := [.ref (ad (0 + 1)), .ref (ad (0 + 2)), .ref (ad (0 + 3)), .ref (ad (0 + 4)), .ref (ad (0 + 5)), .int (nI (dn)), .int (nI (n)), .int (g 3), .int (g 4), .int (-1), .int (-1)]) dX8_obey_111 fup_eq rfl (by decide) kX8_171F rfl rfl rfl (Nat.le_of_ble_eq_true rfl) rfl ?_
    refine r_mem fup_fup ?_
    refine r_aload_n dX8_obey_114 rfl ?_
    refine r_get (k := 2) dX8_obey_115 ((fup_ne (hA.ne (by omega) (by omega) (by omega))).trans hX) rfl rfl (by decide) kX8_26F ?_
    refine r_callV (As := []) dX8_obey_118 (tX4_empty hA ((fup_ne (hA.ne (by omega) (by omega) (by omega))).trans hT.1)) rfl ((fup_ne (hA.ne (by omega) (by omega) (by omega))).trans hT.1) rfl rfl oX4_empty rfl kX8_140M nX4_empty eX4_empty (by unfold fRoom; decide) (Nat.le_of_ble_eq_true rfl) rfl (bc' := 1) (bs' := 6) rfl rfl ?_
    show fR _ _ _ 121 _ (.int (nI (ln)) :: _) _ _ _ _
    refine r_pop dX8_obey_121 rfl ?_
    refine r_iload_n dX8_obey_122 rfl ?_
    have e8 : st89 r (nI c) = -1 := if_pos (by assumption)
    have e9 : st89 r r = -1 := if_pos (by assumption)
    have hL := U89_lab (x := (-1)) (y := (-1)) hA h0 hI
    obtain ⟨k1, k2⟩ := ob_end (tx := tx) hA hO hL rfl
    exact fR_iret dX8_obey_123 rfl ⟨rfl, ⟨dn, n, by rw [show (st89 (g, r, c, n).2.1 (nI (g, r, c, n).2.2.1)) = _ from e8, show (st89 (g, r, c, n).2.1 (g, r, c, n).2.1) = _ from e9]; exact k1⟩, k2⟩
theorem lX8_obey {l : Launch} {κ : KP} {ad : Nat → Nat} {fc tx : Nat → Int32} {ln sn dn : Nat} {kp : Bool} {ch : Nat → Nat} (hA : aInj ad) (hTX : TX tx ln ch) (hcv : ∀ i, i < ln → fc i = nI (ch i)) : ∀ (N : Nat) (g : Nat → Int32) (n i c t p : Nat) (M : Mem), ln < N + i → i ≤ ln → t ≤ i → (p = i ∨ (ln ≤ p ∧ ln ≤ i)) → p < 100 → (i < ln → ∃ K nu, (rAll ch ln K nu i).1.1 = true) → ObAt κ ad M g sn kp dn n fc ln (nI p) → fR l κ mX8_obey 37 [(3, .int (nI (t))), (2, .int (nI (0))), (1, .int (nI (c))), (0, .ref (ad 254))] [] M 1 6 (obPost κ ad M sn kp tx (cOb ch dn N g n i c)) := by
  have hl := hTX.1
  have h126 := hTX.2.2.2
  intro N
  induction N with
  | zero => intro g n i c t p M h1 h2; omega
  | succ N ih =>
    intro g n i c t p M h1 h2 h3 hpi h100 hval hO
    obtain ⟨hX, hS, hI, hT, x0, x2, x3, jq, fq, hj, hp, hf⟩ := id hO
    refine r_iload_n dX8_obey_37 rfl ?_
    refine r_bipush (v := nI 60) dX8_obey_38 (by decide) ?_
    refine r_icmp_geN (tgt := 82) dX8_obey_40 (by decide) (by omega) (by omega) (fun c1 => ?_) (fun c1 => ?_)
    · skip
      refine r_lv (lv' := [(2, .int (nI (0))), (1, .int (nI (c))), (0, .ref (ad 254))]) (by simp) ?_
      have hz : i = ln := by omega
      have eC : cOb ch dn (N + 1) g n i c = (g, 0, c, n) := if_neg (by rw [rPart_0 (hTX.2.2.1 i (by omega))]; exact Bool.false_ne_true)
      rw [eC]
      exact lX8_obey_end (r := 0) hA hO
    · skip
      refine r_iload_n dX8_obey_43 rfl ?_
      refine r_if_neN (tgt := 82) dX8_obey_44 (by decide) (by omega) (fun c2 => absurd c2 (by omega)) (fun c2 => ?_)
      refine r_aload_n dX8_obey_47 rfl ?_
      refine r_get (k := 2) dX8_obey_48 hX rfl rfl (by decide) kX8_26F ?_
      by_cases c3 : p < ln
      · skip
        have hip : p = i := by omega
        subst hip
        have hil : p < ln := by assumption
        obtain ⟨K9, nu9, hrA⟩ := hval hil
        obtain ⟨hR0, hRe⟩ := rAll_step hrA
        have hlt := (rPart_le (nu := nu0) hTX h2).2.2 hR0
        have hle := (rPart_le (nu := nu0) hTX h2).2.1
        obtain ⟨hn1, hn2⟩ := nP_part (N := 61) hTX (by omega) h2 hR0 (hRe.imp id (fun z => z.1))
        refine r_callVP (As := []) dX8_obey_51 (tX4_nextPart_1 hA hl hcv h126 hp hf hT h100 hil) rfl hT.1 rfl rfl oX4_nextPart rfl kX8_157M nX4_nextPart eX4_nextPart (by unfold fRoom; decide) (Nat.le_of_ble_eq_true rfl) rfl (bc' := 1) (bs' := 6) rfl rfl (fun E M9 h => by cases h.1) (fun v M1 hq => ?_)
        obtain ⟨hv1, hT1, hp1, hm1, ho1⟩ := hq
        cases hv1
        rw [hn1] at hT1
        have a1 : ∀ j, j < 256 → j ≠ 248 → j ≠ 250 → j ≠ 251 → M1 (ad j) = M (ad j) := fun j b0 b1 b2 b3 => ho1 _ (hA.ne b0 (by omega) b1) (hA.ne b0 (by omega) b2) (hA.ne b0 (by omega) b3)
        have hX1 := (a1 254 (by omega) (by omega) (by omega) (by omega)).trans hX
        have hS1 := hS.frame (M2 := M1) (fun j b0 b1 => a1 j b0 (by omega) (by omega) (by omega))
        obtain ⟨π1, h01⟩ := hS1.main
        have hPN := rPart_PN hR0
        show fR _ _ _ 54 _ (.int (bI (true)) :: _) _ _ _ _
        refine r_if_eqB (tgt := 82) dX8_obey_54 (by decide) (fun c4 => absurd c4 (by decide)) (fun c4 => ?_)
        refine r_aload_n dX8_obey_57 rfl ?_
        refine r_aload_n dX8_obey_58 rfl ?_
        refine r_get (k := 2) dX8_obey_59 hX1 rfl rfl (by decide) kX8_26F ?_
        refine r_get (k := 1) dX8_obey_62 hT1.1 rfl rfl (by decide) kX8_160F ?_
        by_cases c5 : pStops g dn n (ch p) (rPart ch nu0 p).2.2 ≤ 0
        · skip
          refine r_callVP (As := [.ref (ad 250)]) dX8_obey_65 (tX8_doPart_y hA hX1 h01 hI hPN hn2 hp1 c5) rfl hX1 rfl rfl oX8_doPart rfl kX8_164M nX8_doPart eX8_doPart (by unfold fRoom; decide) (Nat.le_of_ble_eq_true rfl) rfl (bc' := 1) (bs' := 6) rfl rfl (fun E M9 h => by cases h.1) (fun v M2 hq => ?_)
          obtain ⟨hv2, ⟨π2, hL2⟩, hO2⟩ := hq
          cases hv2
          have hst := (by assumption : pStops g dn n (ch p) (rPart ch nu0 p).2.2 ≤ 0)
          have hS2 := labs_own hA hS1 hO2 hL2 (far_does hI hPN hst)
          have hI2 := hI.does hPN hst
          have a2 : ∀ j, 31 ≤ j → j < 256 → M2 (ad j) = M1 (ad j) := fun j b0 b1 => hO2.at hA b1 (by omega) (by omega)
          show fR _ _ _ 68 _ (.int (nI (0)) :: _) _ _ _ _
          refine r_istore_n (lv' := [(2, .int (nI (0))), (3, .int (nI (t))), (1, .int (nI (c))), (0, .ref (ad 254))]) dX8_obey_68 (by decide) rfl ?_
          refine r_iload_n dX8_obey_69 rfl ?_
          refine r_if_neN (tgt := 76) dX8_obey_70 (by decide) (by omega) (fun c6 => absurd c6 (by omega)) (fun c6 => ?_)
          refine r_iinc (v := (nI (c + 1))) (lv' := [(1, .int (nI (c + 1))), (2, .int (nI (0))), (3, .int (nI (t))), (0, .ref (ad 254))]) dX8_obey_73 rfl (nI_inc _) (by decide) rfl ?_
          refine r_iinc (v := (nI (t + 1))) (lv' := [(3, .int (nI (t + 1))), (1, .int (nI (c + 1))), (2, .int (nI (0))), (0, .ref (ad 254))]) dX8_obey_76 rfl (nI_inc _) (by decide) rfl ?_
          refine r_goto (tgt := 37) dX8_obey_79 (by decide) ?_
          have eC : cOb ch dn (N + 1) g n p c = cOb ch dn N (pDoes g n (ch p) (rPart ch nu0 p).2.2) (n + if ch p = 115 then 1 else 0) (if ch (rPart ch nu0 p).2.1 = 59 then (rPart ch nu0 p).2.1 + 1 else (rPart ch nu0 p).2.1) (c + 1) := (if_pos hR0).trans (if_pos hst)
          rw [eC]
          refine r_lv (lv' := [(3, .int (nI (t + 1))), (2, .int (nI (0))), (1, .int (nI (c + 1))), (0, .ref (ad 254))]) (by simp) ?_
          have hT2 : TxAt ad M2 fc ln (nI ((rPart ch nu0 p).2.1 + 1)) := ⟨(a2 248 (by omega) (by omega)).trans hT1.1, (a2 249 (by omega) (by omega)).trans hT1.2⟩
          obtain ⟨y0, y2, y3, jy, fy, hjy, hpy, hfy⟩ := hp1.raw hm1
          have hOb : ObAt κ ad M2 (pDoes g n (ch p) (rPart ch nu0 p).2.2) sn kp dn (n + if ch p = 115 then 1 else 0) fc ln (nI ((rPart ch nu0 p).2.1 + 1)) := ⟨(a2 254 (by omega) (by omega)).trans hX1, hS2, hI2, hT2, y0, y2, y3, jy, fy, hjy, (a2 250 (by omega) (by omega)).trans hpy, (a2 251 (by omega) (by omega)).trans hfy⟩
          have hof : OffC ad M M2 := OffC.trans (fun b hb => ho1 b (hb 248 (by omega)) (hb 250 (by omega)) (hb 251 (by omega))) (OffC.o hO2 (by omega))
          have hgo : ∀ q, (if ch (rPart ch nu0 p).2.1 = 59 then (rPart ch nu0 p).2.1 + 1 else (rPart ch nu0 p).2.1) = q → q ≤ ln → t + 1 ≤ q → ((rPart ch nu0 p).2.1 + 1 = q ∨ (ln ≤ (rPart ch nu0 p).2.1 + 1 ∧ ln ≤ q)) → (q < ln → ∃ K nu, (rAll ch ln K nu q).1.1 = true) → fR l κ mX8_obey 37 [(3, .int (nI (t + 1))), (2, .int (nI 0)), (1, .int (nI (c + 1))), (0, .ref (ad 254))] [] M2 1 6 (obPost κ ad M sn kp tx (cOb ch dn N (pDoes g n (ch p) (rPart ch nu0 p).2.2) (n + if ch p = 115 then 1 else 0) (if ch (rPart ch nu0 p).2.1 = 59 then (rPart ch nu0 p).2.1 + 1 else (rPart ch nu0 p).2.1) (c + 1))) := fun q e q1 q2 q3 q4 => by
            rw [e]
            exact fR.mono (ih _ _ q (c + 1) (t + 1) _ M2 (by omega) q1 (by omega) q3 (by omega) q4 hOb) (fun o M' h => ⟨h.1, h.2.1, hof.trans h.2.2⟩)
          rcases hRe with hRe | ⟨hRe, hK⟩
          · have hz : ch (rPart ch nu0 p).2.1 = 0 := hTX.2.2.1 _ (by omega)
            exact hgo _ (if_neg (by omega)) (by omega) (by omega) (Or.inr ⟨by omega, by omega⟩) (fun z => by omega)
          · have hlz : (rPart ch nu0 p).2.1 < ln := hTX.in (by omega)
            exact hgo _ (if_pos hRe) (by omega) (by omega) (Or.inl rfl) (fun _ => hK)
        · skip
          have hst : ¬ pStops g dn n (ch p) (rPart ch nu0 p).2.2 ≤ 0 := c5
          refine r_callV (As := [.ref (ad 250)]) dX8_obey_65 (tX8_doPart_n hA hX1 h01 hI hPN hn2 hp1 hst) rfl hX1 rfl rfl oX8_doPart rfl kX8_164M nX8_doPart eX8_doPart (by unfold fRoom; decide) (Nat.le_of_ble_eq_true rfl) rfl (bc' := 1) (bs' := 6) rfl rfl ?_
          show fR _ _ _ 68 _ (.int ((pStops g dn n (ch p) (rPart ch nu0 p).2.2)) :: _) _ _ _ _
          refine r_istore_n (lv' := [(2, .int ((pStops g dn n (ch p) (rPart ch nu0 p).2.2))), (3, .int (nI (t))), (1, .int (nI (c))), (0, .ref (ad 254))]) dX8_obey_68 (by decide) rfl ?_
          refine r_iload_n dX8_obey_69 rfl ?_
          refine r_if_ne (tgt := 76) dX8_obey_70 (by decide) (fun c7 => ?_) (fun c7 => ?_)
          · skip
            refine r_iinc (v := (nI (t + 1))) (lv' := [(3, .int (nI (t + 1))), (2, .int ((pStops g dn n (ch p) (rPart ch nu0 p).2.2))), (1, .int (nI (c))), (0, .ref (ad 254))]) dX8_obey_76 rfl (nI_inc _) (by decide) rfl ?_
            refine r_goto (tgt := 37) dX8_obey_79 (by decide) ?_
            refine r_lv (lv' := [(3, .int (nI (t + 1))), (2, .int ((pStops g dn n (ch p) (rPart ch nu0 p).2.2))), (1, .int (nI (c))), (0, .ref (ad 254))]) (by simp) ?_
            refine r_iload_n dX8_obey_37 rfl ?_
            refine r_bipush (v := nI 60) dX8_obey_38 (by decide) ?_
            refine r_icmp_geN (tgt := 82) dX8_obey_40 (by decide) (by omega) (by omega) (fun c8 => ?_) (fun c8 => ?_)
            · skip
              refine r_lv (lv' := [(2, .int ((pStops g dn n (ch p) (rPart ch nu0 p).2.2))), (1, .int (nI (c))), (0, .ref (ad 254))]) (by simp) ?_
              have eC : cOb ch dn (N + 1) g n p c = (g, (pStops g dn n (ch p) (rPart ch nu0 p).2.2), c, n) := (if_pos hR0).trans (if_neg hst)
              rw [eC]
              obtain ⟨y0, y2, y3, jy, fy, hjy, hpy, hfy⟩ := hp1.raw hm1
              exact fR.mono (lX8_obey_end (tx := tx) hA (⟨hX1, hS1, hI, hT1, y0, y2, y3, jy, fy, hjy, hpy, hfy⟩ : ObAt κ ad M1 g sn kp dn n fc ln _)) (fun o M' h => ⟨h.1, h.2.1, OffC.trans (fun b hb => ho1 b (hb 248 (by omega)) (hb 250 (by omega)) (hb 251 (by omega))) h.2.2⟩)
            · skip
              refine r_iload_n dX8_obey_43 rfl ?_
              refine r_if_ne (tgt := 82) dX8_obey_44 (by decide) (fun c9 => ?_) (fun c9 => by first | exact absurd c9 (by assumption) | exact absurd (by assumption) c9 | exact absurd (c9.symm.trans (by assumption)) (by decide))
              refine r_lv (lv' := [(2, .int ((pStops g dn n (ch p) (rPart ch nu0 p).2.2))), (1, .int (nI (c))), (0, .ref (ad 254))]) (by simp) ?_
              have eC : cOb ch dn (N + 1) g n p c = (g, (pStops g dn n (ch p) (rPart ch nu0 p).2.2), c, n) := (if_pos hR0).trans (if_neg hst)
              rw [eC]
              obtain ⟨y0, y2, y3, jy, fy, hjy, hpy, hfy⟩ := hp1.raw hm1
              exact fR.mono (lX8_obey_end (tx := tx) hA (⟨hX1, hS1, hI, hT1, y0, y2, y3, jy, fy, hjy, hpy, hfy⟩ : ObAt κ ad M1 g sn kp dn n fc ln _)) (fun o M' h => ⟨h.1, h.2.1, OffC.trans (fun b hb => ho1 b (hb 248 (by omega)) (hb 250 (by omega)) (hb 251 (by omega))) h.2.2⟩)
          · skip
            exact absurd (pStops_z.mpr c7) hst
      · skip
        refine r_callV (As := []) dX8_obey_51 (tX4_nextPart_0 hA hl hcv h126 hp hf hT h100 (by assumption)) rfl hT.1 rfl rfl oX4_nextPart rfl kX8_157M nX4_nextPart eX4_nextPart (by unfold fRoom; decide) (Nat.le_of_ble_eq_true rfl) rfl (bc' := 1) (bs' := 6) rfl rfl ?_
        show fR _ _ _ 54 _ (.int (bI (false)) :: _) _ _ _ _
        refine r_if_eqB (tgt := 82) dX8_obey_54 (by decide) (fun c10 => ?_) (fun c10 => absurd c10 (by decide))
        refine r_lv (lv' := [(2, .int (nI (0))), (1, .int (nI (c))), (0, .ref (ad 254))]) (by simp) ?_
        have hz : i = ln := by omega
        have eC : cOb ch dn (N + 1) g n i c = (g, 0, c, n) := if_neg (by rw [rPart_0 (hTX.2.2.1 i (by omega))]; exact Bool.false_ne_true)
        rw [eC]
        exact lX8_obey_end (r := 0) hA hO
