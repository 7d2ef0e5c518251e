/-! CALLS WITH OPEN ENDS; THE SAVED STATES AT WORK -/
section R59
variable {l : Launch} {κ : KP} {μ μ' : MD} {pc : Nat} {lv : List (Nat × Value)} {st rest : List Value} {M : Mem} {bc bs : Nat} {P P' : FPost}
theorem r_callVP {idx n b ci : Nat} {fs As : List Value} {q : vw_C} (d : decode (mB μ) pc = .ok (.invokevirtual idx, 3)) (hM : fM l κ μ' (.ref b :: As) M P') (hst : st = As.reverse ++ .ref b :: rest)
    (hb : M b = some (.inl (ci, fs))) (hcl : vwCl[ci]? = some q) (hq : q.1 = (mY μ').cls) (hok : fOK μ' n) (hn : As.length = n) (hlink : Cond.methodLink (mY μ).cls idx (mY μ') ∈ lw_tbl) (hin : Cond.instanceMethod (mY μ') ∈ lw_tbl) (hse : Cond.selects (mY μ').cls (mY μ') (mY μ') ∈ lw_tbl)
    (hR : fRoom μ μ' bc bs) (hcat : (rest.map fun v => v.category).sum ≤ 8) (hH : mH μ = []) {bc' bs' : Nat} (hbc : bc' + (mR μ').cells = bc) (hbs : bs' + (mR μ').slots = bs) (hno : ∀ E M', ¬ P' (.inr E) M')
    (kk : ∀ v M', P' (.inl v) M' → fR l κ μ (pc + 3) lv (v.toList ++ rest) M' bc' bs' P) : fR l κ μ pc lv st M bc bs P :=
  fR_callV d hM hst hb hcl hq hok hn hlink hin hse hR hcat hH (fun v' M' h => by
    rw [show bc - (mR μ').cells = bc' by omega, show bs - (mR μ').slots = bs' by omega]; exact kk v' M' h) (fun E M' h => (hno E M' h).elim)
theorem r_callSP {idx n : Nat} {As : List Value} (d : decode (mB μ) pc = .ok (.invokestatic idx, 3)) (hM : fM l κ μ' As M P') (hst : st = As.reverse ++ rest)
    (hok : fOK μ' n) (hn : As.length = n) (hlink : Cond.methodLink (mY μ).cls idx (mY μ') ∈ lw_tbl) (hin : Cond.static (mY μ') ∈ lw_tbl)
    (hR : fRoom μ μ' bc bs) (hcat : (rest.map fun v => v.category).sum ≤ 8) (hH : mH μ = []) {bc' bs' : Nat} (hbc : bc' + (mR μ').cells = bc) (hbs : bs' + (mR μ').slots = bs) (hno : ∀ E M', ¬ P' (.inr E) M')
    (kk : ∀ v M', P' (.inl v) M' → fR l κ μ (pc + 3) lv (v.toList ++ rest) M' bc' bs' P) : fR l κ μ pc lv st M bc bs P :=
  fR_callS d hM hst hok hn hlink hin hR hcat hH (fun v' M' h => by
    rw [show bc - (mR μ').cells = bc' by omega, show bs - (mR μ').slots = bs' by omega]; exact kk v' M' h) (fun E M' h => (hno E M' h).elim)
end R59
def OffS (ad : Nat → Nat) (M M' : Mem) : Prop := ∀ b, (∀ t, t < 248 → b ≠ ad t) → b ≠ ad 252 → b ≠ ad 253 → M' b = M b
theorem OffS.trans {ad : Nat → Nat} {M M1 M2 : Mem} (h : OffS ad M M1) (h2 : OffS ad M1 M2) : OffS ad M M2 := fun b h3 h4 h5 => (h2 b h3 h4 h5).trans (h b h3 h4 h5)
theorem OffS.of {ad : Nat → Nat} {M M1 : Mem} {c : Nat} (h : Off ad c 31 M M1) (hc : c + 31 ≤ 248) : OffS ad M M1 := fun b h3 _ _ => h b (fun t ht => h3 _ (by omega))
theorem OffS.at {ad : Nat → Nat} {M M1 : Mem} (h : OffS ad M M1) (hA : aInj ad) {i : Nat} (h1 : 248 ≤ i) (h2 : i < 256) (h3 : i ≠ 252) (h4 : i ≠ 253) : M1 (ad i) = M (ad i) := h _ (fun t ht => hA.ne h2 (by omega) (by omega)) (hA.ne h2 (by omega) h3) (hA.ne h2 (by omega) h4)
theorem OffS.up2 {ad : Nat → Nat} {M : Mem} {x : MC} : OffS ad M (fup M (ad 252) x) := fun b _ h _ => fup_ne h
section Sv
variable {ad : Nat → Nat} {M M2 : Mem} {g g' : Nat → Int32} {dn n sn cnt : Nat} {kp : Bool} {π σ src ρ : Nat → Nat}
theorem save_fin (hA : aInj ad) (h0 : LabAt M ad 0 g dn n π) (hI : BI g dn n) (hcnt : cnt < 6) (s1 : ∀ i, i < 6 → σ i < 6) (s2 : ∀ i j, i < 6 → j < 6 → σ i = σ j → i = j)
    (hraw : ∀ i, i < 6 → i ≠ cnt → ∃ ρ, LabRaw M ad (31 + 31 * σ i) ρ ∧ (i < cnt → ∃ dn' n', LabAt M ad (31 + 31 * σ i) (blk g (src i)) dn' n' ρ ∧ BI (blk g (src i)) dn' n'))
    (hsnap : ∃ ρ, LabRaw M ad 217 ρ ∧ (kp = true → ∃ dn' n', LabAt M ad 217 (blk g 7) dn' n' ρ ∧ BI (blk g 7) dn' n'))
    (m : ∀ t, t < 256 → (t < 31 + 31 * σ cnt ∨ 31 + 31 * σ cnt + 31 ≤ t) → t ≠ 252 → t ≠ 253 → M2 (ad t) = M (ad t))
    (hh : M2 (ad 252) = some (.inl (1, [.ref (ad 253), .ref (ad 217), .int (nI (cnt + 1)), .int (bI kp)])))
    (hs : ∃ f, M2 (ad 253) = some (.inr (6, 6, .inr (.inr (.inr (.inr f))))) ∧ ∀ i, i < 6 → f i = some (ad (31 + 31 * σ i)))
    (hnew : LabAt M2 ad (31 + 31 * σ cnt) g dn n ρ)
    (e0 : ∀ j, j < 376 → g' j = g j) (e1 : ∀ i, i < cnt → ∀ j, j < 376 → g' (376 * (i + 1) + j) = g (376 * src i + j)) (e2 : ∀ j, j < 376 → g' (376 * (cnt + 1) + j) = g j) (e7 : ∀ j, j < 376 → g' (376 * 7 + j) = g (376 * 7 + j)) : LabsAt ad M2 g' (cnt + 1) kp dn n := by
  have hc := s1 cnt hcnt
  refine save_end (h0.frame (fun j hj => m _ (by omega) (by omega) (by omega) (by omega))) hI hcnt hh hs s1 s2 ?_ ⟨ρ, hnew⟩ ?_ e0 e1 e2 e7
  · intro i hi e
    have h1 := s1 i hi
    have h2 : σ i ≠ σ cnt := fun q => e (s2 i cnt hi hcnt q)
    obtain ⟨r, h3, h4⟩ := hraw i hi e
    have fr : ∀ j, j < 31 → M2 (ad (31 + 31 * σ i + j)) = M (ad (31 + 31 * σ i + j)) := fun j hj => m _ (by omega) (by omega) (by omega) (by omega)
    refine ⟨r, h3.frame fr, fun h => ?_⟩
    obtain ⟨a, b, h5, h6⟩ := h4 h
    exact ⟨a, b, h5.frame fr, h6⟩
  · obtain ⟨r, h3, h4⟩ := hsnap
    have fr : ∀ j, j < 31 → M2 (ad (217 + j)) = M (ad (217 + j)) := fun j hj => m _ (by omega) (by omega) (by omega) (by omega)
    refine ⟨r, h3.frame fr, fun h => ?_⟩
    obtain ⟨a, b, h5, h6⟩ := h4 h
    exact ⟨a, b, h5.frame fr, h6⟩
/-- the laboratory itself anew -/
theorem labs_main {dn' n' sn' : Nat} (hS : LabsAt ad M g sn kp dn n) (m : ∀ t, t < 256 → 31 ≤ t → t ≠ 252 → M2 (ad t) = M (ad t)) (hh : M2 (ad 252) = some (.inl (1, [.ref (ad 253), .ref (ad 217), .int (nI sn'), .int (bI kp)]))) (hsn : sn' ≤ sn)
    (h0 : LabAt M2 ad 0 g' dn' n' π) (e : ∀ t, 1 ≤ t → t < 8 → ∀ j, j < 376 → g' (376 * t + j) = g (376 * t + j)) : LabsAt ad M2 g' sn' kp dn' n' := by
  obtain ⟨π0, σ, -, -, ⟨f, hf, hv⟩, s1, s2, h6, hr, hsn2⟩ := hS
  refine ⟨π, σ, h0, hh, ⟨f, (m _ (by omega) (by omega) (by omega)).trans hf, hv⟩, s1, s2, by omega, ?_, ?_⟩
  · intro i hi
    have := s1 i hi
    obtain ⟨r, h3, h4⟩ := hr i hi
    have fr : ∀ j, j < 31 → M2 (ad (31 + 31 * σ i + j)) = M (ad (31 + 31 * σ i + j)) := fun j hj => m _ (by omega) (by omega) (by omega)
    refine ⟨r, h3.frame fr, fun h => ?_⟩
    obtain ⟨a, b, h5, h7⟩ := h4 (by omega)
    exact ⟨a, b, (h5.frame fr).congr h7.k9 (fun j hj => e (i + 1) (by omega) (by omega) j hj), h7.congr (fun j hj => e (i + 1) (by omega) (by omega) j hj)⟩
  · obtain ⟨r, h3, h4⟩ := hsn2
    have fr : ∀ j, j < 31 → M2 (ad (217 + j)) = M (ad (217 + j)) := fun j hj => m _ (by omega) (by omega) (by omega)
    refine ⟨r, h3.frame fr, fun h => ?_⟩
    obtain ⟨a, b, h5, h7⟩ := h4 h
    exact ⟨a, b, (h5.frame fr).congr h7.k9 (fun j hj => e 7 (by omega) (by omega) j hj), h7.congr (fun j hj => e 7 (by omega) (by omega) j hj)⟩
theorem LabsAt.hist (hS : LabsAt ad M g sn kp dn n) : M (ad 252) = some (.inl (1, [.ref (ad 253), .ref (ad 217), .int (nI sn), .int (bI kp)])) := by
  obtain ⟨_, _, _, h, _⟩ := hS; exact h
theorem LabsAt.main (hS : LabsAt ad M g sn kp dn n) : ∃ π, LabAt M ad 0 g dn n π := by
  obtain ⟨π, _, h, _⟩ := hS; exact ⟨π, h⟩
theorem LabsAt.s6 (hS : LabsAt ad M g sn kp dn n) : sn ≤ 6 := by
  obtain ⟨_, _, _, _, _, _, _, h, _⟩ := hS; exact h
/-- the laboratory changed in its own cells -/
theorem labs_own {dn' n' : Nat} (hA : aInj ad) (hS : LabsAt ad M g sn kp dn n) (hO : Off ad 0 31 M M2) (h0 : LabAt M2 ad 0 g' dn' n' π) (e : ∀ j, 376 ≤ j → j < 3008 → g' j = g j) : LabsAt ad M2 g' sn kp dn' n' :=
  labs_main hS (fun t h1 h2 _ => hO.at hA h1 (by omega) (by omega)) ((hO.at hA (by omega) (by omega) (by omega)).trans hS.hist) (Nat.le_refl _) h0 (fun t h1 h2 j hj => e _ (by omega) (by omega))
/-- the snapshot anew -/
theorem labs_keep (hA : aInj ad) (hS : LabsAt ad M g sn kp dn n) (hI : BI g dn n) (m : ∀ t, t < 256 → (t < 217 ∨ 248 ≤ t) → t ≠ 252 → M2 (ad t) = M (ad t)) (hh : M2 (ad 252) = some (.inl (1, [.ref (ad 253), .ref (ad 217), .int (nI sn), .int (bI true)])))
    (h7 : LabAt M2 ad 217 g dn n ρ) : LabsAt ad M2 (pCp g 0 7) sn true dn n := by
  obtain ⟨π0, σ, h0, -, ⟨f, hf, hv⟩, s1, s2, h6, hr, -⟩ := hS
  have e : ∀ t, t < 7 → ∀ j, j < 376 → pCp g 0 7 (376 * t + j) = g (376 * t + j) := fun t ht j hj => by rw [pCp_blk hj, if_neg (by omega)]
  have e0 : ∀ j, j < 376 → pCp g 0 7 j = g j := fun j hj => by have := e 0 (by omega) j hj; rw [show 376 * 0 + j = j by omega] at this; exact this
  have e7 : ∀ j, j < 376 → blk (pCp g 0 7) 7 j = g j := fun j hj => by show pCp g 0 7 (376 * 7 + j) = _; rw [pCp_blk hj, if_pos rfl]; congr 1; omega
  refine ⟨π0, σ, (h0.frame (fun j hj => m _ (by omega) (by omega) (by omega))).congr hI.k9 e0, hh, ⟨f, (m _ (by omega) (by omega) (by omega)).trans hf, hv⟩, s1, s2, h6, ?_, ?_⟩
  · intro i hi
    have := s1 i hi
    obtain ⟨r, h3, h4⟩ := hr i hi
    have fr : ∀ j, j < 31 → M2 (ad (31 + 31 * σ i + j)) = M (ad (31 + 31 * σ i + j)) := fun j hj => m _ (by omega) (by omega) (by omega)
    refine ⟨r, h3.frame fr, fun h => ?_⟩
    obtain ⟨a, b, h5, h8⟩ := h4 (by omega)
    exact ⟨a, b, (h5.frame fr).congr h8.k9 (fun j hj => e (i + 1) (by omega) j hj), h8.congr (fun j hj => e (i + 1) (by omega) j hj)⟩
  · exact ⟨ρ, h7.raw, fun _ => ⟨dn, n, h7.congr hI.k9 e7, hI.congr e7⟩⟩
end Sv
theorem tX1_save_l {l : Launch} {κ : KP} {M : Mem} {ad : Nat → Nat} {g : Nat → Int32} {dn n sn : Nat} {kp : Bool} (hA : aInj ad) (hS : LabsAt ad M g sn kp dn n) (hI : BI g dn n) (hlt : sn < 6) : fM l κ mX1_save [.ref (ad 252), .ref (ad 0)] M ((fun o M' => o = .inl none ∧ LabsAt ad M' (pSave g sn) (pUp sn) kp dn n ∧ OffS ad M M')) := by
  refine fM_of rfl (by decide +kernel) (Nat.le_of_ble_eq_true rfl) ?_
  obtain ⟨π, σ, h0, hh, ⟨f, hf, hv⟩, s1, s2, h6, hr, hsn⟩ := id hS
  show fR l κ mX1_save 0 [(0, .ref (ad 252)), (1, .ref (ad 0))] [] M 0 0 _
  refine r_aload_n dX1_save_0 rfl ?_
  refine r_get (k := 2) dX1_save_1 hh rfl rfl (by decide) kX1_22F ?_
  refine r_bipush (v := nI 6) dX1_save_4 (by decide) ?_
  refine r_icmp_ltN (tgt := 13) dX1_save_6 (by decide) (by omega) (by omega) (fun c1 => ?_) (fun c1 => ?_)
  · skip
    refine r_aload_n dX1_save_13 rfl ?_
    refine r_get (k := 0) dX1_save_14 hh rfl rfl (by decide) kX1_11F ?_
    refine r_aload_n dX1_save_17 rfl ?_
    refine r_get (k := 2) dX1_save_18 hh rfl rfl (by decide) kX1_22F ?_
    refine r_aldqN dX1_save_21 hf rfl (by omega) (by decide) (hv (sn) (by omega)) ?_
    refine r_aload_n dX1_save_22 rfl ?_
    obtain ⟨ρ, hraw, -⟩ := hr sn (by omega)
    have hc6 := s1 sn (by omega)
    obtain ⟨⟨x5, x6, x7, x8, x9, x10, hob⟩, -⟩ := id hraw
    refine r_callVP (As := [.ref (ad 0)]) dX1_save_23 (tX2_copyFrom hA (by omega) (by omega) (by omega) h0 hI hraw) rfl hob rfl rfl oX2_copyFrom rfl kX1_29M nX2_copyFrom eX2_copyFrom (by unfold fRoom; decide) (Nat.le_of_ble_eq_true rfl) rfl (bc' := 0) (bs' := 0) rfl rfl (fun E M9 h => by cases h.1) (fun v M1 hq => ?_)
    obtain ⟨hv1, hL1, hO1⟩ := hq
    cases hv1
    show fR _ _ _ 26 _ _ _ _ _ _
    refine r_aload_n dX1_save_26 rfl ?_
    refine r_dup dX1_save_27 rfl ?_
    refine r_get (k := 2) dX1_save_28 ((hO1.at hA (by omega) (by omega) (by omega)).trans hh) rfl rfl (by decide) kX1_22F ?_
    refine r_iconst (v := nI 1) dX1_save_31 (by decide) ?_
    refine r_iaddN dX1_save_32 ?_
    refine r_put (k := 2) (fs' := [.ref (ad 253), .ref (ad 217), .int (nI ((sn + 1))), .int (bI (kp))]) dX1_save_33 ((hO1.at hA (by omega) (by omega) (by omega)).trans hh) rfl (by decide) kX1_22F rfl rfl rfl (Nat.le_of_ble_eq_true rfl) rfl ?_
    refine fR_vret dX1_save_36 rfl ⟨rfl, ?_, ?_⟩
    · rw [show pSave g sn = pSaveL g sn from if_neg (by omega), show pUp sn = sn + 1 from if_neg (by omega)]
      refine save_fin (M := M) (src := fun i => i + 1) hA h0 hI (by omega) s1 s2 (fun i hi e => ?_) hsn (fun t h1 h2 h3 h4 => (fup_ne (hA.ne h1 (by omega) h3)).trans (hO1.at hA h1 (by omega) (by omega))) fup_eq ⟨f, (fup_ne (hA.ne (by omega) (by omega) (by omega))).trans ((hO1.at hA (by omega) (by omega) (by omega)).trans hf), hv⟩ (hL1.frame (fun j hj => fup_ne (hA.ne (by omega) (by omega) (by omega)))) (fun j hj => ?_) (fun i hi j hj => ?_) (fun j hj => ?_) (fun j hj => ?_)
      · obtain ⟨r, h3, h4⟩ := hr i hi; exact ⟨r, h3, h4⟩
      · have := pSaveL_blk (f := g) (sn := sn) (t := 0) hj; rw [if_neg (by omega), show 376 * 0 + j = j by omega] at this; exact this
      · rw [pSaveL_blk hj, if_neg (by omega)]
      · rw [pSaveL_blk hj, if_pos rfl]
      · rw [pSaveL_blk hj, if_neg (by omega)]
    · exact (OffS.of hO1 (by omega)).trans OffS.up2
  · skip
    exact absurd hlt c1
theorem tX1_save_6 {l : Launch} {κ : KP} {M : Mem} {ad : Nat → Nat} {g : Nat → Int32} {dn n : Nat} {kp : Bool} (hA : aInj ad) (hS : LabsAt ad M g 6 kp dn n) (hI : BI g dn n) : fM l κ mX1_save [.ref (ad 252), .ref (ad 0)] M ((fun o M' => o = .inl none ∧ LabsAt ad M' (pSave g 6) (pUp 6) kp dn n ∧ OffS ad M M')) := by
  refine fM_of rfl (by decide +kernel) (Nat.le_of_ble_eq_true rfl) ?_
  obtain ⟨π, σ, h0, hh, ⟨f, hf, hv⟩, s1, s2, h6, hr, hsn⟩ := id hS
  show fR l κ mX1_save 0 [(0, .ref (ad 252)), (1, .ref (ad 0))] [] M 0 0 _
  refine r_aload_n dX1_save_0 rfl ?_
  refine r_get (k := 2) dX1_save_1 hh rfl rfl (by decide) kX1_22F ?_
  refine r_bipush (v := nI 6) dX1_save_4 (by decide) ?_
  refine r_icmp_ltN (tgt := 13) dX1_save_6 (by decide) (by omega) (by omega) (fun c1 => absurd c1 (by omega)) (fun c1 => ?_)
  refine r_aload_n dX1_save_9 rfl ?_
  refine r_callVP (As := []) dX1_save_10 (tX1_drop hA hh hf hv s1 (fun i hi => by obtain ⟨r, h3, -⟩ := hr i hi; exact ⟨r, h3⟩)) rfl hh rfl rfl oX1_dropOldest rfl kX1_26M nX1_dropOldest eX1_dropOldest (by unfold fRoom; decide) (Nat.le_of_ble_eq_true rfl) rfl (bc' := 0) (bs' := 0) rfl rfl (fun E M9 h => by cases h.1) (fun v M1 hq => ?_)
  obtain ⟨hv1, hO1, hh1, f1, hf1, hv1'⟩ := hq
  cases hv1
  show fR _ _ _ 13 _ _ _ _ _ _
  refine r_aload_n dX1_save_13 rfl ?_
  refine r_get (k := 0) dX1_save_14 hh1 rfl rfl (by decide) kX1_11F ?_
  refine r_aload_n dX1_save_17 rfl ?_
  refine r_get (k := 2) dX1_save_18 hh1 rfl rfl (by decide) kX1_22F ?_
  refine r_aldqN dX1_save_21 hf1 rfl (by omega) (by decide) (hv1' (5) (by omega)) ?_
  refine r_aload_n dX1_save_22 rfl ?_
  have s10 := s1 0 (by omega)
  obtain ⟨ρ, hraw0, -⟩ := hr 0 (by omega)
  have hm : ∀ t, t < 256 → t ≠ 252 → t ≠ 253 → M1 (ad t) = M (ad t) := fun t h1 h2 h3 => hO1 _ (hA.ne h1 (by omega) h2) (hA.ne h1 (by omega) h3)
  have hraw : LabRaw M1 ad (31 + 31 * sRot σ 5) ρ := hraw0.frame (fun j hj => hm _ (by omega) (by omega) (by omega))
  have hc6 : sRot σ 5 < 6 := s10
  have h01 : LabAt M1 ad 0 g dn n π := h0.frame (fun j hj => hm _ (by omega) (by omega) (by omega))
  obtain ⟨⟨x5, x6, x7, x8, x9, x10, hob⟩, -⟩ := id hraw
  refine r_callVP (As := [.ref (ad 0)]) dX1_save_23 (tX2_copyFrom hA (by omega) (by omega) (by omega) h01 hI hraw) rfl hob rfl rfl oX2_copyFrom rfl kX1_29M nX2_copyFrom eX2_copyFrom (by unfold fRoom; decide) (Nat.le_of_ble_eq_true rfl) rfl (bc' := 0) (bs' := 0) rfl rfl (fun E M9 h => by cases h.1) (fun v M2 hq => ?_)
  obtain ⟨hv2, hL2, hO2⟩ := hq
  cases hv2
  show fR _ _ _ 26 _ _ _ _ _ _
  refine r_aload_n dX1_save_26 rfl ?_
  refine r_dup dX1_save_27 rfl ?_
  refine r_get (k := 2) dX1_save_28 ((hO2.at hA (by omega) (by omega) (by omega)).trans hh1) rfl rfl (by decide) kX1_22F ?_
  refine r_iconst (v := nI 1) dX1_save_31 (by decide) ?_
  refine r_iaddN dX1_save_32 ?_
  refine r_put (k := 2) (fs' := [.ref (ad 253), .ref (ad 217), .int (nI ((5 + 1))), .int (bI (kp))]) dX1_save_33 ((hO2.at hA (by omega) (by omega) (by omega)).trans hh1) rfl (by decide) kX1_22F rfl rfl rfl (Nat.le_of_ble_eq_true rfl) rfl ?_
  refine fR_vret dX1_save_36 rfl ⟨rfl, ?_, ?_⟩
  · rw [show pSave g 6 = pSave6 g from if_pos rfl, show pUp 6 = 5 + 1 from if_pos rfl]
    have r1 : ∀ i, i < 6 → sRot σ i < 6 := fun i hi => by unfold sRot; split; exact s1 _ (by omega); exact s1 _ (by omega)
    have r2 : ∀ i j, i < 6 → j < 6 → sRot σ i = sRot σ j → i = j := by
      intro i j hi hj e; unfold sRot at e
      by_cases a : i < 5
      · rw [if_pos a] at e
        by_cases b : j < 5
        · rw [if_pos b] at e; have := s2 _ _ (by omega) (by omega) e; omega
        · rw [if_neg b] at e; have := s2 _ _ (by omega) (by omega) e; omega
      · rw [if_neg a] at e
        by_cases b : j < 5
        · rw [if_pos b] at e; have := s2 _ _ (by omega) (by omega) e; omega
        · omega
    refine save_fin (M := M) (src := fun i => i + 2) (cnt := 5) (σ := sRot σ) hA h0 hI (by omega) r1 r2 (fun i hi e => ?_) hsn (fun t h1 h2 h3 h4 => (fup_ne (hA.ne h1 (by omega) h3)).trans ((hO2.at hA h1 (by omega) (by omega)).trans (hm t h1 h3 h4))) fup_eq ⟨f1, (fup_ne (hA.ne (by omega) (by omega) (by omega))).trans ((hO2.at hA (by omega) (by omega) (by omega)).trans hf1), hv1'⟩ (hL2.frame (fun j hj => fup_ne (hA.ne (by omega) (by omega) (by omega)))) (fun j hj => ?_) (fun i hi j hj => ?_) (fun j hj => ?_) (fun j hj => ?_)
    · obtain ⟨r, h3, h4⟩ := hr (i + 1) (by omega)
      have er : sRot σ i = σ (i + 1) := if_pos (by omega)
      rw [er]; exact ⟨r, h3, fun h => h4 (by omega)⟩
    · have := pSave6_blk (f := g) (t := 0) (by omega) hj; rw [if_neg (by omega), if_neg (by omega), show 376 * 0 + j = j by omega] at this; exact this
    · rw [pSave6_blk (by omega) hj, if_neg (by omega), if_pos (by omega)]
    · rw [pSave6_blk (by omega) hj, if_pos rfl]
    · rw [pSave6_blk (by omega) hj, if_neg (by omega), if_neg (by omega)]
  · exact fun b h1 h2 h3 => (fup_ne h2).trans ((hO2 b (fun t ht => h1 _ (by omega))).trans (hO1 b h2 h3))
theorem tX1_save {l : Launch} {κ : KP} {M : Mem} {ad : Nat → Nat} {g : Nat → Int32} {dn n sn : Nat} {kp : Bool} (hA : aInj ad) (hS : LabsAt ad M g sn kp dn n) (hI : BI g dn n) : fM l κ mX1_save [.ref (ad 252), .ref (ad 0)] M (fun o M' => o = .inl none ∧ LabsAt ad M' (pSave g sn) (pUp sn) kp dn n ∧ OffS ad M M') := by
  by_cases h : sn = 6
  · subst h; exact tX1_save_6 hA hS hI
  · have := hS.s6
    exact tX1_save_l hA hS hI (by omega)
theorem tX1_goBack {l : Launch} {κ : KP} {M : Mem} {ad : Nat → Nat} {g : Nat → Int32} {dn n sn : Nat} {kp : Bool} (hA : aInj ad) (hS : LabsAt ad M g sn kp dn n)  (h1 : 0 < sn) : fM l κ mX1_goBack [.ref (ad 252), .ref (ad 0)] M ((fun o M' => o = .inl none ∧ (∃ dn' n', LabsAt ad M' (pCp g sn 0) (sn - 1) kp dn' n' ∧ BI (pCp g sn 0) dn' n') ∧ OffS ad M M')) := by
  refine fM_of rfl (by decide +kernel) (Nat.le_of_ble_eq_true rfl) ?_
  obtain ⟨π, σ, h0, hh, ⟨f, hf, hv⟩, s1, s2, h6, hr, hsn⟩ := id hS
  show fR l κ mX1_goBack 0 [(0, .ref (ad 252)), (1, .ref (ad 0))] [] M 0 0 _
  refine r_aload_n dX1_goBack_0 rfl ?_
  refine r_get (k := 2) dX1_goBack_1 hh rfl rfl (by decide) kX1_22F ?_
  refine r_if_leN (tgt := 30) dX1_goBack_4 (by decide) (by omega) (fun c1 => ?_) (fun c1 => ?_)
  · skip
    exact absurd h1 (by omega)
  · skip
    refine r_aload_n dX1_goBack_7 rfl ?_
    refine r_dup dX1_goBack_8 rfl ?_
    refine r_get (k := 2) dX1_goBack_9 hh rfl rfl (by decide) kX1_22F ?_
    refine r_iconst (v := nI 1) dX1_goBack_12 (by decide) ?_
    refine r_isubN dX1_goBack_13 (by omega) ?_
    refine r_put (k := 2) (fs' := [.ref (ad 253), .ref (ad 217), .int (nI ((sn - 1))), .int (bI (kp))]) dX1_goBack_14 hh rfl (by decide) kX1_22F rfl rfl rfl (Nat.le_of_ble_eq_true rfl) rfl ?_
    refine r_aload_n dX1_goBack_17 rfl ?_
    refine r_aload_n dX1_goBack_18 rfl ?_
    refine r_get (k := 0) dX1_goBack_19 fup_eq rfl rfl (by decide) kX1_11F ?_
    refine r_aload_n dX1_goBack_22 rfl ?_
    refine r_get (k := 2) dX1_goBack_23 fup_eq rfl rfl (by decide) kX1_22F ?_
    refine r_aldqN dX1_goBack_26 ((fup_ne (hA.ne (by omega) (by omega) (by omega))).trans hf) rfl (by omega) (by decide) (hv ((sn - 1)) (by omega)) ?_
    have hc6 := s1 (sn - 1) (by omega)
    obtain ⟨ρ, -, hlv⟩ := hr (sn - 1) (by omega)
    obtain ⟨dn', n', hLs, hIs⟩ := hlv (by omega)
    rw [show sn - 1 + 1 = sn by omega] at hLs hIs
    have fr : ∀ (x : MC) j, j < 248 → fup M (ad 252) x (ad j) = M (ad j) := fun x j hj => fup_ne (hA.ne (by omega) (by omega) (by omega))
    have hLs1 := hLs.frame (M' := fup M (ad 252) (.inl (1, [.ref (ad 253), .ref (ad 217), .int (nI (sn - 1)), .int (bI kp)]))) (fun j hj => fr _ _ (by omega))
    have hraw := h0.raw.frame (M' := fup M (ad 252) (.inl (1, [.ref (ad 253), .ref (ad 217), .int (nI (sn - 1)), .int (bI kp)]))) (fun j hj => fr _ _ (by omega))
    obtain ⟨⟨x5, x6, x7, x8, x9, x10, hob⟩, -⟩ := id hraw
    refine r_callVP (As := [.ref (ad (31 + 31 * σ ((sn - 1))))]) dX1_goBack_27 (tX2_copyFrom hA (by omega) (by omega) (by omega) hLs1 hIs hraw) rfl hob rfl rfl oX2_copyFrom rfl kX1_29M nX2_copyFrom eX2_copyFrom (by unfold fRoom; decide) (Nat.le_of_ble_eq_true rfl) rfl (bc' := 0) (bs' := 0) rfl rfl (fun E M9 h => by cases h.1) (fun v M1 hq => ?_)
    obtain ⟨hv1, hL1, hO1⟩ := hq
    cases hv1
    show fR _ _ _ 30 _ _ _ _ _ _
    refine fR_vret dX1_goBack_30 rfl ⟨rfl, ⟨dn', n', ?_, hIs.congr (fun j hj => pCp_0 hj)⟩, ?_⟩
    · refine labs_main hS (fun t h1 h2 h3 => (hO1.at hA h1 (by omega) (by omega)).trans (fup_ne (hA.ne h1 (by omega) h3))) ((hO1.at hA (by omega) (by omega) (by omega)).trans fup_eq) (by omega) (hL1.congr hIs.k9 (fun j hj => pCp_0 hj)) (fun t h1 h2 j hj => ?_)
      rw [pCp_blk hj, if_neg (by omega)]
    · exact OffS.up2.trans (OffS.of hO1 (by omega))
