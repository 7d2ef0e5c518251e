/-! THE REFERENCE'S TEXTS AS CALLS SEE THEM -/
def chOf (tx : Nat → Int32) (ln : Nat) : Nat → Nat := fun i => if i < ln then cN (tx i) else 0
theorem TX.ch {tx : Nat → Int32} {ln : Nat} {ch : Nat → Nat} (h : TX tx ln ch) : ch = chOf tx ln := by
  funext i
  unfold chOf
  by_cases c : i < ln
  · rw [if_pos c, (h.2.1 i c).1]; exact (nI_clamp (by have := h.2.2.2 i; omega)).symm
  · rw [if_neg c]; exact h.2.2.1 i (by omega)
theorem TX.of {tx : Nat → Int32} {ln : Nat} {ch : Nat → Nat} (h : TX tx ln ch) : TX tx ln (chOf tx ln) := h.ch ▸ h
def pAll (tx : Nat → Int32) (ln : Nat) : Bool × Nat := ((rAll (chOf tx ln) ln 61 nu0 0).1.1, (rAll (chOf tx ln) ln 61 nu0 0).1.2.1)
theorem pAll_nu {tx nu : Nat → Int32} {ln : Nat} : (rAll (chOf tx ln) ln 61 nu 0).1.1 = (pAll tx ln).1 ∧ (rAll (chOf tx ln) ln 61 nu 0).1.2.1 = (pAll tx ln).2 := rAll_nu 61 nu nu0 0
def pObey (z : Zs) (dn n : Nat) : (Nat → Int32) × Nat × Nat := pOb (chOf z.2.2.2.1 z.2.2.2.2) dn 61 (upd (upd (pSave z.1 z.2.1) 8 (-1)) 9 (-1)) n 0 0
theorem BI.u89 {f : Nat → Int32} {dn n : Nat} {x y : Int32} (h : BI f dn n) : BI (upd (upd f 8 x) 9 y) dn n := by
  obtain ⟨h1, h2, h3, h4, h5, h6, h7, h8, h9, h10, h11, h12, h13⟩ := h
  have e : ∀ j, j ≠ 8 → j ≠ 9 → upd (upd f 8 x) 9 y j = f j := fun j a b => by rw [pk_un b, pk_un a]
  have eo : ∀ k w, pOf (upd (upd f 8 x) 9 y) k w = pOf f k w := fun k w => e _ (by omega) (by omega)
  have em : ∀ k, pMany (upd (upd f 8 x) 9 y) k = pMany f k := fun k => by unfold pMany; rw [eo]
  refine ⟨(e 0 (by omega) (by omega)).trans h1, h2, (e 1 (by omega) (by omega)).trans h3, h4, ?_, ?_, ?_, ?_, ?_, ?_, ?_⟩
  · intro d hd; rw [e _ (by omega) (by omega), e _ (by omega) (by omega), e _ (by omega) (by omega)]; exact h5 d hd
  · intro k hk; rw [eo, eo, eo, eo, eo, eo, em]; exact h6 k hk
  · intro k hk r hr; rw [em] at hr; rw [eo, eo]; exact h7 k hk r hr
  · intro i hi; rw [e _ (by omega) (by omega), e _ (by omega) (by omega)]; exact h8 i hi
  · rw [e 2 (by omega) (by omega), e 33 (by omega) (by omega), e 36 (by omega) (by omega), e 39 (by omega) (by omega)]; exact h9
  · intro b hb; rw [e _ (by omega) (by omega)]; exact h10 b hb
  · rw [e 5 (by omega) (by omega), e 6 (by omega) (by omega), e 7 (by omega) (by omega)]; exact ⟨h11, h12, h13⟩
def oFirstError (z : Zs) (dn n : Nat)  : Oc := (0, nI (pAll z.2.2.2.1 z.2.2.2.2).2, z)
theorem tX9_firstError_o {l : Launch} {κ : KP} {M : Mem} {m sA tA nA : Nat} {th ap pt : Int32} {hs : Int64} {g tx nu : Nat → Int32} {kp : Bool} {sn ln dn n : Nat} (hD : rDis m sA tA nA) (hI : BI g dn n) (hsn : sn ≤ 6) (hln : ln ≤ 60) {ch : Nat → Nat} (hT : TX tx ln ch)  : fM l κ mX9_firstError [.ref (m)] (RM M m sA tA nA (th) (nI (sn)) (bI (kp)) (nI (ln)) (ap) (pt) (hs) (g) (tx) (nu)) (rPost M m sA tA nA (oFirstError ⟨g, sn, kp, tx, ln⟩ dn n )) := by
  refine fM_of rfl (by decide +kernel) (Nat.le_of_ble_eq_true rfl) ?_
  have hn := hI.nle
  have hg := hI.n0
  have hdn := hI.dle
  have hg0 := hI.d0
  have hM := hI.mM
  have hB := hI.mB
  have h1 := hI.m1
  have hs0 := hI.s0
  show fR l κ mX9_firstError 0 [(0, .ref (m))] [] (RM M m sA tA nA (th) (nI (sn)) (bI (kp)) (nI (ln)) (ap) (pt) (hs) (g) (tx) (nu)) 0 0 _
  refine r_aload_n dX9_firstError_0 rfl ?_
  refine r_iconst (v := nI 0) dX9_firstError_1 (by decide) ?_
  refine r_put (k := 0) (fs' := [.int (nI (0)), .ref (sA), .int (nI (sn)), .int (bI (kp)), .ref (tA), .int (nI (ln)), .int (ap), .int (pt), .ref (nA), .long (hs)]) dX9_firstError_2 RM_0 rfl (by decide) kX9_19F rfl rfl rfl (Nat.le_of_ble_eq_true rfl) rfl ?_
  refine r_mem RM_put ?_
  refine r_aload_n dX9_firstError_5 rfl ?_
  have hTc := hT.of
  have hall := pAll_nu (tx := tx) (ln := ln) (nu := nu)
  refine r_callV (As := []) dX9_firstError_6 (@tX9_areOrders l κ M m sA tA nA _ _ _ 0 _ _ _ _ nu0 _ hD tx ln (chOf tx ln) hTc) rfl RM_0 rfl rfl oX9_areOrders rfl kX9_164M nX9_areOrders eX9_areOrders (by unfold fRoom; decide) (Nat.le_of_ble_eq_true rfl) rfl (bc' := 0) (bs' := 0) rfl rfl ?_
  show fR _ _ _ 9 _ (.int (bI ((rAll (chOf tx ln) ln 61 nu 0).1.1)) :: _) _ _ _ _
  refine r_pop dX9_firstError_9 rfl ?_
  refine r_aload_n dX9_firstError_10 rfl ?_
  refine r_get (k := 6) dX9_firstError_11 RM_0 rfl rfl (by decide) kX9_138F ?_
  exact fR_iret dX9_firstError_14 rfl (rPost_of (t := 0) (kp := kp) (by unfold oFirstError; rw [hall.2]))
def oObey (z : Zs) (dn n : Nat)  : Oc := if (pAll z.2.2.2.1 z.2.2.2.2).1 = true then (0, nI (pObey z dn n).2.1, ⟨(pObey z dn n).1, pUp z.2.1, z.2.2.1, z.2.2.2.1, 0⟩) else (1, 0, z)
theorem tX9_obey_o {l : Launch} {κ : KP} {M : Mem} {m sA tA nA : Nat} {th ap pt : Int32} {hs : Int64} {g tx nu : Nat → Int32} {kp : Bool} {sn ln dn n : Nat} (hD : rDis m sA tA nA) (hI : BI g dn n) (hsn : sn ≤ 6) (hln : ln ≤ 60) {ch : Nat → Nat} (hT : TX tx ln ch)  : fM l κ mX9_obey [.ref (m)] (RM M m sA tA nA (th) (nI (sn)) (bI (kp)) (nI (ln)) (ap) (pt) (hs) (g) (tx) (nu)) (rPost M m sA tA nA (oObey ⟨g, sn, kp, tx, ln⟩ dn n )) := by
  refine fM_of rfl (by decide +kernel) (Nat.le_of_ble_eq_true rfl) ?_
  have hn := hI.nle
  have hg := hI.n0
  have hdn := hI.dle
  have hg0 := hI.d0
  have hM := hI.mM
  have hB := hI.mB
  have h1 := hI.m1
  have hs0 := hI.s0
  show fR l κ mX9_obey 0 [(0, .ref (m))] [] (RM M m sA tA nA (th) (nI (sn)) (bI (kp)) (nI (ln)) (ap) (pt) (hs) (g) (tx) (nu)) 0 0 _
  refine r_aload_n dX9_obey_0 rfl ?_
  refine r_aload_n dX9_obey_1 rfl ?_
  have hTc := hT.of
  have hall := pAll_nu (tx := tx) (ln := ln) (nu := nu)
  refine r_callV (As := []) dX9_obey_2 (@tX9_areOrders l κ M m sA tA nA _ _ _ 0 _ _ _ _ nu0 _ hD tx ln (chOf tx ln) hTc) rfl RM_0 rfl rfl oX9_areOrders rfl kX9_164M nX9_areOrders eX9_areOrders (by unfold fRoom; decide) (Nat.le_of_ble_eq_true rfl) rfl (bc' := 0) (bs' := 0) rfl rfl ?_
  show fR _ _ _ 5 _ (.int (bI ((rAll (chOf tx ln) ln 61 nu 0).1.1)) :: _) _ _ _ _
  refine r_if_eqB (tgt := 12) dX9_obey_5 (by decide) (fun c1 => ?_) (fun c1 => ?_)
  · skip
    refine r_iconst (v := nI 1) dX9_obey_12 (by decide) ?_
    refine r_callV (As := [.int (nI (1))]) dX9_obey_13 (tX9_holds_f hD (by omega) (by omega)) rfl RM_0 rfl rfl oX9_holds rfl kX9_94M nX9_holds eX9_holds (by unfold fRoom; decide) (Nat.le_of_ble_eq_true rfl) rfl (bc' := 0) (bs' := 0) rfl rfl ?_
    show fR _ _ _ 16 _ (.int (bI (false)) :: _) _ _ _ _
    refine r_if_neB (tgt := 21) dX9_obey_16 (by decide) (fun c2 => absurd c2 (by decide)) (fun c2 => ?_)
    refine r_iconst (v := nI 0) dX9_obey_19 (by decide) ?_
    exact fR_iret dX9_obey_20 rfl (rPost_of (t := 1) (kp := kp) (by unfold oObey; rw [if_neg (by rw [← hall.1]; exact bne_of (by assumption))]; rfl))
  · skip
    refine r_iconst (v := nI 0) dX9_obey_8 (by decide) ?_
    refine r_goto (tgt := 13) dX9_obey_9 (by decide) ?_
    refine r_callV (As := [.int (nI (0))]) dX9_obey_13 (tX9_holds_t hD) rfl RM_0 rfl rfl oX9_holds rfl kX9_94M nX9_holds eX9_holds (by unfold fRoom; decide) (Nat.le_of_ble_eq_true rfl) rfl (bc' := 0) (bs' := 0) rfl rfl ?_
    show fR _ _ _ 16 _ (.int (bI (true)) :: _) _ _ _ _
    refine r_if_neB (tgt := 21) dX9_obey_16 (by decide) (fun c3 => ?_) (fun c3 => absurd c3 (by decide))
    refine r_aload_n dX9_obey_21 rfl ?_
    refine r_callV (As := []) dX9_obey_22 (tX9_save hD hsn) rfl RM_0 rfl rfl oX9_save rfl kX9_91M nX9_save eX9_save (by unfold fRoom; decide) (Nat.le_of_ble_eq_true rfl) rfl (bc' := 0) (bs' := 0) rfl rfl ?_
    show fR _ _ _ 25 _ _ _ _ _ _
    have hJ := hI
    have hI := hI.save sn
    have hn := hI.nle
    have hg := hI.n0
    have hdn := hI.dle
    have hg0 := hI.d0
    have hM := hI.mM
    have hB := hI.mB
    have h1 := hI.m1
    have hs0 := hI.s0
    refine r_aload_n dX9_obey_25 rfl ?_
    refine r_get (k := 1) dX9_obey_26 RM_0 rfl rfl (by decide) kX9_7F ?_
    refine r_bipush (v := nI 8) dX9_obey_29 (by decide) ?_
    refine r_iconst (v := (-1)) dX9_obey_31 (by decide) ?_
    refine r_iastN dX9_obey_32 (RM_1 hD) (by omega) (by decide) ?_
    refine r_mem (RM_s1 hD) ?_
    refine r_aload_n dX9_obey_33 rfl ?_
    refine r_get (k := 1) dX9_obey_34 RM_0 rfl rfl (by decide) kX9_7F ?_
    refine r_bipush (v := nI 9) dX9_obey_37 (by decide) ?_
    refine r_iconst (v := (-1)) dX9_obey_39 (by decide) ?_
    refine r_iastN dX9_obey_40 (RM_1 hD) (by omega) (by decide) ?_
    refine r_mem (RM_s1 hD) ?_
    refine r_aload_n dX9_obey_41 rfl ?_
    refine r_iconst (v := nI 0) dX9_obey_42 (by decide) ?_
    refine r_put (k := 6) (fs' := [.int (nI (0)), .ref (sA), .int (nI (pUp sn)), .int (bI (kp)), .ref (tA), .int (nI (ln)), .int (nI (0)), .int (nI ((rAll (chOf tx ln) ln 61 nu 0).2)), .ref (nA), .long (hs)]) dX9_obey_43 RM_0 rfl (by decide) kX9_138F rfl rfl rfl (Nat.le_of_ble_eq_true rfl) rfl ?_
    refine r_mem RM_put ?_
    refine r_iconst (v := nI 0) dX9_obey_46 (by decide) ?_
    refine r_istore_n (lv' := [(1, .int (nI (0))), (0, .ref (m))]) dX9_obey_47 (by decide) rfl ?_
    have h48 := lX9_obey (l := l) (κ := κ) (M := M) (th := nI 0) (sv := nI (pUp sn)) (kp := bI kp) (hs := hs) hD hTc 61 (upd (upd (pSave g sn) 8 (-1)) 9 (-1)) n 0 0 ((rAll (chOf tx ln) ln 61 nu 0).1.2.2) (nI (rAll (chOf tx ln) ln 61 nu 0).2) (by omega) (by omega) (by omega) hI.u89 (by rw [pk_un (by omega), pk_us])
    refine fR.mono h48 (fun o M' h => ?_)
    obtain ⟨ap1, pt1, nu1, h1, h2⟩ := h
    subst h1
    subst h2
    refine rPost_of (t := 0) (kp := kp) ?_
    unfold oObey
    rw [if_pos (hall.1.symm.trans (by assumption))]
    rfl
