def pDrum (g : Nat → Int32) (dn : Nat) (p : Int32) : Nat → Int32 := upd (upd (upd (upd g (10 + 3 * dn + 0) p) (10 + 3 * dn + 1) (nI 0)) (10 + 3 * dn + 2) (-1)) 0 (nI (dn + 1))
def oDrum (z : Zs) (dn n : Nat) (p0 : Int32) : Oc := if pIn p0 (nI 20) (nI 300) = true then (if dn = 6 then (2, 0, z) else (0, nI dn, zsv z (fun g => pDrum g dn p0))) else (1, 0, z)
theorem tX9_drum_o {l : Launch} {κ : KP} {M : Mem} {m sA tA nA : Nat} {th ap pt : Int32} {hs : Int64} {g tx nu : Nat → Int32} {kp : Bool} {sn ln dn n : Nat} (hD : rDis m sA tA nA) (hI : BI g dn n) (hsn : sn ≤ 6) (hln : ln ≤ 60)  {p0 : Int32} : fM l κ mX9_drum [.ref (m), .int (p0)] (RM M m sA tA nA (th) (nI (sn)) (bI (kp)) (nI (ln)) (ap) (pt) (hs) (g) (tx) (nu)) (rPost M m sA tA nA (oDrum ⟨g, sn, kp, tx, ln⟩ dn n p0)) := by
  refine fM_of rfl (by decide +kernel) (Nat.le_of_ble_eq_true rfl) ?_
  have hn := hI.nle
  have hg := hI.n0
  have hdn := hI.dle
  have hg0 := hI.d0
  have hM := hI.mM
  have hB := hI.mB
  have h1 := hI.m1
  have hs0 := hI.s0
  show fR l κ mX9_drum 0 [(0, .ref (m)), (1, .int (p0))] [] (RM M m sA tA nA (th) (nI (sn)) (bI (kp)) (nI (ln)) (ap) (pt) (hs) (g) (tx) (nu)) 0 0 _
  refine r_aload_n dX9_drum_0 rfl ?_
  refine r_iload_n dX9_drum_1 rfl ?_
  refine r_bipush (v := nI 20) dX9_drum_2 (by decide) ?_
  refine r_sipush (v := nI 300) dX9_drum_4 (by decide) ?_
  refine r_callS (As := [.int (p0), .int (nI (20)), .int (nI (300))]) dX9_drum_7 tX9_in rfl oX9_in rfl kX9_23M sX9_in (by unfold fRoom; decide) (Nat.le_of_ble_eq_true rfl) rfl (bc' := 0) (bs' := 0) rfl rfl ?_
  show fR _ _ _ 10 _ (.int (bI (pIn (p0) (nI (20)) (nI (300)))) :: _) _ _ _ _
  refine r_if_neB (tgt := 17) dX9_drum_10 (by decide) (fun c1 => ?_) (fun c1 => ?_)
  · skip
    refine r_aload_n dX9_drum_17 rfl ?_
    refine r_get (k := 1) dX9_drum_18 RM_0 rfl rfl (by decide) kX9_7F ?_
    refine r_iconst (v := nI 0) dX9_drum_21 (by decide) ?_
    refine r_ialdN dX9_drum_22 (RM_1 hD) (by omega) (by decide) rfl ?_
    refine r_top (y := (nI (dn))) hg0 ?_
    refine r_bipush (v := nI 6) dX9_drum_23 (by decide) ?_
    refine r_icmp_neN (tgt := 32) dX9_drum_25 (by decide) (by omega) (by omega) (fun c2 => ?_) (fun c2 => ?_)
    · skip
      refine r_iconst (v := nI 0) dX9_drum_32 (by decide) ?_
      refine r_callV (As := [.int (nI (0))]) dX9_drum_33 (tX9_holds_t hD) rfl RM_0 rfl rfl oX9_holds rfl kX9_94M nX9_holds eX9_holds (by unfold fRoom; decide) (Nat.le_of_ble_eq_true rfl) rfl (bc' := 0) (bs' := 0) rfl rfl ?_
      show fR _ _ _ 36 _ (.int (bI (true)) :: _) _ _ _ _
      refine r_if_neB (tgt := 41) dX9_drum_36 (by decide) (fun c3 => ?_) (fun c3 => absurd c3 (by decide))
      refine r_aload_n dX9_drum_41 rfl ?_
      refine r_callV (As := []) dX9_drum_42 (tX9_save hD hsn) rfl RM_0 rfl rfl oX9_save rfl kX9_91M nX9_save eX9_save (by unfold fRoom; decide) (Nat.le_of_ble_eq_true rfl) rfl (bc' := 0) (bs' := 0) rfl rfl ?_
      show fR _ _ _ 45 _ _ _ _ _ _
      have hJ := hI
      have hI := hI.save sn
      have hn := hI.nle
      have hg := hI.n0
      have hdn := hI.dle
      have hg0 := hI.d0
      have hM := hI.mM
      have hB := hI.mB
      have h1 := hI.m1
      have hs0 := hI.s0
      refine r_bipush (v := nI 10) dX9_drum_45 (by decide) ?_
      refine r_iconst (v := nI 3) dX9_drum_47 (by decide) ?_
      refine r_aload_n dX9_drum_48 rfl ?_
      refine r_get (k := 1) dX9_drum_49 RM_0 rfl rfl (by decide) kX9_7F ?_
      refine r_iconst (v := nI 0) dX9_drum_52 (by decide) ?_
      refine r_ialdN dX9_drum_53 (RM_1 hD) (by omega) (by decide) rfl ?_
      refine r_top (y := (nI (dn))) hg0 ?_
      refine r_imulN dX9_drum_54 ?_
      refine r_iaddN dX9_drum_55 ?_
      refine r_istore_n (lv' := [(2, .int (nI ((10 + (3 * dn))))), (0, .ref (m)), (1, .int (p0))]) dX9_drum_56 (by decide) rfl ?_
      refine r_aload_n dX9_drum_57 rfl ?_
      refine r_get (k := 1) dX9_drum_58 RM_0 rfl rfl (by decide) kX9_7F ?_
      refine r_iload_n dX9_drum_61 rfl ?_
      refine r_iconst (v := nI 0) dX9_drum_62 (by decide) ?_
      refine r_iaddN dX9_drum_63 ?_
      refine r_iload_n dX9_drum_64 rfl ?_
      refine r_iastN dX9_drum_65 (RM_1 hD) (by omega) (by decide) ?_
      refine r_mem (RM_s1 hD) ?_
      refine r_aload_n dX9_drum_66 rfl ?_
      refine r_get (k := 1) dX9_drum_67 RM_0 rfl rfl (by decide) kX9_7F ?_
      refine r_iload_n dX9_drum_70 rfl ?_
      refine r_iconst (v := nI 1) dX9_drum_71 (by decide) ?_
      refine r_iaddN dX9_drum_72 ?_
      refine r_iconst (v := nI 0) dX9_drum_73 (by decide) ?_
      refine r_iastN dX9_drum_74 (RM_1 hD) (by omega) (by decide) ?_
      refine r_mem (RM_s1 hD) ?_
      refine r_aload_n dX9_drum_75 rfl ?_
      refine r_get (k := 1) dX9_drum_76 RM_0 rfl rfl (by decide) kX9_7F ?_
      refine r_iload_n dX9_drum_79 rfl ?_
      refine r_iconst (v := nI 2) dX9_drum_80 (by decide) ?_
      refine r_iaddN dX9_drum_81 ?_
      refine r_iconst (v := (-1)) dX9_drum_82 (by decide) ?_
      refine r_iastN dX9_drum_83 (RM_1 hD) (by omega) (by decide) ?_
      refine r_mem (RM_s1 hD) ?_
      refine r_aload_n dX9_drum_84 rfl ?_
      refine r_get (k := 1) dX9_drum_85 RM_0 rfl rfl (by decide) kX9_7F ?_
      refine r_iconst (v := nI 0) dX9_drum_88 (by decide) ?_
      refine r_dup2 dX9_drum_89 rfl rfl ?_
      refine r_ialdN dX9_drum_90 (RM_1 hD) (by omega) (by decide) rfl ?_
      refine r_top (y := (nI (dn))) (by (repeat rw [pk_un (by omega)]); exact hg0) ?_
      refine r_iconst (v := nI 1) dX9_drum_91 (by decide) ?_
      refine r_iaddN dX9_drum_92 ?_
      refine r_iastN dX9_drum_93 (RM_1 hD) (by omega) (by decide) ?_
      refine r_mem (RM_s1 hD) ?_
      refine r_aload_n dX9_drum_94 rfl ?_
      refine r_get (k := 1) dX9_drum_95 RM_0 rfl rfl (by decide) kX9_7F ?_
      refine r_iconst (v := nI 0) dX9_drum_98 (by decide) ?_
      refine r_ialdN dX9_drum_99 (RM_1 hD) (by omega) (by decide) rfl ?_
      refine r_top (y := (nI (dn + 1))) rfl ?_
      refine r_iconst (v := nI 1) dX9_drum_100 (by decide) ?_
      refine r_isubN dX9_drum_101 (by omega) ?_
      exact fR_iret dX9_drum_102 rfl (rPost_of (t := 0) (kp := kp) (by unfold oDrum; (first | simp only [ck0, ck1, ck2] | simp only [ck0, ck1] | simp only [ck0, ck2] | simp only [ck1, ck2] | simp only [ck0] | simp only [ck1] | simp only [ck2] | skip); (repeat (first | rw [if_pos (by first | assumption | exact Int32.not_le.mp (by assumption) | exact Int32.not_lt.mp (by assumption) | omega)] | rw [if_neg (by first | assumption | exact Int32.not_lt.mpr (by assumption) | exact Int32.not_le.mpr (by assumption) | exact bne_of (by assumption) | exact not_not_intro (by assumption) | omega)])); first | done | rfl))
    · skip
      refine r_iconst (v := nI 2) dX9_drum_28 (by decide) ?_
      refine r_goto (tgt := 33) dX9_drum_29 (by decide) ?_
      refine r_callV (As := [.int (nI (2))]) dX9_drum_33 (tX9_holds_f hD (by omega) (by omega)) rfl RM_0 rfl rfl oX9_holds rfl kX9_94M nX9_holds eX9_holds (by unfold fRoom; decide) (Nat.le_of_ble_eq_true rfl) rfl (bc' := 0) (bs' := 0) rfl rfl ?_
      show fR _ _ _ 36 _ (.int (bI (false)) :: _) _ _ _ _
      refine r_if_neB (tgt := 41) dX9_drum_36 (by decide) (fun c4 => absurd c4 (by decide)) (fun c4 => ?_)
      refine r_iconst (v := nI 0) dX9_drum_39 (by decide) ?_
      exact fR_iret dX9_drum_40 rfl (rPost_of (t := 2) (kp := kp) (by unfold oDrum; (first | simp only [ck0, ck1, ck2] | simp only [ck0, ck1] | simp only [ck0, ck2] | simp only [ck1, ck2] | simp only [ck0] | simp only [ck1] | simp only [ck2] | skip); (repeat (first | rw [if_pos (by first | assumption | exact Int32.not_le.mp (by assumption) | exact Int32.not_lt.mp (by assumption) | omega)] | rw [if_neg (by first | assumption | exact Int32.not_lt.mpr (by assumption) | exact Int32.not_le.mpr (by assumption) | exact bne_of (by assumption) | exact not_not_intro (by assumption) | omega)])); first | done | rfl))
  · skip
    refine r_iconst (v := nI 1) dX9_drum_13 (by decide) ?_
    refine r_goto (tgt := 33) dX9_drum_14 (by decide) ?_
    refine r_callV (As := [.int (nI (1))]) dX9_drum_33 (tX9_holds_f hD (by omega) (by omega)) rfl RM_0 rfl rfl oX9_holds rfl kX9_94M nX9_holds eX9_holds (by unfold fRoom; decide) (Nat.le_of_ble_eq_true rfl) rfl (bc' := 0) (bs' := 0) rfl rfl ?_
    show fR _ _ _ 36 _ (.int (bI (false)) :: _) _ _ _ _
    refine r_if_neB (tgt := 41) dX9_drum_36 (by decide) (fun c5 => absurd c5 (by decide)) (fun c5 => ?_)
    refine r_iconst (v := nI 0) dX9_drum_39 (by decide) ?_
    exact fR_iret dX9_drum_40 rfl (rPost_of (t := 1) (kp := kp) (by unfold oDrum; (first | simp only [ck0, ck1, ck2] | simp only [ck0, ck1] | simp only [ck0, ck2] | simp only [ck1, ck2] | simp only [ck0] | simp only [ck1] | simp only [ck2] | skip); (repeat (first | rw [if_pos (by first | assumption | exact Int32.not_le.mp (by assumption) | exact Int32.not_lt.mp (by assumption) | omega)] | rw [if_neg (by first | assumption | exact Int32.not_lt.mpr (by assumption) | exact Int32.not_le.mpr (by assumption) | exact bne_of (by assumption) | exact not_not_intro (by assumption) | omega)])); first | done | rfl))
def oSample (z : Zs) (dn n : Nat) (p0 : Int32) : Oc := if pNo p0 dn = true then (if n = 8 then (2, 0, z) else (0, nI n, zsv z (fun g => pTake g n (cN p0)))) else (1, 0, z)
theorem tX9_sample_o {l : Launch} {κ : KP} {M : Mem} {m sA tA nA : Nat} {th ap pt : Int32} {hs : Int64} {g tx nu : Nat → Int32} {kp : Bool} {sn ln dn n : Nat} (hD : rDis m sA tA nA) (hI : BI g dn n) (hsn : sn ≤ 6) (hln : ln ≤ 60)  {p0 : Int32} : fM l κ mX9_sample [.ref (m), .int (p0)] (RM M m sA tA nA (th) (nI (sn)) (bI (kp)) (nI (ln)) (ap) (pt) (hs) (g) (tx) (nu)) (rPost M m sA tA nA (oSample ⟨g, sn, kp, tx, ln⟩ dn n p0)) := by
  refine fM_of rfl (by decide +kernel) (Nat.le_of_ble_eq_true rfl) ?_
  have hn := hI.nle
  have hg := hI.n0
  have hdn := hI.dle
  have hg0 := hI.d0
  have hM := hI.mM
  have hB := hI.mB
  have h1 := hI.m1
  have hs0 := hI.s0
  show fR l κ mX9_sample 0 [(0, .ref (m)), (1, .int (p0))] [] (RM M m sA tA nA (th) (nI (sn)) (bI (kp)) (nI (ln)) (ap) (pt) (hs) (g) (tx) (nu)) 0 0 _
  refine r_aload_n dX9_sample_0 rfl ?_
  refine r_aload_n dX9_sample_1 rfl ?_
  refine r_iload_n dX9_sample_2 rfl ?_
  refine r_callV (As := [.int (p0)]) dX9_sample_3 (tX9_isDrum2 hD hg0) rfl RM_0 rfl rfl oX9_isDrum rfl kX9_98M nX9_isDrum eX9_isDrum (by unfold fRoom; decide) (Nat.le_of_ble_eq_true rfl) rfl (bc' := 0) (bs' := 0) rfl rfl ?_
  show fR _ _ _ 6 _ (.int (bI (pNo (p0) dn)) :: _) _ _ _ _
  refine r_if_neB (tgt := 13) dX9_sample_6 (by decide) (fun c1 => ?_) (fun c1 => ?_)
  · skip
    obtain ⟨k0, hk0, ek0⟩ := pNo_t c1 (by omega)
    subst ek0
    have ck0 : cN (nI k0) = k0 := nI_clamp (by omega)
    refine r_aload_n dX9_sample_13 rfl ?_
    refine r_get (k := 1) dX9_sample_14 RM_0 rfl rfl (by decide) kX9_7F ?_
    refine r_iconst (v := nI 1) dX9_sample_17 (by decide) ?_
    refine r_ialdN dX9_sample_18 (RM_1 hD) (by omega) (by decide) rfl ?_
    refine r_top (y := (nI (n))) hg ?_
    refine r_bipush (v := nI 8) dX9_sample_19 (by decide) ?_
    refine r_icmp_neN (tgt := 28) dX9_sample_21 (by decide) (by omega) (by omega) (fun c2 => ?_) (fun c2 => ?_)
    · skip
      refine r_iconst (v := nI 0) dX9_sample_28 (by decide) ?_
      refine r_callV (As := [.int (nI (0))]) dX9_sample_29 (tX9_holds_t hD) rfl RM_0 rfl rfl oX9_holds rfl kX9_94M nX9_holds eX9_holds (by unfold fRoom; decide) (Nat.le_of_ble_eq_true rfl) rfl (bc' := 0) (bs' := 0) rfl rfl ?_
      show fR _ _ _ 32 _ (.int (bI (true)) :: _) _ _ _ _
      refine r_if_neB (tgt := 37) dX9_sample_32 (by decide) (fun c3 => ?_) (fun c3 => absurd c3 (by decide))
      refine r_aload_n dX9_sample_37 rfl ?_
      refine r_callV (As := []) dX9_sample_38 (tX9_save hD hsn) rfl RM_0 rfl rfl oX9_save rfl kX9_91M nX9_save eX9_save (by unfold fRoom; decide) (Nat.le_of_ble_eq_true rfl) rfl (bc' := 0) (bs' := 0) rfl rfl ?_
      show fR _ _ _ 41 _ _ _ _ _ _
      have hJ := hI
      have hI := hI.save sn
      have hn := hI.nle
      have hg := hI.n0
      have hdn := hI.dle
      have hg0 := hI.d0
      have hM := hI.mM
      have hB := hI.mB
      have h1 := hI.m1
      have hs0 := hI.s0
      refine r_aload_n dX9_sample_41 rfl ?_
      refine r_iload_n dX9_sample_42 rfl ?_
      have e5 := hs0 _ (by omega)
      refine r_callV (As := [.int (nI (k0))]) dX9_sample_43 (tX9_takes hD hn hg (by omega) (by omega) e5) rfl RM_0 rfl rfl oX9_takes rfl kX9_101M nX9_takes eX9_takes (by unfold fRoom; decide) (Nat.le_of_ble_eq_true rfl) rfl (bc' := 0) (bs' := 0) rfl rfl ?_
      show fR _ _ _ 46 _ (.int (nI (n)) :: _) _ _ _ _
      exact fR_iret dX9_sample_46 rfl (rPost_of (t := 0) (kp := kp) (by unfold oSample; (first | simp only [ck0, ck1, ck2] | simp only [ck0, ck1] | simp only [ck0, ck2] | simp only [ck1, ck2] | simp only [ck0] | simp only [ck1] | simp only [ck2] | skip); (repeat (first | rw [if_pos (by first | assumption | exact Int32.not_le.mp (by assumption) | exact Int32.not_lt.mp (by assumption) | omega)] | rw [if_neg (by first | assumption | exact Int32.not_lt.mpr (by assumption) | exact Int32.not_le.mpr (by assumption) | exact bne_of (by assumption) | exact not_not_intro (by assumption) | omega)])); first | done | rfl))
    · skip
      refine r_iconst (v := nI 2) dX9_sample_24 (by decide) ?_
      refine r_goto (tgt := 29) dX9_sample_25 (by decide) ?_
      refine r_callV (As := [.int (nI (2))]) dX9_sample_29 (tX9_holds_f hD (by omega) (by omega)) rfl RM_0 rfl rfl oX9_holds rfl kX9_94M nX9_holds eX9_holds (by unfold fRoom; decide) (Nat.le_of_ble_eq_true rfl) rfl (bc' := 0) (bs' := 0) rfl rfl ?_
      show fR _ _ _ 32 _ (.int (bI (false)) :: _) _ _ _ _
      refine r_if_neB (tgt := 37) dX9_sample_32 (by decide) (fun c4 => absurd c4 (by decide)) (fun c4 => ?_)
      refine r_iconst (v := nI 0) dX9_sample_35 (by decide) ?_
      exact fR_iret dX9_sample_36 rfl (rPost_of (t := 2) (kp := kp) (by unfold oSample; (first | simp only [ck0, ck1, ck2] | simp only [ck0, ck1] | simp only [ck0, ck2] | simp only [ck1, ck2] | simp only [ck0] | simp only [ck1] | simp only [ck2] | skip); (repeat (first | rw [if_pos (by first | assumption | exact Int32.not_le.mp (by assumption) | exact Int32.not_lt.mp (by assumption) | omega)] | rw [if_neg (by first | assumption | exact Int32.not_lt.mpr (by assumption) | exact Int32.not_le.mpr (by assumption) | exact bne_of (by assumption) | exact not_not_intro (by assumption) | omega)])); first | done | rfl))
  · skip
    refine r_iconst (v := nI 1) dX9_sample_9 (by decide) ?_
    refine r_goto (tgt := 29) dX9_sample_10 (by decide) ?_
    refine r_callV (As := [.int (nI (1))]) dX9_sample_29 (tX9_holds_f hD (by omega) (by omega)) rfl RM_0 rfl rfl oX9_holds rfl kX9_94M nX9_holds eX9_holds (by unfold fRoom; decide) (Nat.le_of_ble_eq_true rfl) rfl (bc' := 0) (bs' := 0) rfl rfl ?_
    show fR _ _ _ 32 _ (.int (bI (false)) :: _) _ _ _ _
    refine r_if_neB (tgt := 37) dX9_sample_32 (by decide) (fun c5 => absurd c5 (by decide)) (fun c5 => ?_)
    refine r_iconst (v := nI 0) dX9_sample_35 (by decide) ?_
    exact fR_iret dX9_sample_36 rfl (rPost_of (t := 1) (kp := kp) (by unfold oSample; (first | simp only [ck0, ck1, ck2] | simp only [ck0, ck1] | simp only [ck0, ck2] | simp only [ck1, ck2] | simp only [ck0] | simp only [ck1] | simp only [ck2] | skip); (repeat (first | rw [if_pos (by first | assumption | exact Int32.not_le.mp (by assumption) | exact Int32.not_lt.mp (by assumption) | omega)] | rw [if_neg (by first | assumption | exact Int32.not_lt.mpr (by assumption) | exact Int32.not_le.mpr (by assumption) | exact bne_of (by assumption) | exact not_not_intro (by assumption) | omega)])); first | done | rfl))
def oBath (z : Zs) (dn n : Nat) (p0 : Int32) (p1 : Int32) : Oc := if pNo p0 n = true then (if p1 = -1 then (0, pOf z.1 (cN p0) 3, zsv z (fun g => upd g (40 + 42 * cN p0 + 3) p1)) else if pNo p1 3 = true then (if pOf z.1 (cN p0) 3 = p1 ∨ pInBath z.1 n p1 < 3 then (0, pOf z.1 (cN p0) 3, zsv z (fun g => upd g (40 + 42 * cN p0 + 3) p1)) else (2, 0, z)) else (1, 0, z)) else (1, 0, z)
theorem tX9_bath_o {l : Launch} {κ : KP} {M : Mem} {m sA tA nA : Nat} {th ap pt : Int32} {hs : Int64} {g tx nu : Nat → Int32} {kp : Bool} {sn ln dn n : Nat} (hD : rDis m sA tA nA) (hI : BI g dn n) (hsn : sn ≤ 6) (hln : ln ≤ 60)  {p0 : Int32} {p1 : Int32} : fM l κ mX9_bath [.ref (m), .int (p0), .int (p1)] (RM M m sA tA nA (th) (nI (sn)) (bI (kp)) (nI (ln)) (ap) (pt) (hs) (g) (tx) (nu)) (rPost M m sA tA nA (oBath ⟨g, sn, kp, tx, ln⟩ dn n p0 p1)) := by
  refine fM_of rfl (by decide +kernel) (Nat.le_of_ble_eq_true rfl) ?_
  have hn := hI.nle
  have hg := hI.n0
  have hdn := hI.dle
  have hg0 := hI.d0
  have hM := hI.mM
  have hB := hI.mB
  have h1 := hI.m1
  have hs0 := hI.s0
  show fR l κ mX9_bath 0 [(0, .ref (m)), (1, .int (p0)), (2, .int (p1))] [] (RM M m sA tA nA (th) (nI (sn)) (bI (kp)) (nI (ln)) (ap) (pt) (hs) (g) (tx) (nu)) 0 0 _
  refine r_aload_n dX9_bath_0 rfl ?_
  refine r_iload_n dX9_bath_1 rfl ?_
  refine r_callV (As := [.int (p0)]) dX9_bath_2 (tX9_isSample2 hD hg) rfl RM_0 rfl rfl oX9_isSample rfl kX9_104M nX9_isSample eX9_isSample (by unfold fRoom; decide) (Nat.le_of_ble_eq_true rfl) rfl (bc' := 0) (bs' := 0) rfl rfl ?_
  show fR _ _ _ 5 _ (.int (bI (pNo (p0) n)) :: _) _ _ _ _
  refine r_if_eqB (tgt := 24) dX9_bath_5 (by decide) (fun c1 => ?_) (fun c1 => ?_)
  · skip
    refine r_iconst (v := nI 0) dX9_bath_24 (by decide) ?_
    refine r_istore_n (lv' := [(3, .int (nI (0))), (0, .ref (m)), (1, .int (p0)), (2, .int (p1))]) dX9_bath_25 (by decide) rfl ?_
    refine r_aload_n dX9_bath_26 rfl ?_
    refine r_iload_n dX9_bath_27 rfl ?_
    refine r_if_neN (tgt := 35) dX9_bath_28 (by decide) (by omega) (fun c2 => absurd c2 (by omega)) (fun c2 => ?_)
    refine r_iconst (v := nI 1) dX9_bath_31 (by decide) ?_
    refine r_goto (tgt := 54) dX9_bath_32 (by decide) ?_
    refine r_callV (As := [.int (nI (1))]) dX9_bath_54 (tX9_holds_f hD (by omega) (by omega)) rfl RM_0 rfl rfl oX9_holds rfl kX9_94M nX9_holds eX9_holds (by unfold fRoom; decide) (Nat.le_of_ble_eq_true rfl) rfl (bc' := 0) (bs' := 0) rfl rfl ?_
    show fR _ _ _ 57 _ (.int (bI (false)) :: _) _ _ _ _
    refine r_if_neB (tgt := 62) dX9_bath_57 (by decide) (fun c3 => absurd c3 (by decide)) (fun c3 => ?_)
    refine r_iconst (v := nI 0) dX9_bath_60 (by decide) ?_
    exact fR_iret dX9_bath_61 rfl (rPost_of (t := 1) (kp := kp) (by unfold oBath; (first | simp only [ck0, ck1, ck2] | simp only [ck0, ck1] | simp only [ck0, ck2] | simp only [ck1, ck2] | simp only [ck0] | simp only [ck1] | simp only [ck2] | skip); (repeat (first | rw [if_pos (by first | assumption | exact Int32.not_le.mp (by assumption) | exact Int32.not_lt.mp (by assumption) | omega)] | rw [if_neg (by first | assumption | exact Int32.not_lt.mpr (by assumption) | exact Int32.not_le.mpr (by assumption) | exact bne_of (by assumption) | exact not_not_intro (by assumption) | omega)])); first | done | rfl))
  · skip
    obtain ⟨k0, hk0, ek0⟩ := pNo_t c1 (by omega)
    subst ek0
    have ck0 : cN (nI k0) = k0 := nI_clamp (by omega)
    refine r_iload_n dX9_bath_8 rfl ?_
    refine r_iconst (v := (-1)) dX9_bath_9 (by decide) ?_
    refine r_icmp_eq (tgt := 20) dX9_bath_10 (by decide) (fun c4 => ?_) (fun c4 => ?_)
    · skip
      refine r_iconst (v := nI 1) dX9_bath_20 (by decide) ?_
      refine r_goto (tgt := 25) dX9_bath_21 (by decide) ?_
      refine r_istore_n (lv' := [(3, .int (nI (1))), (0, .ref (m)), (1, .int (nI (k0))), (2, .int (p1))]) dX9_bath_25 (by decide) rfl ?_
      refine r_aload_n dX9_bath_26 rfl ?_
      refine r_iload_n dX9_bath_27 rfl ?_
      refine r_if_neN (tgt := 35) dX9_bath_28 (by decide) (by omega) (fun c5 => ?_) (fun c5 => absurd c5 (by omega))
      refine r_iload_n dX9_bath_35 rfl ?_
      refine r_iconst (v := (-1)) dX9_bath_36 (by decide) ?_
      refine r_icmp_eq (tgt := 53) dX9_bath_37 (by decide) (fun c6 => ?_) (fun c6 => by first | exact absurd c6 (by assumption) | exact absurd (by assumption) c6 | exact absurd (c6.symm.trans (by assumption)) (by decide))
      refine r_iconst (v := nI 0) dX9_bath_53 (by decide) ?_
      refine r_callV (As := [.int (nI (0))]) dX9_bath_54 (tX9_holds_t hD) rfl RM_0 rfl rfl oX9_holds rfl kX9_94M nX9_holds eX9_holds (by unfold fRoom; decide) (Nat.le_of_ble_eq_true rfl) rfl (bc' := 0) (bs' := 0) rfl rfl ?_
      show fR _ _ _ 57 _ (.int (bI (true)) :: _) _ _ _ _
      refine r_if_neB (tgt := 62) dX9_bath_57 (by decide) (fun c7 => ?_) (fun c7 => absurd c7 (by decide))
      refine r_aload_n dX9_bath_62 rfl ?_
      refine r_bipush (v := nI 40) dX9_bath_63 (by decide) ?_
      refine r_bipush (v := nI 42) dX9_bath_65 (by decide) ?_
      refine r_iload_n dX9_bath_67 rfl ?_
      refine r_imulN dX9_bath_68 ?_
      refine r_iaddN dX9_bath_69 ?_
      refine r_iconst (v := nI 3) dX9_bath_70 (by decide) ?_
      refine r_iaddN dX9_bath_71 ?_
      refine r_iload_n dX9_bath_72 rfl ?_
      refine r_callV (As := [.int (nI (((40 + (42 * k0)) + 3))), .int (p1)]) dX9_bath_73 (tX9_changed (sv := 0) hD hsn (by omega)) rfl RM_0 rfl rfl oX9_changed rfl kX9_114M nX9_changed eX9_changed (by unfold fRoom; decide) (Nat.le_of_ble_eq_true rfl) rfl (bc' := 0) (bs' := 0) rfl rfl ?_
      show fR _ _ _ 76 _ (.int ((g) (((40 + (42 * k0)) + 3))) :: _) _ _ _ _
      exact fR_iret dX9_bath_76 rfl (rPost_of (t := 0) (kp := kp) (by unfold oBath; (first | simp only [ck0, ck1, ck2] | simp only [ck0, ck1] | simp only [ck0, ck2] | simp only [ck1, ck2] | simp only [ck0] | simp only [ck1] | simp only [ck2] | skip); (repeat (first | rw [if_pos (by first | assumption | exact Int32.not_le.mp (by assumption) | exact Int32.not_lt.mp (by assumption) | omega)] | rw [if_neg (by first | assumption | exact Int32.not_lt.mpr (by assumption) | exact Int32.not_le.mpr (by assumption) | exact bne_of (by assumption) | exact not_not_intro (by assumption) | omega)])); first | done | rfl))
    · skip
      refine r_iload_n dX9_bath_13 rfl ?_
      refine r_callS (As := [.int (p1)]) dX9_bath_14 tX9_isOne2 rfl oX9_isOne rfl kX9_107M sX9_isOne (by unfold fRoom; decide) (Nat.le_of_ble_eq_true rfl) rfl (bc' := 0) (bs' := 0) rfl rfl ?_
      show fR _ _ _ 17 _ (.int (bI (pNo (p1) 3)) :: _) _ _ _ _
      refine r_if_eqB (tgt := 24) dX9_bath_17 (by decide) (fun c8 => ?_) (fun c8 => ?_)
      · skip
        refine r_iconst (v := nI 0) dX9_bath_24 (by decide) ?_
        refine r_istore_n (lv' := [(3, .int (nI (0))), (0, .ref (m)), (1, .int (nI (k0))), (2, .int (p1))]) dX9_bath_25 (by decide) rfl ?_
        refine r_aload_n dX9_bath_26 rfl ?_
        refine r_iload_n dX9_bath_27 rfl ?_
        refine r_if_neN (tgt := 35) dX9_bath_28 (by decide) (by omega) (fun c9 => absurd c9 (by omega)) (fun c9 => ?_)
        refine r_iconst (v := nI 1) dX9_bath_31 (by decide) ?_
        refine r_goto (tgt := 54) dX9_bath_32 (by decide) ?_
        refine r_callV (As := [.int (nI (1))]) dX9_bath_54 (tX9_holds_f hD (by omega) (by omega)) rfl RM_0 rfl rfl oX9_holds rfl kX9_94M nX9_holds eX9_holds (by unfold fRoom; decide) (Nat.le_of_ble_eq_true rfl) rfl (bc' := 0) (bs' := 0) rfl rfl ?_
        show fR _ _ _ 57 _ (.int (bI (false)) :: _) _ _ _ _
        refine r_if_neB (tgt := 62) dX9_bath_57 (by decide) (fun c10 => absurd c10 (by decide)) (fun c10 => ?_)
        refine r_iconst (v := nI 0) dX9_bath_60 (by decide) ?_
        exact fR_iret dX9_bath_61 rfl (rPost_of (t := 1) (kp := kp) (by unfold oBath; (first | simp only [ck0, ck1, ck2] | simp only [ck0, ck1] | simp only [ck0, ck2] | simp only [ck1, ck2] | simp only [ck0] | simp only [ck1] | simp only [ck2] | skip); (repeat (first | rw [if_pos (by first | assumption | exact Int32.not_le.mp (by assumption) | exact Int32.not_lt.mp (by assumption) | omega)] | rw [if_neg (by first | assumption | exact Int32.not_lt.mpr (by assumption) | exact Int32.not_le.mpr (by assumption) | exact bne_of (by assumption) | exact not_not_intro (by assumption) | omega)])); first | done | rfl))
      · skip
        obtain ⟨k1, hk1, ek1⟩ := pNo_t c8 (by omega)
        subst ek1
        have ck1 : cN (nI k1) = k1 := nI_clamp (by omega)
        refine r_iconst (v := nI 1) dX9_bath_20 (by decide) ?_
        refine r_goto (tgt := 25) dX9_bath_21 (by decide) ?_
        refine r_istore_n (lv' := [(3, .int (nI (1))), (0, .ref (m)), (1, .int (nI (k0))), (2, .int (nI (k1)))]) dX9_bath_25 (by decide) rfl ?_
        refine r_aload_n dX9_bath_26 rfl ?_
        refine r_iload_n dX9_bath_27 rfl ?_
        refine r_if_neN (tgt := 35) dX9_bath_28 (by decide) (by omega) (fun c11 => ?_) (fun c11 => absurd c11 (by omega))
        refine r_iload_n dX9_bath_35 rfl ?_
        refine r_iconst (v := (-1)) dX9_bath_36 (by decide) ?_
        refine r_icmp_eq (tgt := 53) dX9_bath_37 (by decide) (fun c12 => ?_) (fun c12 => ?_)
        · skip
          refine r_iconst (v := nI 0) dX9_bath_53 (by decide) ?_
          refine r_callV (As := [.int (nI (0))]) dX9_bath_54 (tX9_holds_t hD) rfl RM_0 rfl rfl oX9_holds rfl kX9_94M nX9_holds eX9_holds (by unfold fRoom; decide) (Nat.le_of_ble_eq_true rfl) rfl (bc' := 0) (bs' := 0) rfl rfl ?_
          show fR _ _ _ 57 _ (.int (bI (true)) :: _) _ _ _ _
          refine r_if_neB (tgt := 62) dX9_bath_57 (by decide) (fun c13 => ?_) (fun c13 => absurd c13 (by decide))
          refine r_aload_n dX9_bath_62 rfl ?_
          refine r_bipush (v := nI 40) dX9_bath_63 (by decide) ?_
          refine r_bipush (v := nI 42) dX9_bath_65 (by decide) ?_
          refine r_iload_n dX9_bath_67 rfl ?_
          refine r_imulN dX9_bath_68 ?_
          refine r_iaddN dX9_bath_69 ?_
          refine r_iconst (v := nI 3) dX9_bath_70 (by decide) ?_
          refine r_iaddN dX9_bath_71 ?_
          refine r_iload_n dX9_bath_72 rfl ?_
          refine r_callV (As := [.int (nI (((40 + (42 * k0)) + 3))), .int (nI (k1))]) dX9_bath_73 (tX9_changed (sv := 0) hD hsn (by omega)) rfl RM_0 rfl rfl oX9_changed rfl kX9_114M nX9_changed eX9_changed (by unfold fRoom; decide) (Nat.le_of_ble_eq_true rfl) rfl (bc' := 0) (bs' := 0) rfl rfl ?_
          show fR _ _ _ 76 _ (.int ((g) (((40 + (42 * k0)) + 3))) :: _) _ _ _ _
          exact fR_iret dX9_bath_76 rfl (rPost_of (t := 0) (kp := kp) (by unfold oBath; (first | simp only [ck0, ck1, ck2] | simp only [ck0, ck1] | simp only [ck0, ck2] | simp only [ck1, ck2] | simp only [ck0] | simp only [ck1] | simp only [ck2] | skip); (repeat (first | rw [if_pos (by first | assumption | exact Int32.not_le.mp (by assumption) | exact Int32.not_lt.mp (by assumption) | omega)] | rw [if_neg (by first | assumption | exact Int32.not_lt.mpr (by assumption) | exact Int32.not_le.mpr (by assumption) | exact bne_of (by assumption) | exact not_not_intro (by assumption) | omega)])); first | done | rfl))
        · skip
          refine r_aload_n dX9_bath_40 rfl ?_
          refine r_iload_n dX9_bath_41 rfl ?_
          refine r_iload_n dX9_bath_42 rfl ?_
          refine r_callV (As := [.int (nI (k0)), .int (nI (k1))]) dX9_bath_43 (tX9_hasRoom hD hn hg (by omega)) rfl RM_0 rfl rfl oX9_hasRoom rfl kX9_110M nX9_hasRoom eX9_hasRoom (by unfold fRoom; decide) (Nat.le_of_ble_eq_true rfl) rfl (bc' := 0) (bs' := 0) rfl rfl ?_
          show fR _ _ _ 46 _ (.int (bI (decide (pOf (g) (k0) 3 = (nI (k1)) ∨ pInBath (g) n (nI (k1)) < 3))) :: _) _ _ _ _
          refine r_if_neB (tgt := 53) dX9_bath_46 (by decide) (fun c14 => ?_) (fun c14 => ?_)
          · skip
            have hr := of_decide_eq_true c14
            refine r_iconst (v := nI 0) dX9_bath_53 (by decide) ?_
            refine r_callV (As := [.int (nI (0))]) dX9_bath_54 (tX9_holds_t hD) rfl RM_0 rfl rfl oX9_holds rfl kX9_94M nX9_holds eX9_holds (by unfold fRoom; decide) (Nat.le_of_ble_eq_true rfl) rfl (bc' := 0) (bs' := 0) rfl rfl ?_
            show fR _ _ _ 57 _ (.int (bI (true)) :: _) _ _ _ _
            refine r_if_neB (tgt := 62) dX9_bath_57 (by decide) (fun c15 => ?_) (fun c15 => absurd c15 (by decide))
            refine r_aload_n dX9_bath_62 rfl ?_
            refine r_bipush (v := nI 40) dX9_bath_63 (by decide) ?_
            refine r_bipush (v := nI 42) dX9_bath_65 (by decide) ?_
            refine r_iload_n dX9_bath_67 rfl ?_
            refine r_imulN dX9_bath_68 ?_
            refine r_iaddN dX9_bath_69 ?_
            refine r_iconst (v := nI 3) dX9_bath_70 (by decide) ?_
            refine r_iaddN dX9_bath_71 ?_
            refine r_iload_n dX9_bath_72 rfl ?_
            refine r_callV (As := [.int (nI (((40 + (42 * k0)) + 3))), .int (nI (k1))]) dX9_bath_73 (tX9_changed (sv := 0) hD hsn (by omega)) rfl RM_0 rfl rfl oX9_changed rfl kX9_114M nX9_changed eX9_changed (by unfold fRoom; decide) (Nat.le_of_ble_eq_true rfl) rfl (bc' := 0) (bs' := 0) rfl rfl ?_
            show fR _ _ _ 76 _ (.int ((g) (((40 + (42 * k0)) + 3))) :: _) _ _ _ _
            exact fR_iret dX9_bath_76 rfl (rPost_of (t := 0) (kp := kp) (by unfold oBath; (first | simp only [ck0, ck1, ck2] | simp only [ck0, ck1] | simp only [ck0, ck2] | simp only [ck1, ck2] | simp only [ck0] | simp only [ck1] | simp only [ck2] | skip); (repeat (first | rw [if_pos (by first | assumption | exact Int32.not_le.mp (by assumption) | exact Int32.not_lt.mp (by assumption) | omega)] | rw [if_neg (by first | assumption | exact Int32.not_lt.mpr (by assumption) | exact Int32.not_le.mpr (by assumption) | exact bne_of (by assumption) | exact not_not_intro (by assumption) | omega)])); first | done | rfl))
          · skip
            have hr := of_decide_eq_false c14
            refine r_iconst (v := nI 2) dX9_bath_49 (by decide) ?_
            refine r_goto (tgt := 54) dX9_bath_50 (by decide) ?_
            refine r_callV (As := [.int (nI (2))]) dX9_bath_54 (tX9_holds_f hD (by omega) (by omega)) rfl RM_0 rfl rfl oX9_holds rfl kX9_94M nX9_holds eX9_holds (by unfold fRoom; decide) (Nat.le_of_ble_eq_true rfl) rfl (bc' := 0) (bs' := 0) rfl rfl ?_
            show fR _ _ _ 57 _ (.int (bI (false)) :: _) _ _ _ _
            refine r_if_neB (tgt := 62) dX9_bath_57 (by decide) (fun c16 => absurd c16 (by decide)) (fun c16 => ?_)
            refine r_iconst (v := nI 0) dX9_bath_60 (by decide) ?_
            exact fR_iret dX9_bath_61 rfl (rPost_of (t := 2) (kp := kp) (by unfold oBath; (first | simp only [ck0, ck1, ck2] | simp only [ck0, ck1] | simp only [ck0, ck2] | simp only [ck1, ck2] | simp only [ck0] | simp only [ck1] | simp only [ck2] | skip); (repeat (first | rw [if_pos (by first | assumption | exact Int32.not_le.mp (by assumption) | exact Int32.not_lt.mp (by assumption) | omega)] | rw [if_neg (by first | assumption | exact Int32.not_lt.mpr (by assumption) | exact Int32.not_le.mpr (by assumption) | exact bne_of (by assumption) | exact not_not_intro (by assumption) | omega)])); first | done | rfl))
def oWarm (z : Zs) (dn n : Nat) (p0 : Int32) (p1 : Int32) : Oc := if pNo p0 3 = true then (if pIn p1 (nI 0) (nI 900) = true then (0, z.1 (28 + cN p0), zsv z (fun g => upd g (28 + cN p0) p1)) else (2, 0, z)) else (1, 0, z)
theorem tX9_warm_o {l : Launch} {κ : KP} {M : Mem} {m sA tA nA : Nat} {th ap pt : Int32} {hs : Int64} {g tx nu : Nat → Int32} {kp : Bool} {sn ln dn n : Nat} (hD : rDis m sA tA nA) (hI : BI g dn n) (hsn : sn ≤ 6) (hln : ln ≤ 60)  {p0 : Int32} {p1 : Int32} : fM l κ mX9_warm [.ref (m), .int (p0), .int (p1)] (RM M m sA tA nA (th) (nI (sn)) (bI (kp)) (nI (ln)) (ap) (pt) (hs) (g) (tx) (nu)) (rPost M m sA tA nA (oWarm ⟨g, sn, kp, tx, ln⟩ dn n p0 p1)) := by
  refine fM_of rfl (by decide +kernel) (Nat.le_of_ble_eq_true rfl) ?_
  have hn := hI.nle
  have hg := hI.n0
  have hdn := hI.dle
  have hg0 := hI.d0
  have hM := hI.mM
  have hB := hI.mB
  have h1 := hI.m1
  have hs0 := hI.s0
  show fR l κ mX9_warm 0 [(0, .ref (m)), (1, .int (p0)), (2, .int (p1))] [] (RM M m sA tA nA (th) (nI (sn)) (bI (kp)) (nI (ln)) (ap) (pt) (hs) (g) (tx) (nu)) 0 0 _
  refine r_aload_n dX9_warm_0 rfl ?_
  refine r_iload_n dX9_warm_1 rfl ?_
  refine r_callS (As := [.int (p0)]) dX9_warm_2 tX9_isOne2 rfl oX9_isOne rfl kX9_107M sX9_isOne (by unfold fRoom; decide) (Nat.le_of_ble_eq_true rfl) rfl (bc' := 0) (bs' := 0) rfl rfl ?_
  show fR _ _ _ 5 _ (.int (bI (pNo (p0) 3)) :: _) _ _ _ _
  refine r_if_neB (tgt := 12) dX9_warm_5 (by decide) (fun c1 => ?_) (fun c1 => ?_)
  · skip
    obtain ⟨k0, hk0, ek0⟩ := pNo_t c1 (by omega)
    subst ek0
    have ck0 : cN (nI k0) = k0 := nI_clamp (by omega)
    refine r_iload_n dX9_warm_12 rfl ?_
    refine r_iconst (v := nI 0) dX9_warm_13 (by decide) ?_
    refine r_sipush (v := nI 900) dX9_warm_14 (by decide) ?_
    refine r_callS (As := [.int (p1), .int (nI (0)), .int (nI (900))]) dX9_warm_17 tX9_in rfl oX9_in rfl kX9_23M sX9_in (by unfold fRoom; decide) (Nat.le_of_ble_eq_true rfl) rfl (bc' := 0) (bs' := 0) rfl rfl ?_
    show fR _ _ _ 20 _ (.int (bI (pIn (p1) (nI (0)) (nI (900)))) :: _) _ _ _ _
    refine r_if_neB (tgt := 27) dX9_warm_20 (by decide) (fun c2 => ?_) (fun c2 => ?_)
    · skip
      refine r_iconst (v := nI 0) dX9_warm_27 (by decide) ?_
      refine r_callV (As := [.int (nI (0))]) dX9_warm_28 (tX9_holds_t hD) rfl RM_0 rfl rfl oX9_holds rfl kX9_94M nX9_holds eX9_holds (by unfold fRoom; decide) (Nat.le_of_ble_eq_true rfl) rfl (bc' := 0) (bs' := 0) rfl rfl ?_
      show fR _ _ _ 31 _ (.int (bI (true)) :: _) _ _ _ _
      refine r_if_eqB (tgt := 46) dX9_warm_31 (by decide) (fun c3 => absurd c3 (by decide)) (fun c3 => ?_)
      refine r_aload_n dX9_warm_34 rfl ?_
      refine r_bipush (v := nI 28) dX9_warm_35 (by decide) ?_
      refine r_iload_n dX9_warm_37 rfl ?_
      refine r_iaddN dX9_warm_38 ?_
      refine r_iload_n dX9_warm_39 rfl ?_
      refine r_callV (As := [.int (nI ((28 + k0))), .int (p1)]) dX9_warm_40 (tX9_changed (sv := 0) hD hsn (by omega)) rfl RM_0 rfl rfl oX9_changed rfl kX9_114M nX9_changed eX9_changed (by unfold fRoom; decide) (Nat.le_of_ble_eq_true rfl) rfl (bc' := 0) (bs' := 0) rfl rfl ?_
      show fR _ _ _ 43 _ (.int ((g) ((28 + k0))) :: _) _ _ _ _
      refine r_goto (tgt := 47) dX9_warm_43 (by decide) ?_
      exact fR_iret dX9_warm_47 rfl (rPost_of (t := 0) (kp := kp) (by unfold oWarm; (first | simp only [ck0, ck1, ck2] | simp only [ck0, ck1] | simp only [ck0, ck2] | simp only [ck1, ck2] | simp only [ck0] | simp only [ck1] | simp only [ck2] | skip); (repeat (first | rw [if_pos (by first | assumption | exact Int32.not_le.mp (by assumption) | exact Int32.not_lt.mp (by assumption) | omega)] | rw [if_neg (by first | assumption | exact Int32.not_lt.mpr (by assumption) | exact Int32.not_le.mpr (by assumption) | exact bne_of (by assumption) | exact not_not_intro (by assumption) | omega)])); first | done | rfl))
    · skip
      refine r_iconst (v := nI 2) dX9_warm_23 (by decide) ?_
      refine r_goto (tgt := 28) dX9_warm_24 (by decide) ?_
      refine r_callV (As := [.int (nI (2))]) dX9_warm_28 (tX9_holds_f hD (by omega) (by omega)) rfl RM_0 rfl rfl oX9_holds rfl kX9_94M nX9_holds eX9_holds (by unfold fRoom; decide) (Nat.le_of_ble_eq_true rfl) rfl (bc' := 0) (bs' := 0) rfl rfl ?_
      show fR _ _ _ 31 _ (.int (bI (false)) :: _) _ _ _ _
      refine r_if_eqB (tgt := 46) dX9_warm_31 (by decide) (fun c4 => ?_) (fun c4 => absurd c4 (by decide))
      refine r_iconst (v := nI 0) dX9_warm_46 (by decide) ?_
      exact fR_iret dX9_warm_47 rfl (rPost_of (t := 2) (kp := kp) (by unfold oWarm; (first | simp only [ck0, ck1, ck2] | simp only [ck0, ck1] | simp only [ck0, ck2] | simp only [ck1, ck2] | simp only [ck0] | simp only [ck1] | simp only [ck2] | skip); (repeat (first | rw [if_pos (by first | assumption | exact Int32.not_le.mp (by assumption) | exact Int32.not_lt.mp (by assumption) | omega)] | rw [if_neg (by first | assumption | exact Int32.not_lt.mpr (by assumption) | exact Int32.not_le.mpr (by assumption) | exact bne_of (by assumption) | exact not_not_intro (by assumption) | omega)])); first | done | rfl))
  · skip
    refine r_iconst (v := nI 1) dX9_warm_8 (by decide) ?_
    refine r_goto (tgt := 28) dX9_warm_9 (by decide) ?_
    refine r_callV (As := [.int (nI (1))]) dX9_warm_28 (tX9_holds_f hD (by omega) (by omega)) rfl RM_0 rfl rfl oX9_holds rfl kX9_94M nX9_holds eX9_holds (by unfold fRoom; decide) (Nat.le_of_ble_eq_true rfl) rfl (bc' := 0) (bs' := 0) rfl rfl ?_
    show fR _ _ _ 31 _ (.int (bI (false)) :: _) _ _ _ _
    refine r_if_eqB (tgt := 46) dX9_warm_31 (by decide) (fun c5 => ?_) (fun c5 => absurd c5 (by decide))
    refine r_iconst (v := nI 0) dX9_warm_46 (by decide) ?_
    exact fR_iret dX9_warm_47 rfl (rPost_of (t := 1) (kp := kp) (by unfold oWarm; (first | simp only [ck0, ck1, ck2] | simp only [ck0, ck1] | simp only [ck0, ck2] | simp only [ck1, ck2] | simp only [ck0] | simp only [ck1] | simp only [ck2] | skip); (repeat (first | rw [if_pos (by first | assumption | exact Int32.not_le.mp (by assumption) | exact Int32.not_lt.mp (by assumption) | omega)] | rw [if_neg (by first | assumption | exact Int32.not_lt.mpr (by assumption) | exact Int32.not_le.mpr (by assumption) | exact bne_of (by assumption) | exact not_not_intro (by assumption) | omega)])); first | done | rfl))
theorem pIn_nat3 {v : Int32} {n : Nat} (hn : n < 2 ^ 30) (h : pIn v (nI 1) (nI n) = true) : ∃ k, 1 ≤ k ∧ k ≤ n ∧ v = nI k := by
  have h2 : pIn v (nI 0) (nI n) = true := by
    simp only [pIn, Bool.and_eq_true, decide_eq_true_eq] at h ⊢
    exact ⟨Int32.le_trans (by decide) h.1, h.2⟩
  obtain ⟨k, hk, e⟩ := pIn_nat2 hn h2
  refine ⟨k, ?_, hk, e⟩
  simp only [pIn, Bool.and_eq_true, decide_eq_true_eq] at h
  rw [e] at h
  exact (nI_leI (by omega) (by omega)).mp h.1
def oPass (z : Zs) (dn n : Nat) (p0 : Int32) : Oc := if pIn p0 (nI 1) (nI 99) = true then (0, nI (pSame (pPassT (pSave z.1 z.2.1) n (cN p0)) n), zsv z (fun g => pPassT g n (cN p0))) else (1, 0, z)
theorem tX9_pass_o {l : Launch} {κ : KP} {M : Mem} {m sA tA nA : Nat} {th ap pt : Int32} {hs : Int64} {g tx nu : Nat → Int32} {kp : Bool} {sn ln dn n : Nat} (hD : rDis m sA tA nA) (hI : BI g dn n) (hsn : sn ≤ 6) (hln : ln ≤ 60)  {p0 : Int32} : fM l κ mX9_pass [.ref (m), .int (p0)] (RM M m sA tA nA (th) (nI (sn)) (bI (kp)) (nI (ln)) (ap) (pt) (hs) (g) (tx) (nu)) (rPost M m sA tA nA (oPass ⟨g, sn, kp, tx, ln⟩ dn n p0)) := by
  refine fM_of rfl (by decide +kernel) (Nat.le_of_ble_eq_true rfl) ?_
  have hn := hI.nle
  have hg := hI.n0
  have hdn := hI.dle
  have hg0 := hI.d0
  have hM := hI.mM
  have hB := hI.mB
  have h1 := hI.m1
  have hs0 := hI.s0
  show fR l κ mX9_pass 0 [(0, .ref (m)), (1, .int (p0))] [] (RM M m sA tA nA (th) (nI (sn)) (bI (kp)) (nI (ln)) (ap) (pt) (hs) (g) (tx) (nu)) 0 0 _
  refine r_aload_n dX9_pass_0 rfl ?_
  refine r_iload_n dX9_pass_1 rfl ?_
  refine r_iconst (v := nI 1) dX9_pass_2 (by decide) ?_
  refine r_bipush (v := nI 99) dX9_pass_3 (by decide) ?_
  refine r_callS (As := [.int (p0), .int (nI (1)), .int (nI (99))]) dX9_pass_5 tX9_in rfl oX9_in rfl kX9_23M sX9_in (by unfold fRoom; decide) (Nat.le_of_ble_eq_true rfl) rfl (bc' := 0) (bs' := 0) rfl rfl ?_
  show fR _ _ _ 8 _ (.int (bI (pIn (p0) (nI (1)) (nI (99)))) :: _) _ _ _ _
  refine r_if_eqB (tgt := 15) dX9_pass_8 (by decide) (fun c1 => ?_) (fun c1 => ?_)
  · skip
    refine r_iconst (v := nI 1) dX9_pass_15 (by decide) ?_
    refine r_callV (As := [.int (nI (1))]) dX9_pass_16 (tX9_holds_f hD (by omega) (by omega)) rfl RM_0 rfl rfl oX9_holds rfl kX9_94M nX9_holds eX9_holds (by unfold fRoom; decide) (Nat.le_of_ble_eq_true rfl) rfl (bc' := 0) (bs' := 0) rfl rfl ?_
    show fR _ _ _ 19 _ (.int (bI (false)) :: _) _ _ _ _
    refine r_if_neB (tgt := 24) dX9_pass_19 (by decide) (fun c2 => absurd c2 (by decide)) (fun c2 => ?_)
    refine r_iconst (v := nI 0) dX9_pass_22 (by decide) ?_
    exact fR_iret dX9_pass_23 rfl (rPost_of (t := 1) (kp := kp) (by unfold oPass; (first | simp only [ck0, ck1, ck2] | simp only [ck0, ck1] | simp only [ck0, ck2] | simp only [ck1, ck2] | simp only [ck0] | simp only [ck1] | simp only [ck2] | skip); (repeat (first | rw [if_pos (by first | assumption | exact Int32.not_le.mp (by assumption) | exact Int32.not_lt.mp (by assumption) | omega)] | rw [if_neg (by first | assumption | exact Int32.not_lt.mpr (by assumption) | exact Int32.not_le.mpr (by assumption) | exact bne_of (by assumption) | exact not_not_intro (by assumption) | omega)])); first | done | rfl))
  · skip
    obtain ⟨k0, hk01, hk0, ek0⟩ := pIn_nat3 (by omega) c1
    subst ek0
    have ck0 : cN (nI k0) = k0 := nI_clamp (by omega)
    refine r_iconst (v := nI 0) dX9_pass_11 (by decide) ?_
    refine r_goto (tgt := 16) dX9_pass_12 (by decide) ?_
    refine r_callV (As := [.int (nI (0))]) dX9_pass_16 (tX9_holds_t hD) rfl RM_0 rfl rfl oX9_holds rfl kX9_94M nX9_holds eX9_holds (by unfold fRoom; decide) (Nat.le_of_ble_eq_true rfl) rfl (bc' := 0) (bs' := 0) rfl rfl ?_
    show fR _ _ _ 19 _ (.int (bI (true)) :: _) _ _ _ _
    refine r_if_neB (tgt := 24) dX9_pass_19 (by decide) (fun c3 => ?_) (fun c3 => absurd c3 (by decide))
    refine r_aload_n dX9_pass_24 rfl ?_
    refine r_callV (As := []) dX9_pass_25 (tX9_save hD hsn) rfl RM_0 rfl rfl oX9_save rfl kX9_91M nX9_save eX9_save (by unfold fRoom; decide) (Nat.le_of_ble_eq_true rfl) rfl (bc' := 0) (bs' := 0) rfl rfl ?_
    show fR _ _ _ 28 _ _ _ _ _ _
    have hJ := hI
    have hI := hI.save sn
    have hn := hI.nle
    have hg := hI.n0
    have hdn := hI.dle
    have hg0 := hI.d0
    have hM := hI.mM
    have hB := hI.mB
    have h1 := hI.m1
    have hs0 := hI.s0
    refine r_aload_n dX9_pass_28 rfl ?_
    refine r_iload_n dX9_pass_29 rfl ?_
    refine r_callV (As := [.int (nI (k0))]) dX9_pass_30 (tX9_passes hD hn hg hB (by omega)) rfl RM_0 rfl rfl oX9_passes rfl kX9_117M nX9_passes eX9_passes (by unfold fRoom; decide) (Nat.le_of_ble_eq_true rfl) rfl (bc' := 0) (bs' := 0) rfl rfl ?_
    show fR _ _ _ 33 _ (.int (nI (pSame (pPassT (pSave (g) sn) n (k0)) n)) :: _) _ _ _ _
    exact fR_iret dX9_pass_33 rfl (rPost_of (t := 0) (kp := kp) (by unfold oPass; (first | simp only [ck0, ck1, ck2] | simp only [ck0, ck1] | simp only [ck0, ck2] | simp only [ck1, ck2] | simp only [ck0] | simp only [ck1] | simp only [ck2] | skip); (repeat (first | rw [if_pos (by first | assumption | exact Int32.not_le.mp (by assumption) | exact Int32.not_lt.mp (by assumption) | omega)] | rw [if_neg (by first | assumption | exact Int32.not_lt.mpr (by assumption) | exact Int32.not_le.mpr (by assumption) | exact bne_of (by assumption) | exact not_not_intro (by assumption) | omega)])); first | done | rfl))
theorem pOf_save {f : Nat → Int32} {sn k w : Nat} (h : 40 + 42 * k + w < 376) : pOf (pSave f sn) k w = pOf f k w := pSave_lo h
theorem pWhyNot_save {f : Nat → Int32} {dn n sn nd k : Nat} (hI : BI f dn n) (hk : k < n) (hnd : nd < 3) : pWhyNot (pSave f sn) nd k = pWhyNot f nd k := by
  have hn := hI.nle
  have e3 : pOf f k 3 = -1 ∨ f (28 + (pOf f k 3).toNatClampNeg) = pSave f sn (28 + (pOf f k 3).toNatClampNeg) := by
    rcases (hI.sa k hk).2.2.2.1 with h | ⟨b, hb, h⟩
    · exact Or.inl h
    · rw [h, nI_clamp (by omega)]; exact Or.inr (pSave_lo (by omega)).symm
  unfold pWhyNot pMany
  simp only [pOf_save (show 40 + 42 * k + 2 < 376 by omega), pOf_save (show 40 + 42 * k + 3 < 376 by omega), pOf_save (show 40 + 42 * k + 5 < 376 by omega), pSave_lo (show 5 < 376 by omega), pSave_lo (show 31 + 3 * nd + 1 < 376 by omega)]
  rcases e3 with h | h
  · rw [if_pos h, if_pos h]
  · rw [← h]
theorem pWhyNot_0 {f : Nat → Int32} {nd k : Nat} (h9 : pMany f k ≤ 9) (h : pWhyNot f nd k ≤ 0) : pMany f k < 9 := by
  unfold pWhyNot at h
  repeat' split at h
  all_goals first | exact absurd h (by decide) | omega
def oSink (z : Zs) (dn n : Nat) (p0 : Int32) (p1 : Int32) (p2 : Int32) (p3 : Int32) : Oc := if pNo p0 3 = true then (if pNo p1 n = true then (if pIn p2 (nI 50) (nI 200) = true then (if pIn p3 (nI 1) (nI 60) = true then (if pWhyNot z.1 (cN p0) (cN p1) ≤ 0 then (0, pDep (pSave z.1 z.2.1) (cN p0) (cN p1) p2 p3, zsv z (fun g => pSink g (cN p0) (cN p1) p2 p3)) else (3, 0, z)) else (2, 0, z)) else (2, 0, z)) else (1, 0, z)) else (1, 0, z)
theorem tX9_sink_o {l : Launch} {κ : KP} {M : Mem} {m sA tA nA : Nat} {th ap pt : Int32} {hs : Int64} {g tx nu : Nat → Int32} {kp : Bool} {sn ln dn n : Nat} (hD : rDis m sA tA nA) (hI : BI g dn n) (hsn : sn ≤ 6) (hln : ln ≤ 60)  {p0 : Int32} {p1 : Int32} {p2 : Int32} {p3 : Int32} : fM l κ mX9_sink [.ref (m), .int (p0), .int (p1), .int (p2), .int (p3)] (RM M m sA tA nA (th) (nI (sn)) (bI (kp)) (nI (ln)) (ap) (pt) (hs) (g) (tx) (nu)) (rPost M m sA tA nA (oSink ⟨g, sn, kp, tx, ln⟩ dn n p0 p1 p2 p3)) := by
  refine fM_of rfl (by decide +kernel) (Nat.le_of_ble_eq_true rfl) ?_
  have hn := hI.nle
  have hg := hI.n0
  have hdn := hI.dle
  have hg0 := hI.d0
  have hM := hI.mM
  have hB := hI.mB
  have h1 := hI.m1
  have hs0 := hI.s0
  show fR l κ mX9_sink 0 [(0, .ref (m)), (1, .int (p0)), (2, .int (p1)), (3, .int (p2)), (4, .int (p3))] [] (RM M m sA tA nA (th) (nI (sn)) (bI (kp)) (nI (ln)) (ap) (pt) (hs) (g) (tx) (nu)) 0 0 _
  refine r_iload_n dX9_sink_0 rfl ?_
  refine r_callS (As := [.int (p0)]) dX9_sink_1 tX9_isOne2 rfl oX9_isOne rfl kX9_107M sX9_isOne (by unfold fRoom; decide) (Nat.le_of_ble_eq_true rfl) rfl (bc' := 0) (bs' := 0) rfl rfl ?_
  show fR _ _ _ 4 _ (.int (bI (pNo (p0) 3)) :: _) _ _ _ _
  refine r_if_eqB (tgt := 19) dX9_sink_4 (by decide) (fun c1 => ?_) (fun c1 => ?_)
  · skip
    refine r_iconst (v := nI 0) dX9_sink_19 (by decide) ?_
    refine r_istore (lv' := [(5, .int (nI (0))), (0, .ref (m)), (1, .int (p0)), (2, .int (p1)), (3, .int (p2)), (4, .int (p3))]) dX9_sink_20 (by decide) rfl ?_
    refine r_iload_n dX9_sink_22 rfl ?_
    refine r_bipush (v := nI 50) dX9_sink_23 (by decide) ?_
    refine r_sipush (v := nI 200) dX9_sink_25 (by decide) ?_
    refine r_callS (As := [.int (p2), .int (nI (50)), .int (nI (200))]) dX9_sink_28 tX9_in rfl oX9_in rfl kX9_23M sX9_in (by unfold fRoom; decide) (Nat.le_of_ble_eq_true rfl) rfl (bc' := 0) (bs' := 0) rfl rfl ?_
    show fR _ _ _ 31 _ (.int (bI (pIn (p2) (nI (50)) (nI (200)))) :: _) _ _ _ _
    refine r_if_eqB (tgt := 49) dX9_sink_31 (by decide) (fun c2 => ?_) (fun c2 => ?_)
    · skip
      refine r_iconst (v := nI 0) dX9_sink_49 (by decide) ?_
      refine r_istore (lv' := [(6, .int (nI (0))), (5, .int (nI (0))), (0, .ref (m)), (1, .int (p0)), (2, .int (p1)), (3, .int (p2)), (4, .int (p3))]) dX9_sink_50 (by decide) rfl ?_
      refine r_aload_n dX9_sink_52 rfl ?_
      refine r_iload dX9_sink_53 rfl ?_
      refine r_if_neN (tgt := 62) dX9_sink_55 (by decide) (by omega) (fun c3 => absurd c3 (by omega)) (fun c3 => ?_)
      refine r_iconst (v := nI 1) dX9_sink_58 (by decide) ?_
      refine r_goto (tgt := 85) dX9_sink_59 (by decide) ?_
      refine r_callV (As := [.int (nI (1))]) dX9_sink_85 (tX9_holds_f hD (by omega) (by omega)) rfl RM_0 rfl rfl oX9_holds rfl kX9_94M nX9_holds eX9_holds (by unfold fRoom; decide) (Nat.le_of_ble_eq_true rfl) rfl (bc' := 0) (bs' := 0) rfl rfl ?_
      show fR _ _ _ 88 _ (.int (bI (false)) :: _) _ _ _ _
      refine r_if_neB (tgt := 93) dX9_sink_88 (by decide) (fun c4 => absurd c4 (by decide)) (fun c4 => ?_)
      refine r_iconst (v := nI 0) dX9_sink_91 (by decide) ?_
      exact fR_iret dX9_sink_92 rfl (rPost_of (t := 1) (kp := kp) (by unfold oSink; (first | simp only [ck0, ck1, ck2] | simp only [ck0, ck1] | simp only [ck0, ck2] | simp only [ck1, ck2] | simp only [ck0] | simp only [ck1] | simp only [ck2] | skip); (repeat (first | rw [if_pos (by first | assumption | exact Int32.not_le.mp (by assumption) | exact Int32.not_lt.mp (by assumption) | omega)] | rw [if_neg (by first | assumption | exact Int32.not_lt.mpr (by assumption) | exact Int32.not_le.mpr (by assumption) | exact bne_of (by assumption) | exact not_not_intro (by assumption) | omega)])); first | done | rfl))
    · skip
      refine r_iload dX9_sink_34 rfl ?_
      refine r_iconst (v := nI 1) dX9_sink_36 (by decide) ?_
      refine r_bipush (v := nI 60) dX9_sink_37 (by decide) ?_
      refine r_callS (As := [.int (p3), .int (nI (1)), .int (nI (60))]) dX9_sink_39 tX9_in rfl oX9_in rfl kX9_23M sX9_in (by unfold fRoom; decide) (Nat.le_of_ble_eq_true rfl) rfl (bc' := 0) (bs' := 0) rfl rfl ?_
      show fR _ _ _ 42 _ (.int (bI (pIn (p3) (nI (1)) (nI (60)))) :: _) _ _ _ _
      refine r_if_eqB (tgt := 49) dX9_sink_42 (by decide) (fun c5 => ?_) (fun c5 => ?_)
      · skip
        refine r_iconst (v := nI 0) dX9_sink_49 (by decide) ?_
        refine r_istore (lv' := [(6, .int (nI (0))), (5, .int (nI (0))), (0, .ref (m)), (1, .int (p0)), (2, .int (p1)), (3, .int (p2)), (4, .int (p3))]) dX9_sink_50 (by decide) rfl ?_
        refine r_aload_n dX9_sink_52 rfl ?_
        refine r_iload dX9_sink_53 rfl ?_
        refine r_if_neN (tgt := 62) dX9_sink_55 (by decide) (by omega) (fun c6 => absurd c6 (by omega)) (fun c6 => ?_)
        refine r_iconst (v := nI 1) dX9_sink_58 (by decide) ?_
        refine r_goto (tgt := 85) dX9_sink_59 (by decide) ?_
        refine r_callV (As := [.int (nI (1))]) dX9_sink_85 (tX9_holds_f hD (by omega) (by omega)) rfl RM_0 rfl rfl oX9_holds rfl kX9_94M nX9_holds eX9_holds (by unfold fRoom; decide) (Nat.le_of_ble_eq_true rfl) rfl (bc' := 0) (bs' := 0) rfl rfl ?_
        show fR _ _ _ 88 _ (.int (bI (false)) :: _) _ _ _ _
        refine r_if_neB (tgt := 93) dX9_sink_88 (by decide) (fun c7 => absurd c7 (by decide)) (fun c7 => ?_)
        refine r_iconst (v := nI 0) dX9_sink_91 (by decide) ?_
        exact fR_iret dX9_sink_92 rfl (rPost_of (t := 1) (kp := kp) (by unfold oSink; (first | simp only [ck0, ck1, ck2] | simp only [ck0, ck1] | simp only [ck0, ck2] | simp only [ck1, ck2] | simp only [ck0] | simp only [ck1] | simp only [ck2] | skip); (repeat (first | rw [if_pos (by first | assumption | exact Int32.not_le.mp (by assumption) | exact Int32.not_lt.mp (by assumption) | omega)] | rw [if_neg (by first | assumption | exact Int32.not_lt.mpr (by assumption) | exact Int32.not_le.mpr (by assumption) | exact bne_of (by assumption) | exact not_not_intro (by assumption) | omega)])); first | done | rfl))
      · skip
        refine r_iconst (v := nI 1) dX9_sink_45 (by decide) ?_
        refine r_goto (tgt := 50) dX9_sink_46 (by decide) ?_
        refine r_istore (lv' := [(6, .int (nI (1))), (5, .int (nI (0))), (0, .ref (m)), (1, .int (p0)), (2, .int (p1)), (3, .int (p2)), (4, .int (p3))]) dX9_sink_50 (by decide) rfl ?_
        refine r_aload_n dX9_sink_52 rfl ?_
        refine r_iload dX9_sink_53 rfl ?_
        refine r_if_neN (tgt := 62) dX9_sink_55 (by decide) (by omega) (fun c8 => absurd c8 (by omega)) (fun c8 => ?_)
        refine r_iconst (v := nI 1) dX9_sink_58 (by decide) ?_
        refine r_goto (tgt := 85) dX9_sink_59 (by decide) ?_
        refine r_callV (As := [.int (nI (1))]) dX9_sink_85 (tX9_holds_f hD (by omega) (by omega)) rfl RM_0 rfl rfl oX9_holds rfl kX9_94M nX9_holds eX9_holds (by unfold fRoom; decide) (Nat.le_of_ble_eq_true rfl) rfl (bc' := 0) (bs' := 0) rfl rfl ?_
        show fR _ _ _ 88 _ (.int (bI (false)) :: _) _ _ _ _
        refine r_if_neB (tgt := 93) dX9_sink_88 (by decide) (fun c9 => absurd c9 (by decide)) (fun c9 => ?_)
        refine r_iconst (v := nI 0) dX9_sink_91 (by decide) ?_
        exact fR_iret dX9_sink_92 rfl (rPost_of (t := 1) (kp := kp) (by unfold oSink; (first | simp only [ck0, ck1, ck2] | simp only [ck0, ck1] | simp only [ck0, ck2] | simp only [ck1, ck2] | simp only [ck0] | simp only [ck1] | simp only [ck2] | skip); (repeat (first | rw [if_pos (by first | assumption | exact Int32.not_le.mp (by assumption) | exact Int32.not_lt.mp (by assumption) | omega)] | rw [if_neg (by first | assumption | exact Int32.not_lt.mpr (by assumption) | exact Int32.not_le.mpr (by assumption) | exact bne_of (by assumption) | exact not_not_intro (by assumption) | omega)])); first | done | rfl))
  · skip
    obtain ⟨k0, hk0, ek0⟩ := pNo_t c1 (by omega)
    subst ek0
    have ck0 : cN (nI k0) = k0 := nI_clamp (by omega)
    refine r_aload_n dX9_sink_7 rfl ?_
    refine r_iload_n dX9_sink_8 rfl ?_
    refine r_callV (As := [.int (p1)]) dX9_sink_9 (tX9_isSample2 hD hg) rfl RM_0 rfl rfl oX9_isSample rfl kX9_104M nX9_isSample eX9_isSample (by unfold fRoom; decide) (Nat.le_of_ble_eq_true rfl) rfl (bc' := 0) (bs' := 0) rfl rfl ?_
    show fR _ _ _ 12 _ (.int (bI (pNo (p1) n)) :: _) _ _ _ _
    refine r_if_eqB (tgt := 19) dX9_sink_12 (by decide) (fun c10 => ?_) (fun c10 => ?_)
    · skip
      refine r_iconst (v := nI 0) dX9_sink_19 (by decide) ?_
      refine r_istore (lv' := [(5, .int (nI (0))), (0, .ref (m)), (1, .int (nI (k0))), (2, .int (p1)), (3, .int (p2)), (4, .int (p3))]) dX9_sink_20 (by decide) rfl ?_
      refine r_iload_n dX9_sink_22 rfl ?_
      refine r_bipush (v := nI 50) dX9_sink_23 (by decide) ?_
      refine r_sipush (v := nI 200) dX9_sink_25 (by decide) ?_
      refine r_callS (As := [.int (p2), .int (nI (50)), .int (nI (200))]) dX9_sink_28 tX9_in rfl oX9_in rfl kX9_23M sX9_in (by unfold fRoom; decide) (Nat.le_of_ble_eq_true rfl) rfl (bc' := 0) (bs' := 0) rfl rfl ?_
      show fR _ _ _ 31 _ (.int (bI (pIn (p2) (nI (50)) (nI (200)))) :: _) _ _ _ _
      refine r_if_eqB (tgt := 49) dX9_sink_31 (by decide) (fun c11 => ?_) (fun c11 => ?_)
      · skip
        refine r_iconst (v := nI 0) dX9_sink_49 (by decide) ?_
        refine r_istore (lv' := [(6, .int (nI (0))), (5, .int (nI (0))), (0, .ref (m)), (1, .int (nI (k0))), (2, .int (p1)), (3, .int (p2)), (4, .int (p3))]) dX9_sink_50 (by decide) rfl ?_
        refine r_aload_n dX9_sink_52 rfl ?_
        refine r_iload dX9_sink_53 rfl ?_
        refine r_if_neN (tgt := 62) dX9_sink_55 (by decide) (by omega) (fun c12 => absurd c12 (by omega)) (fun c12 => ?_)
        refine r_iconst (v := nI 1) dX9_sink_58 (by decide) ?_
        refine r_goto (tgt := 85) dX9_sink_59 (by decide) ?_
        refine r_callV (As := [.int (nI (1))]) dX9_sink_85 (tX9_holds_f hD (by omega) (by omega)) rfl RM_0 rfl rfl oX9_holds rfl kX9_94M nX9_holds eX9_holds (by unfold fRoom; decide) (Nat.le_of_ble_eq_true rfl) rfl (bc' := 0) (bs' := 0) rfl rfl ?_
        show fR _ _ _ 88 _ (.int (bI (false)) :: _) _ _ _ _
        refine r_if_neB (tgt := 93) dX9_sink_88 (by decide) (fun c13 => absurd c13 (by decide)) (fun c13 => ?_)
        refine r_iconst (v := nI 0) dX9_sink_91 (by decide) ?_
        exact fR_iret dX9_sink_92 rfl (rPost_of (t := 1) (kp := kp) (by unfold oSink; (first | simp only [ck0, ck1, ck2] | simp only [ck0, ck1] | simp only [ck0, ck2] | simp only [ck1, ck2] | simp only [ck0] | simp only [ck1] | simp only [ck2] | skip); (repeat (first | rw [if_pos (by first | assumption | exact Int32.not_le.mp (by assumption) | exact Int32.not_lt.mp (by assumption) | omega)] | rw [if_neg (by first | assumption | exact Int32.not_lt.mpr (by assumption) | exact Int32.not_le.mpr (by assumption) | exact bne_of (by assumption) | exact not_not_intro (by assumption) | omega)])); first | done | rfl))
      · skip
        refine r_iload dX9_sink_34 rfl ?_
        refine r_iconst (v := nI 1) dX9_sink_36 (by decide) ?_
        refine r_bipush (v := nI 60) dX9_sink_37 (by decide) ?_
        refine r_callS (As := [.int (p3), .int (nI (1)), .int (nI (60))]) dX9_sink_39 tX9_in rfl oX9_in rfl kX9_23M sX9_in (by unfold fRoom; decide) (Nat.le_of_ble_eq_true rfl) rfl (bc' := 0) (bs' := 0) rfl rfl ?_
        show fR _ _ _ 42 _ (.int (bI (pIn (p3) (nI (1)) (nI (60)))) :: _) _ _ _ _
        refine r_if_eqB (tgt := 49) dX9_sink_42 (by decide) (fun c14 => ?_) (fun c14 => ?_)
        · skip
          refine r_iconst (v := nI 0) dX9_sink_49 (by decide) ?_
          refine r_istore (lv' := [(6, .int (nI (0))), (5, .int (nI (0))), (0, .ref (m)), (1, .int (nI (k0))), (2, .int (p1)), (3, .int (p2)), (4, .int (p3))]) dX9_sink_50 (by decide) rfl ?_
          refine r_aload_n dX9_sink_52 rfl ?_
          refine r_iload dX9_sink_53 rfl ?_
          refine r_if_neN (tgt := 62) dX9_sink_55 (by decide) (by omega) (fun c15 => absurd c15 (by omega)) (fun c15 => ?_)
          refine r_iconst (v := nI 1) dX9_sink_58 (by decide) ?_
          refine r_goto (tgt := 85) dX9_sink_59 (by decide) ?_
          refine r_callV (As := [.int (nI (1))]) dX9_sink_85 (tX9_holds_f hD (by omega) (by omega)) rfl RM_0 rfl rfl oX9_holds rfl kX9_94M nX9_holds eX9_holds (by unfold fRoom; decide) (Nat.le_of_ble_eq_true rfl) rfl (bc' := 0) (bs' := 0) rfl rfl ?_
          show fR _ _ _ 88 _ (.int (bI (false)) :: _) _ _ _ _
          refine r_if_neB (tgt := 93) dX9_sink_88 (by decide) (fun c16 => absurd c16 (by decide)) (fun c16 => ?_)
          refine r_iconst (v := nI 0) dX9_sink_91 (by decide) ?_
          exact fR_iret dX9_sink_92 rfl (rPost_of (t := 1) (kp := kp) (by unfold oSink; (first | simp only [ck0, ck1, ck2] | simp only [ck0, ck1] | simp only [ck0, ck2] | simp only [ck1, ck2] | simp only [ck0] | simp only [ck1] | simp only [ck2] | skip); (repeat (first | rw [if_pos (by first | assumption | exact Int32.not_le.mp (by assumption) | exact Int32.not_lt.mp (by assumption) | omega)] | rw [if_neg (by first | assumption | exact Int32.not_lt.mpr (by assumption) | exact Int32.not_le.mpr (by assumption) | exact bne_of (by assumption) | exact not_not_intro (by assumption) | omega)])); first | done | rfl))
        · skip
          refine r_iconst (v := nI 1) dX9_sink_45 (by decide) ?_
          refine r_goto (tgt := 50) dX9_sink_46 (by decide) ?_
          refine r_istore (lv' := [(6, .int (nI (1))), (5, .int (nI (0))), (0, .ref (m)), (1, .int (nI (k0))), (2, .int (p1)), (3, .int (p2)), (4, .int (p3))]) dX9_sink_50 (by decide) rfl ?_
          refine r_aload_n dX9_sink_52 rfl ?_
          refine r_iload dX9_sink_53 rfl ?_
          refine r_if_neN (tgt := 62) dX9_sink_55 (by decide) (by omega) (fun c17 => absurd c17 (by omega)) (fun c17 => ?_)
          refine r_iconst (v := nI 1) dX9_sink_58 (by decide) ?_
          refine r_goto (tgt := 85) dX9_sink_59 (by decide) ?_
          refine r_callV (As := [.int (nI (1))]) dX9_sink_85 (tX9_holds_f hD (by omega) (by omega)) rfl RM_0 rfl rfl oX9_holds rfl kX9_94M nX9_holds eX9_holds (by unfold fRoom; decide) (Nat.le_of_ble_eq_true rfl) rfl (bc' := 0) (bs' := 0) rfl rfl ?_
          show fR _ _ _ 88 _ (.int (bI (false)) :: _) _ _ _ _
          refine r_if_neB (tgt := 93) dX9_sink_88 (by decide) (fun c18 => absurd c18 (by decide)) (fun c18 => ?_)
          refine r_iconst (v := nI 0) dX9_sink_91 (by decide) ?_
          exact fR_iret dX9_sink_92 rfl (rPost_of (t := 1) (kp := kp) (by unfold oSink; (first | simp only [ck0, ck1, ck2] | simp only [ck0, ck1] | simp only [ck0, ck2] | simp only [ck1, ck2] | simp only [ck0] | simp only [ck1] | simp only [ck2] | skip); (repeat (first | rw [if_pos (by first | assumption | exact Int32.not_le.mp (by assumption) | exact Int32.not_lt.mp (by assumption) | omega)] | rw [if_neg (by first | assumption | exact Int32.not_lt.mpr (by assumption) | exact Int32.not_le.mpr (by assumption) | exact bne_of (by assumption) | exact not_not_intro (by assumption) | omega)])); first | done | rfl))
    · skip
      obtain ⟨k1, hk1, ek1⟩ := pNo_t c10 (by omega)
      subst ek1
      have ck1 : cN (nI k1) = k1 := nI_clamp (by omega)
      refine r_iconst (v := nI 1) dX9_sink_15 (by decide) ?_
      refine r_goto (tgt := 20) dX9_sink_16 (by decide) ?_
      refine r_istore (lv' := [(5, .int (nI (1))), (0, .ref (m)), (1, .int (nI (k0))), (2, .int (nI (k1))), (3, .int (p2)), (4, .int (p3))]) dX9_sink_20 (by decide) rfl ?_
      refine r_iload_n dX9_sink_22 rfl ?_
      refine r_bipush (v := nI 50) dX9_sink_23 (by decide) ?_
      refine r_sipush (v := nI 200) dX9_sink_25 (by decide) ?_
      refine r_callS (As := [.int (p2), .int (nI (50)), .int (nI (200))]) dX9_sink_28 tX9_in rfl oX9_in rfl kX9_23M sX9_in (by unfold fRoom; decide) (Nat.le_of_ble_eq_true rfl) rfl (bc' := 0) (bs' := 0) rfl rfl ?_
      show fR _ _ _ 31 _ (.int (bI (pIn (p2) (nI (50)) (nI (200)))) :: _) _ _ _ _
      refine r_if_eqB (tgt := 49) dX9_sink_31 (by decide) (fun c19 => ?_) (fun c19 => ?_)
      · skip
        refine r_iconst (v := nI 0) dX9_sink_49 (by decide) ?_
        refine r_istore (lv' := [(6, .int (nI (0))), (5, .int (nI (1))), (0, .ref (m)), (1, .int (nI (k0))), (2, .int (nI (k1))), (3, .int (p2)), (4, .int (p3))]) dX9_sink_50 (by decide) rfl ?_
        refine r_aload_n dX9_sink_52 rfl ?_
        refine r_iload dX9_sink_53 rfl ?_
        refine r_if_neN (tgt := 62) dX9_sink_55 (by decide) (by omega) (fun c20 => ?_) (fun c20 => absurd c20 (by omega))
        refine r_iload dX9_sink_62 rfl ?_
        refine r_if_neN (tgt := 71) dX9_sink_64 (by decide) (by omega) (fun c21 => absurd c21 (by omega)) (fun c21 => ?_)
        refine r_iconst (v := nI 2) dX9_sink_67 (by decide) ?_
        refine r_goto (tgt := 85) dX9_sink_68 (by decide) ?_
        refine r_callV (As := [.int (nI (2))]) dX9_sink_85 (tX9_holds_f hD (by omega) (by omega)) rfl RM_0 rfl rfl oX9_holds rfl kX9_94M nX9_holds eX9_holds (by unfold fRoom; decide) (Nat.le_of_ble_eq_true rfl) rfl (bc' := 0) (bs' := 0) rfl rfl ?_
        show fR _ _ _ 88 _ (.int (bI (false)) :: _) _ _ _ _
        refine r_if_neB (tgt := 93) dX9_sink_88 (by decide) (fun c22 => absurd c22 (by decide)) (fun c22 => ?_)
        refine r_iconst (v := nI 0) dX9_sink_91 (by decide) ?_
        exact fR_iret dX9_sink_92 rfl (rPost_of (t := 2) (kp := kp) (by unfold oSink; (first | simp only [ck0, ck1, ck2] | simp only [ck0, ck1] | simp only [ck0, ck2] | simp only [ck1, ck2] | simp only [ck0] | simp only [ck1] | simp only [ck2] | skip); (repeat (first | rw [if_pos (by first | assumption | exact Int32.not_le.mp (by assumption) | exact Int32.not_lt.mp (by assumption) | omega)] | rw [if_neg (by first | assumption | exact Int32.not_lt.mpr (by assumption) | exact Int32.not_le.mpr (by assumption) | exact bne_of (by assumption) | exact not_not_intro (by assumption) | omega)])); first | done | rfl))
      · skip
        refine r_iload dX9_sink_34 rfl ?_
        refine r_iconst (v := nI 1) dX9_sink_36 (by decide) ?_
        refine r_bipush (v := nI 60) dX9_sink_37 (by decide) ?_
        refine r_callS (As := [.int (p3), .int (nI (1)), .int (nI (60))]) dX9_sink_39 tX9_in rfl oX9_in rfl kX9_23M sX9_in (by unfold fRoom; decide) (Nat.le_of_ble_eq_true rfl) rfl (bc' := 0) (bs' := 0) rfl rfl ?_
        show fR _ _ _ 42 _ (.int (bI (pIn (p3) (nI (1)) (nI (60)))) :: _) _ _ _ _
        refine r_if_eqB (tgt := 49) dX9_sink_42 (by decide) (fun c23 => ?_) (fun c23 => ?_)
        · skip
          refine r_iconst (v := nI 0) dX9_sink_49 (by decide) ?_
          refine r_istore (lv' := [(6, .int (nI (0))), (5, .int (nI (1))), (0, .ref (m)), (1, .int (nI (k0))), (2, .int (nI (k1))), (3, .int (p2)), (4, .int (p3))]) dX9_sink_50 (by decide) rfl ?_
          refine r_aload_n dX9_sink_52 rfl ?_
          refine r_iload dX9_sink_53 rfl ?_
          refine r_if_neN (tgt := 62) dX9_sink_55 (by decide) (by omega) (fun c24 => ?_) (fun c24 => absurd c24 (by omega))
          refine r_iload dX9_sink_62 rfl ?_
          refine r_if_neN (tgt := 71) dX9_sink_64 (by decide) (by omega) (fun c25 => absurd c25 (by omega)) (fun c25 => ?_)
          refine r_iconst (v := nI 2) dX9_sink_67 (by decide) ?_
          refine r_goto (tgt := 85) dX9_sink_68 (by decide) ?_
          refine r_callV (As := [.int (nI (2))]) dX9_sink_85 (tX9_holds_f hD (by omega) (by omega)) rfl RM_0 rfl rfl oX9_holds rfl kX9_94M nX9_holds eX9_holds (by unfold fRoom; decide) (Nat.le_of_ble_eq_true rfl) rfl (bc' := 0) (bs' := 0) rfl rfl ?_
          show fR _ _ _ 88 _ (.int (bI (false)) :: _) _ _ _ _
          refine r_if_neB (tgt := 93) dX9_sink_88 (by decide) (fun c26 => absurd c26 (by decide)) (fun c26 => ?_)
          refine r_iconst (v := nI 0) dX9_sink_91 (by decide) ?_
          exact fR_iret dX9_sink_92 rfl (rPost_of (t := 2) (kp := kp) (by unfold oSink; (first | simp only [ck0, ck1, ck2] | simp only [ck0, ck1] | simp only [ck0, ck2] | simp only [ck1, ck2] | simp only [ck0] | simp only [ck1] | simp only [ck2] | skip); (repeat (first | rw [if_pos (by first | assumption | exact Int32.not_le.mp (by assumption) | exact Int32.not_lt.mp (by assumption) | omega)] | rw [if_neg (by first | assumption | exact Int32.not_lt.mpr (by assumption) | exact Int32.not_le.mpr (by assumption) | exact bne_of (by assumption) | exact not_not_intro (by assumption) | omega)])); first | done | rfl))
        · skip
          refine r_iconst (v := nI 1) dX9_sink_45 (by decide) ?_
          refine r_goto (tgt := 50) dX9_sink_46 (by decide) ?_
          refine r_istore (lv' := [(6, .int (nI (1))), (5, .int (nI (1))), (0, .ref (m)), (1, .int (nI (k0))), (2, .int (nI (k1))), (3, .int (p2)), (4, .int (p3))]) dX9_sink_50 (by decide) rfl ?_
          refine r_aload_n dX9_sink_52 rfl ?_
          refine r_iload dX9_sink_53 rfl ?_
          refine r_if_neN (tgt := 62) dX9_sink_55 (by decide) (by omega) (fun c27 => ?_) (fun c27 => absurd c27 (by omega))
          refine r_iload dX9_sink_62 rfl ?_
          refine r_if_neN (tgt := 71) dX9_sink_64 (by decide) (by omega) (fun c28 => ?_) (fun c28 => absurd c28 (by omega))
          refine r_aload_n dX9_sink_71 rfl ?_
          refine r_iload_n dX9_sink_72 rfl ?_
          refine r_iload_n dX9_sink_73 rfl ?_
          refine r_callV (As := [.int (nI (k0)), .int (nI (k1))]) dX9_sink_74 (tX9_whyNot hD (by omega) (by omega) (hM _ (by omega)).1 (hM _ (by omega)).2 (hB _ (by omega))) rfl RM_0 rfl rfl oX9_whyNot rfl kX9_120M nX9_whyNot eX9_whyNot (by unfold fRoom; decide) (Nat.le_of_ble_eq_true rfl) rfl (bc' := 0) (bs' := 0) rfl rfl ?_
          show fR _ _ _ 77 _ (.int (pWhyNot (g) (k0) (k1)) :: _) _ _ _ _
          refine r_if_le (tgt := 84) dX9_sink_77 (by decide) (fun c29 => ?_) (fun c29 => ?_)
          · skip
            refine r_iconst (v := nI 0) dX9_sink_84 (by decide) ?_
            refine r_callV (As := [.int (nI (0))]) dX9_sink_85 (tX9_holds_t hD) rfl RM_0 rfl rfl oX9_holds rfl kX9_94M nX9_holds eX9_holds (by unfold fRoom; decide) (Nat.le_of_ble_eq_true rfl) rfl (bc' := 0) (bs' := 0) rfl rfl ?_
            show fR _ _ _ 88 _ (.int (bI (true)) :: _) _ _ _ _
            refine r_if_neB (tgt := 93) dX9_sink_88 (by decide) (fun c30 => ?_) (fun c30 => absurd c30 (by decide))
            refine r_aload_n dX9_sink_93 rfl ?_
            refine r_callV (As := []) dX9_sink_94 (tX9_save hD hsn) rfl RM_0 rfl rfl oX9_save rfl kX9_91M nX9_save eX9_save (by unfold fRoom; decide) (Nat.le_of_ble_eq_true rfl) rfl (bc' := 0) (bs' := 0) rfl rfl ?_
            show fR _ _ _ 97 _ _ _ _ _ _
            have hJ := hI
            have hI := hI.save sn
            have hn := hI.nle
            have hg := hI.n0
            have hdn := hI.dle
            have hg0 := hI.d0
            have hM := hI.mM
            have hB := hI.mB
            have h1 := hI.m1
            have hs0 := hI.s0
            refine r_aload_n dX9_sink_97 rfl ?_
            refine r_iload_n dX9_sink_98 rfl ?_
            refine r_iload_n dX9_sink_99 rfl ?_
            refine r_iload_n dX9_sink_100 rfl ?_
            refine r_iload dX9_sink_101 rfl ?_
            have e6 := h1 k1 (by omega)
            have e7 := hM k1 (by omega)
            have e8 := pWhyNot_0 e7.2 (show pWhyNot (pSave g sn) k0 k1 ≤ 0 by rw [pWhyNot_save hJ (by omega) (by omega)]; assumption)
            refine r_callV (As := [.int (nI (k0)), .int (nI (k1)), .int (p2), .int (p3)]) dX9_sink_103 (tX9_sinks hD (by omega) (by omega) e6 e7.1 e8) rfl RM_0 rfl rfl oX9_sinks rfl kX9_123M nX9_sinks eX9_sinks (by unfold fRoom; decide) (Nat.le_of_ble_eq_true rfl) rfl (bc' := 0) (bs' := 0) rfl rfl ?_
            show fR _ _ _ 106 _ (.int (pDep (pSave (g) sn) k0 k1 (p2) (p3)) :: _) _ _ _ _
            exact fR_iret dX9_sink_106 rfl (rPost_of (t := 0) (kp := kp) (by unfold oSink; (first | simp only [ck0, ck1, ck2] | simp only [ck0, ck1] | simp only [ck0, ck2] | simp only [ck1, ck2] | simp only [ck0] | simp only [ck1] | simp only [ck2] | skip); (repeat (first | rw [if_pos (by first | assumption | exact Int32.not_le.mp (by assumption) | exact Int32.not_lt.mp (by assumption) | omega)] | rw [if_neg (by first | assumption | exact Int32.not_lt.mpr (by assumption) | exact Int32.not_le.mpr (by assumption) | exact bne_of (by assumption) | exact not_not_intro (by assumption) | omega)])); first | done | rfl))
          · skip
            refine r_iconst (v := nI 3) dX9_sink_80 (by decide) ?_
            refine r_goto (tgt := 85) dX9_sink_81 (by decide) ?_
            refine r_callV (As := [.int (nI (3))]) dX9_sink_85 (tX9_holds_f hD (by omega) (by omega)) rfl RM_0 rfl rfl oX9_holds rfl kX9_94M nX9_holds eX9_holds (by unfold fRoom; decide) (Nat.le_of_ble_eq_true rfl) rfl (bc' := 0) (bs' := 0) rfl rfl ?_
            show fR _ _ _ 88 _ (.int (bI (false)) :: _) _ _ _ _
            refine r_if_neB (tgt := 93) dX9_sink_88 (by decide) (fun c31 => absurd c31 (by decide)) (fun c31 => ?_)
            refine r_iconst (v := nI 0) dX9_sink_91 (by decide) ?_
            exact fR_iret dX9_sink_92 rfl (rPost_of (t := 3) (kp := kp) (by unfold oSink; (first | simp only [ck0, ck1, ck2] | simp only [ck0, ck1] | simp only [ck0, ck2] | simp only [ck1, ck2] | simp only [ck0] | simp only [ck1] | simp only [ck2] | skip); (repeat (first | rw [if_pos (by first | assumption | exact Int32.not_le.mp (by assumption) | exact Int32.not_lt.mp (by assumption) | omega)] | rw [if_neg (by first | assumption | exact Int32.not_lt.mpr (by assumption) | exact Int32.not_le.mpr (by assumption) | exact bne_of (by assumption) | exact not_not_intro (by assumption) | omega)])); first | done | rfl))
def pRenew (g : Nat → Int32) (nd : Nat) : Nat → Int32 := upd (upd (upd g (31 + 3 * nd + 0) (nI 0)) (31 + 3 * nd + 1) (nI 0)) 4 (g 4 + nI 1)
def oRenew (z : Zs) (dn n : Nat) (p0 : Int32) : Oc := if pNo p0 3 = true then (0, z.1 (31 + 3 * cN p0 + 0), zsv z (fun g => pRenew g (cN p0))) else (1, 0, z)
theorem tX9_renew_o {l : Launch} {κ : KP} {M : Mem} {m sA tA nA : Nat} {th ap pt : Int32} {hs : Int64} {g tx nu : Nat → Int32} {kp : Bool} {sn ln dn n : Nat} (hD : rDis m sA tA nA) (hI : BI g dn n) (hsn : sn ≤ 6) (hln : ln ≤ 60)  {p0 : Int32} : fM l κ mX9_renew [.ref (m), .int (p0)] (RM M m sA tA nA (th) (nI (sn)) (bI (kp)) (nI (ln)) (ap) (pt) (hs) (g) (tx) (nu)) (rPost M m sA tA nA (oRenew ⟨g, sn, kp, tx, ln⟩ dn n p0)) := by
  refine fM_of rfl (by decide +kernel) (Nat.le_of_ble_eq_true rfl) ?_
  have hn := hI.nle
  have hg := hI.n0
  have hdn := hI.dle
  have hg0 := hI.d0
  have hM := hI.mM
  have hB := hI.mB
  have h1 := hI.m1
  have hs0 := hI.s0
  show fR l κ mX9_renew 0 [(0, .ref (m)), (1, .int (p0))] [] (RM M m sA tA nA (th) (nI (sn)) (bI (kp)) (nI (ln)) (ap) (pt) (hs) (g) (tx) (nu)) 0 0 _
  refine r_aload_n dX9_renew_0 rfl ?_
  refine r_iload_n dX9_renew_1 rfl ?_
  refine r_callS (As := [.int (p0)]) dX9_renew_2 tX9_isOne2 rfl oX9_isOne rfl kX9_107M sX9_isOne (by unfold fRoom; decide) (Nat.le_of_ble_eq_true rfl) rfl (bc' := 0) (bs' := 0) rfl rfl ?_
  show fR _ _ _ 5 _ (.int (bI (pNo (p0) 3)) :: _) _ _ _ _
  refine r_if_eqB (tgt := 12) dX9_renew_5 (by decide) (fun c1 => ?_) (fun c1 => ?_)
  · skip
    refine r_iconst (v := nI 1) dX9_renew_12 (by decide) ?_
    refine r_callV (As := [.int (nI (1))]) dX9_renew_13 (tX9_holds_f hD (by omega) (by omega)) rfl RM_0 rfl rfl oX9_holds rfl kX9_94M nX9_holds eX9_holds (by unfold fRoom; decide) (Nat.le_of_ble_eq_true rfl) rfl (bc' := 0) (bs' := 0) rfl rfl ?_
    show fR _ _ _ 16 _ (.int (bI (false)) :: _) _ _ _ _
    refine r_if_neB (tgt := 21) dX9_renew_16 (by decide) (fun c2 => absurd c2 (by decide)) (fun c2 => ?_)
    refine r_iconst (v := nI 0) dX9_renew_19 (by decide) ?_
    exact fR_iret dX9_renew_20 rfl (rPost_of (t := 1) (kp := kp) (by unfold oRenew; (first | simp only [ck0, ck1, ck2] | simp only [ck0, ck1] | simp only [ck0, ck2] | simp only [ck1, ck2] | simp only [ck0] | simp only [ck1] | simp only [ck2] | skip); (repeat (first | rw [if_pos (by first | assumption | exact Int32.not_le.mp (by assumption) | exact Int32.not_lt.mp (by assumption) | omega)] | rw [if_neg (by first | assumption | exact Int32.not_lt.mpr (by assumption) | exact Int32.not_le.mpr (by assumption) | exact bne_of (by assumption) | exact not_not_intro (by assumption) | omega)])); first | done | rfl))
  · skip
    obtain ⟨k0, hk0, ek0⟩ := pNo_t c1 (by omega)
    subst ek0
    have ck0 : cN (nI k0) = k0 := nI_clamp (by omega)
    refine r_iconst (v := nI 0) dX9_renew_8 (by decide) ?_
    refine r_goto (tgt := 13) dX9_renew_9 (by decide) ?_
    refine r_callV (As := [.int (nI (0))]) dX9_renew_13 (tX9_holds_t hD) rfl RM_0 rfl rfl oX9_holds rfl kX9_94M nX9_holds eX9_holds (by unfold fRoom; decide) (Nat.le_of_ble_eq_true rfl) rfl (bc' := 0) (bs' := 0) rfl rfl ?_
    show fR _ _ _ 16 _ (.int (bI (true)) :: _) _ _ _ _
    refine r_if_neB (tgt := 21) dX9_renew_16 (by decide) (fun c3 => ?_) (fun c3 => absurd c3 (by decide))
    refine r_aload_n dX9_renew_21 rfl ?_
    refine r_bipush (v := nI 31) dX9_renew_22 (by decide) ?_
    refine r_iconst (v := nI 3) dX9_renew_24 (by decide) ?_
    refine r_iload_n dX9_renew_25 rfl ?_
    refine r_imulN dX9_renew_26 ?_
    refine r_iaddN dX9_renew_27 ?_
    refine r_iconst (v := nI 0) dX9_renew_28 (by decide) ?_
    refine r_iaddN dX9_renew_29 ?_
    refine r_iconst (v := nI 0) dX9_renew_30 (by decide) ?_
    refine r_callV (As := [.int (nI (((31 + (3 * k0)) + 0))), .int (nI (0))]) dX9_renew_31 (tX9_changed (sv := 0) hD hsn (by omega)) rfl RM_0 rfl rfl oX9_changed rfl kX9_114M nX9_changed eX9_changed (by unfold fRoom; decide) (Nat.le_of_ble_eq_true rfl) rfl (bc' := 0) (bs' := 0) rfl rfl ?_
    show fR _ _ _ 34 _ (.int ((g) (((31 + (3 * k0)) + 0))) :: _) _ _ _ _
    refine r_istore_n (lv' := [(2, .int ((g) (((31 + (3 * k0)) + 0)))), (0, .ref (m)), (1, .int (nI (k0)))]) dX9_renew_34 (by decide) rfl ?_
    refine r_aload_n dX9_renew_35 rfl ?_
    refine r_get (k := 1) dX9_renew_36 RM_0 rfl rfl (by decide) kX9_7F ?_
    refine r_bipush (v := nI 31) dX9_renew_39 (by decide) ?_
    refine r_iconst (v := nI 3) dX9_renew_41 (by decide) ?_
    refine r_iload_n dX9_renew_42 rfl ?_
    refine r_imulN dX9_renew_43 ?_
    refine r_iaddN dX9_renew_44 ?_
    refine r_iconst (v := nI 1) dX9_renew_45 (by decide) ?_
    refine r_iaddN dX9_renew_46 ?_
    refine r_iconst (v := nI 0) dX9_renew_47 (by decide) ?_
    refine r_iastN dX9_renew_48 (RM_1 hD) (by omega) (by decide) ?_
    refine r_mem (RM_s1 hD) ?_
    refine r_aload_n dX9_renew_49 rfl ?_
    refine r_get (k := 1) dX9_renew_50 RM_0 rfl rfl (by decide) kX9_7F ?_
    refine r_iconst (v := nI 4) dX9_renew_53 (by decide) ?_
    refine r_dup2 dX9_renew_54 rfl rfl ?_
    refine r_ialdN dX9_renew_55 (RM_1 hD) (by omega) (by decide) rfl ?_
    refine r_top (y := ((pSave g sn 4))) (by rw [pk_un (by omega), pk_un (by omega)]) ?_
    refine r_iconst (v := nI 1) dX9_renew_56 (by decide) ?_
    refine r_iadd dX9_renew_57 ?_
    refine r_iastN dX9_renew_58 (RM_1 hD) (by omega) (by decide) ?_
    refine r_mem (RM_s1 hD) ?_
    refine r_iload_n dX9_renew_59 rfl ?_
    exact fR_iret dX9_renew_60 rfl (rPost_of (t := 0) (kp := kp) (by unfold oRenew; (first | simp only [ck0, ck1, ck2] | simp only [ck0, ck1] | simp only [ck0, ck2] | simp only [ck1, ck2] | simp only [ck0] | simp only [ck1] | simp only [ck2] | skip); (repeat (first | rw [if_pos (by first | assumption | exact Int32.not_le.mp (by assumption) | exact Int32.not_lt.mp (by assumption) | omega)] | rw [if_neg (by first | assumption | exact Int32.not_lt.mpr (by assumption) | exact Int32.not_le.mpr (by assumption) | exact bne_of (by assumption) | exact not_not_intro (by assumption) | omega)])); first | done | rfl))
def pRing (g : Nat → Int32) (k : Nat) : Nat → Int32 := if pOf g k 4 = -1 then upd g (40 + 42 * k + 4) (pRingV g k) else g
def pRingR (g : Nat → Int32) (k : Nat) : Int32 := if pOf g k 4 = -1 then pRingV g k else pOf g k 4
theorem tX9_rings {l : Launch} {κ : KP} {M : Mem} {m sA tA nA : Nat} {th sv kp ln ap pt : Int32} {hs : Int64} {g tx nu : Nat → Int32} (hD : rDis m sA tA nA) {k : Nat} (hk : k < 8) : fM l κ mX9_rings [.ref m, .int (nI k)] (RM M m sA tA nA th sv kp ln ap pt hs g tx nu) (isI (pRingR g k) (RM M m sA tA nA th sv kp ln ap pt hs (pRing g k) tx nu)) := by
  by_cases h : pOf g k 4 = -1
  · have := tX9_rings_0 (l := l) (κ := κ) (M := M) (th := th) (sv := sv) (kp := kp) (ln := ln) (ap := ap) (pt := pt) (hs := hs) (g := g) (tx := tx) (nu := nu) hD hk h
    rw [show pRingR g k = pRingV g k from if_pos h, show pRing g k = upd g (40 + 42 * k + 4) (pRingV g k) from if_pos h]; exact this
  · have := tX9_rings_1 (l := l) (κ := κ) (M := M) (th := th) (sv := sv) (kp := kp) (ln := ln) (ap := ap) (pt := pt) (hs := hs) (g := g) (tx := tx) (nu := nu) hD hk h
    rw [show pRingR g k = pOf g k 4 from if_neg h, show pRing g k = g from if_neg h]; exact this
def oRing (z : Zs) (dn n : Nat) (p0 : Int32) : Oc := if pNo p0 n = true then (if pOf z.1 (cN p0) 3 = -1 then (0, pRingR (pSave z.1 z.2.1) (cN p0), zsv z (fun g => pRing g (cN p0))) else (2, 0, z)) else (1, 0, z)
theorem tX9_ring_o {l : Launch} {κ : KP} {M : Mem} {m sA tA nA : Nat} {th ap pt : Int32} {hs : Int64} {g tx nu : Nat → Int32} {kp : Bool} {sn ln dn n : Nat} (hD : rDis m sA tA nA) (hI : BI g dn n) (hsn : sn ≤ 6) (hln : ln ≤ 60)  {p0 : Int32} : fM l κ mX9_ring [.ref (m), .int (p0)] (RM M m sA tA nA (th) (nI (sn)) (bI (kp)) (nI (ln)) (ap) (pt) (hs) (g) (tx) (nu)) (rPost M m sA tA nA (oRing ⟨g, sn, kp, tx, ln⟩ dn n p0)) := by
  refine fM_of rfl (by decide +kernel) (Nat.le_of_ble_eq_true rfl) ?_
  have hn := hI.nle
  have hg := hI.n0
  have hdn := hI.dle
  have hg0 := hI.d0
  have hM := hI.mM
  have hB := hI.mB
  have h1 := hI.m1
  have hs0 := hI.s0
  show fR l κ mX9_ring 0 [(0, .ref (m)), (1, .int (p0))] [] (RM M m sA tA nA (th) (nI (sn)) (bI (kp)) (nI (ln)) (ap) (pt) (hs) (g) (tx) (nu)) 0 0 _
  refine r_aload_n dX9_ring_0 rfl ?_
  refine r_iload_n dX9_ring_1 rfl ?_
  refine r_callV (As := [.int (p0)]) dX9_ring_2 (tX9_isSample2 hD hg) rfl RM_0 rfl rfl oX9_isSample rfl kX9_104M nX9_isSample eX9_isSample (by unfold fRoom; decide) (Nat.le_of_ble_eq_true rfl) rfl (bc' := 0) (bs' := 0) rfl rfl ?_
  show fR _ _ _ 5 _ (.int (bI (pNo (p0) n)) :: _) _ _ _ _
  refine r_istore_n (lv' := [(2, .int (bI (pNo (p0) n))), (0, .ref (m)), (1, .int (p0))]) dX9_ring_5 (by decide) rfl ?_
  refine r_aload_n dX9_ring_6 rfl ?_
  refine r_iload_n dX9_ring_7 rfl ?_
  refine r_if_neB (tgt := 15) dX9_ring_8 (by decide) (fun c1 => ?_) (fun c1 => ?_)
  · skip
    obtain ⟨k0, hk0, ek0⟩ := pNo_t c1 (by omega)
    subst ek0
    have ck0 : cN (nI k0) = k0 := nI_clamp (by omega)
    refine r_aload_n dX9_ring_15 rfl ?_
    refine r_iload_n dX9_ring_16 rfl ?_
    refine r_iconst (v := nI 3) dX9_ring_17 (by decide) ?_
    refine r_callV (As := [.int (nI (k0)), .int (nI (3))]) dX9_ring_18 (tX9_of hD (by omega)) rfl RM_0 rfl rfl oX9_of rfl kX9_31M nX9_of eX9_of (by unfold fRoom; decide) (Nat.le_of_ble_eq_true rfl) rfl (bc' := 0) (bs' := 0) rfl rfl ?_
    show fR _ _ _ 21 _ (.int (pOf (g) (k0) (3)) :: _) _ _ _ _
    refine r_iconst (v := (-1)) dX9_ring_21 (by decide) ?_
    refine r_icmp_eq (tgt := 29) dX9_ring_22 (by decide) (fun c2 => ?_) (fun c2 => ?_)
    · skip
      refine r_iconst (v := nI 0) dX9_ring_29 (by decide) ?_
      refine r_callV (As := [.int (nI (0))]) dX9_ring_30 (tX9_holds_t hD) rfl RM_0 rfl rfl oX9_holds rfl kX9_94M nX9_holds eX9_holds (by unfold fRoom; decide) (Nat.le_of_ble_eq_true rfl) rfl (bc' := 0) (bs' := 0) rfl rfl ?_
      show fR _ _ _ 33 _ (.int (bI (true)) :: _) _ _ _ _
      refine r_if_neB (tgt := 38) dX9_ring_33 (by decide) (fun c3 => ?_) (fun c3 => absurd c3 (by decide))
      refine r_aload_n dX9_ring_38 rfl ?_
      refine r_callV (As := []) dX9_ring_39 (tX9_save hD hsn) rfl RM_0 rfl rfl oX9_save rfl kX9_91M nX9_save eX9_save (by unfold fRoom; decide) (Nat.le_of_ble_eq_true rfl) rfl (bc' := 0) (bs' := 0) rfl rfl ?_
      show fR _ _ _ 42 _ _ _ _ _ _
      have hJ := hI
      have hI := hI.save sn
      have hn := hI.nle
      have hg := hI.n0
      have hdn := hI.dle
      have hg0 := hI.d0
      have hM := hI.mM
      have hB := hI.mB
      have h1 := hI.m1
      have hs0 := hI.s0
      refine r_aload_n dX9_ring_42 rfl ?_
      refine r_iload_n dX9_ring_43 rfl ?_
      refine r_callV (As := [.int (nI (k0))]) dX9_ring_44 (tX9_rings hD (by omega)) rfl RM_0 rfl rfl oX9_rings rfl kX9_126M nX9_rings eX9_rings (by unfold fRoom; decide) (Nat.le_of_ble_eq_true rfl) rfl (bc' := 0) (bs' := 0) rfl rfl ?_
      show fR _ _ _ 47 _ (.int (pRingR (pSave (g) sn) (k0)) :: _) _ _ _ _
      exact fR_iret dX9_ring_47 rfl (rPost_of (t := 0) (kp := kp) (by unfold oRing; (first | simp only [ck0, ck1, ck2] | simp only [ck0, ck1] | simp only [ck0, ck2] | simp only [ck1, ck2] | simp only [ck0] | simp only [ck1] | simp only [ck2] | skip); (repeat (first | rw [if_pos (by first | assumption | exact Int32.not_le.mp (by assumption) | exact Int32.not_lt.mp (by assumption) | omega)] | rw [if_neg (by first | assumption | exact Int32.not_lt.mpr (by assumption) | exact Int32.not_le.mpr (by assumption) | exact bne_of (by assumption) | exact not_not_intro (by assumption) | omega)])); first | done | rfl))
    · skip
      refine r_iconst (v := nI 2) dX9_ring_25 (by decide) ?_
      refine r_goto (tgt := 30) dX9_ring_26 (by decide) ?_
      refine r_callV (As := [.int (nI (2))]) dX9_ring_30 (tX9_holds_f hD (by omega) (by omega)) rfl RM_0 rfl rfl oX9_holds rfl kX9_94M nX9_holds eX9_holds (by unfold fRoom; decide) (Nat.le_of_ble_eq_true rfl) rfl (bc' := 0) (bs' := 0) rfl rfl ?_
      show fR _ _ _ 33 _ (.int (bI (false)) :: _) _ _ _ _
      refine r_if_neB (tgt := 38) dX9_ring_33 (by decide) (fun c4 => absurd c4 (by decide)) (fun c4 => ?_)
      refine r_iconst (v := nI 0) dX9_ring_36 (by decide) ?_
      exact fR_iret dX9_ring_37 rfl (rPost_of (t := 2) (kp := kp) (by unfold oRing; (first | simp only [ck0, ck1, ck2] | simp only [ck0, ck1] | simp only [ck0, ck2] | simp only [ck1, ck2] | simp only [ck0] | simp only [ck1] | simp only [ck2] | skip); (repeat (first | rw [if_pos (by first | assumption | exact Int32.not_le.mp (by assumption) | exact Int32.not_lt.mp (by assumption) | omega)] | rw [if_neg (by first | assumption | exact Int32.not_lt.mpr (by assumption) | exact Int32.not_le.mpr (by assumption) | exact bne_of (by assumption) | exact not_not_intro (by assumption) | omega)])); first | done | rfl))
  · skip
    refine r_iconst (v := nI 1) dX9_ring_11 (by decide) ?_
    refine r_goto (tgt := 30) dX9_ring_12 (by decide) ?_
    refine r_callV (As := [.int (nI (1))]) dX9_ring_30 (tX9_holds_f hD (by omega) (by omega)) rfl RM_0 rfl rfl oX9_holds rfl kX9_94M nX9_holds eX9_holds (by unfold fRoom; decide) (Nat.le_of_ble_eq_true rfl) rfl (bc' := 0) (bs' := 0) rfl rfl ?_
    show fR _ _ _ 33 _ (.int (bI (false)) :: _) _ _ _ _
    refine r_if_neB (tgt := 38) dX9_ring_33 (by decide) (fun c5 => absurd c5 (by decide)) (fun c5 => ?_)
    refine r_iconst (v := nI 0) dX9_ring_36 (by decide) ?_
    exact fR_iret dX9_ring_37 rfl (rPost_of (t := 1) (kp := kp) (by unfold oRing; (first | simp only [ck0, ck1, ck2] | simp only [ck0, ck1] | simp only [ck0, ck2] | simp only [ck1, ck2] | simp only [ck0] | simp only [ck1] | simp only [ck2] | skip); (repeat (first | rw [if_pos (by first | assumption | exact Int32.not_le.mp (by assumption) | exact Int32.not_lt.mp (by assumption) | omega)] | rw [if_neg (by first | assumption | exact Int32.not_lt.mpr (by assumption) | exact Int32.not_le.mpr (by assumption) | exact bne_of (by assumption) | exact not_not_intro (by assumption) | omega)])); first | done | rfl))
def pSell (g : Nat → Int32) (n d : Nat) : Nat → Int32 := upd g (10 + 3 * d + 2) (pMean g n d true / nI 20)
def oSell (z : Zs) (dn n : Nat) (p0 : Int32) : Oc := if pNo p0 dn = true then (if pWhyS z.1 n (cN p0) ≤ 0 then (0, pMean (pSave z.1 z.2.1) n (cN p0) true / nI 20, zsv z (fun g => pSell g n (cN p0))) else (2, 0, z)) else (1, 0, z)
theorem tX9_sell_o {l : Launch} {κ : KP} {M : Mem} {m sA tA nA : Nat} {th ap pt : Int32} {hs : Int64} {g tx nu : Nat → Int32} {kp : Bool} {sn ln dn n : Nat} (hD : rDis m sA tA nA) (hI : BI g dn n) (hsn : sn ≤ 6) (hln : ln ≤ 60)  {p0 : Int32} : fM l κ mX9_sell [.ref (m), .int (p0)] (RM M m sA tA nA (th) (nI (sn)) (bI (kp)) (nI (ln)) (ap) (pt) (hs) (g) (tx) (nu)) (rPost M m sA tA nA (oSell ⟨g, sn, kp, tx, ln⟩ dn n p0)) := by
  refine fM_of rfl (by decide +kernel) (Nat.le_of_ble_eq_true rfl) ?_
  have hn := hI.nle
  have hg := hI.n0
  have hdn := hI.dle
  have hg0 := hI.d0
  have hM := hI.mM
  have hB := hI.mB
  have h1 := hI.m1
  have hs0 := hI.s0
  show fR l κ mX9_sell 0 [(0, .ref (m)), (1, .int (p0))] [] (RM M m sA tA nA (th) (nI (sn)) (bI (kp)) (nI (ln)) (ap) (pt) (hs) (g) (tx) (nu)) 0 0 _
  refine r_aload_n dX9_sell_0 rfl ?_
  refine r_iload_n dX9_sell_1 rfl ?_
  refine r_callV (As := [.int (p0)]) dX9_sell_2 (tX9_isDrum2 hD hg0) rfl RM_0 rfl rfl oX9_isDrum rfl kX9_98M nX9_isDrum eX9_isDrum (by unfold fRoom; decide) (Nat.le_of_ble_eq_true rfl) rfl (bc' := 0) (bs' := 0) rfl rfl ?_
  show fR _ _ _ 5 _ (.int (bI (pNo (p0) dn)) :: _) _ _ _ _
  refine r_istore_n (lv' := [(2, .int (bI (pNo (p0) dn))), (0, .ref (m)), (1, .int (p0))]) dX9_sell_5 (by decide) rfl ?_
  refine r_aload_n dX9_sell_6 rfl ?_
  refine r_iload_n dX9_sell_7 rfl ?_
  refine r_if_neB (tgt := 15) dX9_sell_8 (by decide) (fun c1 => ?_) (fun c1 => ?_)
  · skip
    obtain ⟨k0, hk0, ek0⟩ := pNo_t c1 (by omega)
    subst ek0
    have ck0 : cN (nI k0) = k0 := nI_clamp (by omega)
    refine r_aload_n dX9_sell_15 rfl ?_
    refine r_iload_n dX9_sell_16 rfl ?_
    refine r_callV (As := [.int (nI (k0))]) dX9_sell_17 (tX9_whyNotSold hD hn hg hM (by omega)) rfl RM_0 rfl rfl oX9_whyNotSold rfl kX9_129M nX9_whyNotSold eX9_whyNotSold (by unfold fRoom; decide) (Nat.le_of_ble_eq_true rfl) rfl (bc' := 0) (bs' := 0) rfl rfl ?_
    show fR _ _ _ 20 _ (.int (pWhyS (g) n (k0)) :: _) _ _ _ _
    refine r_if_le (tgt := 27) dX9_sell_20 (by decide) (fun c2 => ?_) (fun c2 => ?_)
    · skip
      refine r_iconst (v := nI 0) dX9_sell_27 (by decide) ?_
      refine r_callV (As := [.int (nI (0))]) dX9_sell_28 (tX9_holds_t hD) rfl RM_0 rfl rfl oX9_holds rfl kX9_94M nX9_holds eX9_holds (by unfold fRoom; decide) (Nat.le_of_ble_eq_true rfl) rfl (bc' := 0) (bs' := 0) rfl rfl ?_
      show fR _ _ _ 31 _ (.int (bI (true)) :: _) _ _ _ _
      refine r_if_neB (tgt := 36) dX9_sell_31 (by decide) (fun c3 => ?_) (fun c3 => absurd c3 (by decide))
      refine r_aload_n dX9_sell_36 rfl ?_
      refine r_callV (As := []) dX9_sell_37 (tX9_save hD hsn) rfl RM_0 rfl rfl oX9_save rfl kX9_91M nX9_save eX9_save (by unfold fRoom; decide) (Nat.le_of_ble_eq_true rfl) rfl (bc' := 0) (bs' := 0) rfl rfl ?_
      show fR _ _ _ 40 _ _ _ _ _ _
      have hJ := hI
      have hI := hI.save sn
      have hn := hI.nle
      have hg := hI.n0
      have hdn := hI.dle
      have hg0 := hI.d0
      have hM := hI.mM
      have hB := hI.mB
      have h1 := hI.m1
      have hs0 := hI.s0
      refine r_aload_n dX9_sell_40 rfl ?_
      refine r_iload_n dX9_sell_41 rfl ?_
      refine r_callV (As := [.int (nI (k0))]) dX9_sell_42 (tX9_sells hD hn hg hM (by omega)) rfl RM_0 rfl rfl oX9_sells rfl kX9_132M nX9_sells eX9_sells (by unfold fRoom; decide) (Nat.le_of_ble_eq_true rfl) rfl (bc' := 0) (bs' := 0) rfl rfl ?_
      show fR _ _ _ 45 _ (.int (pMean (pSave (g) sn) n (k0) true / nI 20) :: _) _ _ _ _
      exact fR_iret dX9_sell_45 rfl (rPost_of (t := 0) (kp := kp) (by unfold oSell; (first | simp only [ck0, ck1, ck2] | simp only [ck0, ck1] | simp only [ck0, ck2] | simp only [ck1, ck2] | simp only [ck0] | simp only [ck1] | simp only [ck2] | skip); (repeat (first | rw [if_pos (by first | assumption | exact Int32.not_le.mp (by assumption) | exact Int32.not_lt.mp (by assumption) | omega)] | rw [if_neg (by first | assumption | exact Int32.not_lt.mpr (by assumption) | exact Int32.not_le.mpr (by assumption) | exact bne_of (by assumption) | exact not_not_intro (by assumption) | omega)])); first | done | rfl))
    · skip
      refine r_iconst (v := nI 2) dX9_sell_23 (by decide) ?_
      refine r_goto (tgt := 28) dX9_sell_24 (by decide) ?_
      refine r_callV (As := [.int (nI (2))]) dX9_sell_28 (tX9_holds_f hD (by omega) (by omega)) rfl RM_0 rfl rfl oX9_holds rfl kX9_94M nX9_holds eX9_holds (by unfold fRoom; decide) (Nat.le_of_ble_eq_true rfl) rfl (bc' := 0) (bs' := 0) rfl rfl ?_
      show fR _ _ _ 31 _ (.int (bI (false)) :: _) _ _ _ _
      refine r_if_neB (tgt := 36) dX9_sell_31 (by decide) (fun c4 => absurd c4 (by decide)) (fun c4 => ?_)
      refine r_iconst (v := nI 0) dX9_sell_34 (by decide) ?_
      exact fR_iret dX9_sell_35 rfl (rPost_of (t := 2) (kp := kp) (by unfold oSell; (first | simp only [ck0, ck1, ck2] | simp only [ck0, ck1] | simp only [ck0, ck2] | simp only [ck1, ck2] | simp only [ck0] | simp only [ck1] | simp only [ck2] | skip); (repeat (first | rw [if_pos (by first | assumption | exact Int32.not_le.mp (by assumption) | exact Int32.not_lt.mp (by assumption) | omega)] | rw [if_neg (by first | assumption | exact Int32.not_lt.mpr (by assumption) | exact Int32.not_le.mpr (by assumption) | exact bne_of (by assumption) | exact not_not_intro (by assumption) | omega)])); first | done | rfl))
  · skip
    refine r_iconst (v := nI 1) dX9_sell_11 (by decide) ?_
    refine r_goto (tgt := 28) dX9_sell_12 (by decide) ?_
    refine r_callV (As := [.int (nI (1))]) dX9_sell_28 (tX9_holds_f hD (by omega) (by omega)) rfl RM_0 rfl rfl oX9_holds rfl kX9_94M nX9_holds eX9_holds (by unfold fRoom; decide) (Nat.le_of_ble_eq_true rfl) rfl (bc' := 0) (bs' := 0) rfl rfl ?_
    show fR _ _ _ 31 _ (.int (bI (false)) :: _) _ _ _ _
    refine r_if_neB (tgt := 36) dX9_sell_31 (by decide) (fun c5 => absurd c5 (by decide)) (fun c5 => ?_)
    refine r_iconst (v := nI 0) dX9_sell_34 (by decide) ?_
    exact fR_iret dX9_sell_35 rfl (rPost_of (t := 1) (kp := kp) (by unfold oSell; (first | simp only [ck0, ck1, ck2] | simp only [ck0, ck1] | simp only [ck0, ck2] | simp only [ck1, ck2] | simp only [ck0] | simp only [ck1] | simp only [ck2] | skip); (repeat (first | rw [if_pos (by first | assumption | exact Int32.not_le.mp (by assumption) | exact Int32.not_lt.mp (by assumption) | omega)] | rw [if_neg (by first | assumption | exact Int32.not_lt.mpr (by assumption) | exact Int32.not_le.mpr (by assumption) | exact bne_of (by assumption) | exact not_not_intro (by assumption) | omega)])); first | done | rfl))
def oSet (z : Zs) (dn n : Nat) (p0 : Int32) (p1 : Int32) : Oc := if pIn p0 (nI 0) (nI 2) = true then (if cN p0 = 0 then (if pIn p1 (nI 0) (nI 50) = true then (0, z.1 (5 + cN p0), zsv z (fun g => upd g (5 + cN p0) p1)) else (2, 0, z)) else if cN p0 = 1 then (if pIn p1 (nI 0) (nI 100) = true then (0, z.1 (5 + cN p0), zsv z (fun g => upd g (5 + cN p0) p1)) else (2, 0, z)) else (if pIn p1 (nI 0) (nI 60) = true then (0, z.1 (5 + cN p0), zsv z (fun g => upd g (5 + cN p0) p1)) else (2, 0, z))) else (1, 0, z)
theorem tX9_set_o {l : Launch} {κ : KP} {M : Mem} {m sA tA nA : Nat} {th ap pt : Int32} {hs : Int64} {g tx nu : Nat → Int32} {kp : Bool} {sn ln dn n : Nat} (hD : rDis m sA tA nA) (hI : BI g dn n) (hsn : sn ≤ 6) (hln : ln ≤ 60)  {p0 : Int32} {p1 : Int32} : fM l κ mX9_set [.ref (m), .int (p0), .int (p1)] (RM M m sA tA nA (th) (nI (sn)) (bI (kp)) (nI (ln)) (ap) (pt) (hs) (g) (tx) (nu)) (rPost M m sA tA nA (oSet ⟨g, sn, kp, tx, ln⟩ dn n p0 p1)) := by
  refine fM_of rfl (by decide +kernel) (Nat.le_of_ble_eq_true rfl) ?_
  have hn := hI.nle
  have hg := hI.n0
  have hdn := hI.dle
  have hg0 := hI.d0
  have hM := hI.mM
  have hB := hI.mB
  have h1 := hI.m1
  have hs0 := hI.s0
  show fR l κ mX9_set 0 [(0, .ref (m)), (1, .int (p0)), (2, .int (p1))] [] (RM M m sA tA nA (th) (nI (sn)) (bI (kp)) (nI (ln)) (ap) (pt) (hs) (g) (tx) (nu)) 0 0 _
  refine r_iload_n dX9_set_0 rfl ?_
  refine r_iconst (v := nI 0) dX9_set_1 (by decide) ?_
  refine r_iconst (v := nI 2) dX9_set_2 (by decide) ?_
  refine r_callS (As := [.int (p0), .int (nI (0)), .int (nI (2))]) dX9_set_3 tX9_in rfl oX9_in rfl kX9_23M sX9_in (by unfold fRoom; decide) (Nat.le_of_ble_eq_true rfl) rfl (bc' := 0) (bs' := 0) rfl rfl ?_
  show fR _ _ _ 6 _ (.int (bI (pIn (p0) (nI (0)) (nI (2)))) :: _) _ _ _ _
  refine r_istore_n (lv' := [(3, .int (bI (pIn (p0) (nI (0)) (nI (2))))), (0, .ref (m)), (1, .int (p0)), (2, .int (p1))]) dX9_set_6 (by decide) rfl ?_
  refine r_aload_n dX9_set_7 rfl ?_
  refine r_iload_n dX9_set_8 rfl ?_
  refine r_if_neB (tgt := 16) dX9_set_9 (by decide) (fun c1 => ?_) (fun c1 => ?_)
  · skip
    obtain ⟨k0, hk0, ek0⟩ := pIn_nat2 (by omega) c1
    subst ek0
    have ck0 : cN (nI k0) = k0 := nI_clamp (by omega)
    refine r_iload_n dX9_set_16 rfl ?_
    refine r_iconst (v := nI 0) dX9_set_17 (by decide) ?_
    refine r_iload_n dX9_set_18 rfl ?_
    refine r_if_neN (tgt := 27) dX9_set_19 (by decide) (by omega) (fun c2 => ?_) (fun c2 => ?_)
    · skip
      refine r_iload_n dX9_set_27 rfl ?_
      refine r_iconst (v := nI 1) dX9_set_28 (by decide) ?_
      refine r_icmp_neN (tgt := 37) dX9_set_29 (by decide) (by omega) (by omega) (fun c3 => ?_) (fun c3 => ?_)
      · skip
        refine r_bipush (v := nI 60) dX9_set_37 (by decide) ?_
        refine r_callS (As := [.int (p1), .int (nI (0)), .int (nI (60))]) dX9_set_39 tX9_in rfl oX9_in rfl kX9_23M sX9_in (by unfold fRoom; decide) (Nat.le_of_ble_eq_true rfl) rfl (bc' := 0) (bs' := 0) rfl rfl ?_
        show fR _ _ _ 42 _ (.int (bI (pIn (p1) (nI (0)) (nI (60)))) :: _) _ _ _ _
        refine r_if_neB (tgt := 49) dX9_set_42 (by decide) (fun c4 => ?_) (fun c4 => ?_)
        · skip
          refine r_iconst (v := nI 0) dX9_set_49 (by decide) ?_
          refine r_callV (As := [.int (nI (0))]) dX9_set_50 (tX9_holds_t hD) rfl RM_0 rfl rfl oX9_holds rfl kX9_94M nX9_holds eX9_holds (by unfold fRoom; decide) (Nat.le_of_ble_eq_true rfl) rfl (bc' := 0) (bs' := 0) rfl rfl ?_
          show fR _ _ _ 53 _ (.int (bI (true)) :: _) _ _ _ _
          refine r_if_eqB (tgt := 67) dX9_set_53 (by decide) (fun c5 => absurd c5 (by decide)) (fun c5 => ?_)
          refine r_aload_n dX9_set_56 rfl ?_
          refine r_iconst (v := nI 5) dX9_set_57 (by decide) ?_
          refine r_iload_n dX9_set_58 rfl ?_
          refine r_iaddN dX9_set_59 ?_
          refine r_iload_n dX9_set_60 rfl ?_
          refine r_callV (As := [.int (nI ((5 + k0))), .int (p1)]) dX9_set_61 (tX9_changed (sv := 0) hD hsn (by omega)) rfl RM_0 rfl rfl oX9_changed rfl kX9_114M nX9_changed eX9_changed (by unfold fRoom; decide) (Nat.le_of_ble_eq_true rfl) rfl (bc' := 0) (bs' := 0) rfl rfl ?_
          show fR _ _ _ 64 _ (.int ((g) ((5 + k0))) :: _) _ _ _ _
          refine r_goto (tgt := 68) dX9_set_64 (by decide) ?_
          exact fR_iret dX9_set_68 rfl (rPost_of (t := 0) (kp := kp) (by unfold oSet; (first | simp only [ck0, ck1, ck2] | simp only [ck0, ck1] | simp only [ck0, ck2] | simp only [ck1, ck2] | simp only [ck0] | simp only [ck1] | simp only [ck2] | skip); (repeat (first | rw [if_pos (by first | assumption | exact Int32.not_le.mp (by assumption) | exact Int32.not_lt.mp (by assumption) | omega)] | rw [if_neg (by first | assumption | exact Int32.not_lt.mpr (by assumption) | exact Int32.not_le.mpr (by assumption) | exact bne_of (by assumption) | exact not_not_intro (by assumption) | omega)])); first | done | rfl))
        · skip
          refine r_iconst (v := nI 2) dX9_set_45 (by decide) ?_
          refine r_goto (tgt := 50) dX9_set_46 (by decide) ?_
          refine r_callV (As := [.int (nI (2))]) dX9_set_50 (tX9_holds_f hD (by omega) (by omega)) rfl RM_0 rfl rfl oX9_holds rfl kX9_94M nX9_holds eX9_holds (by unfold fRoom; decide) (Nat.le_of_ble_eq_true rfl) rfl (bc' := 0) (bs' := 0) rfl rfl ?_
          show fR _ _ _ 53 _ (.int (bI (false)) :: _) _ _ _ _
          refine r_if_eqB (tgt := 67) dX9_set_53 (by decide) (fun c6 => ?_) (fun c6 => absurd c6 (by decide))
          refine r_iconst (v := nI 0) dX9_set_67 (by decide) ?_
          exact fR_iret dX9_set_68 rfl (rPost_of (t := 2) (kp := kp) (by unfold oSet; (first | simp only [ck0, ck1, ck2] | simp only [ck0, ck1] | simp only [ck0, ck2] | simp only [ck1, ck2] | simp only [ck0] | simp only [ck1] | simp only [ck2] | skip); (repeat (first | rw [if_pos (by first | assumption | exact Int32.not_le.mp (by assumption) | exact Int32.not_lt.mp (by assumption) | omega)] | rw [if_neg (by first | assumption | exact Int32.not_lt.mpr (by assumption) | exact Int32.not_le.mpr (by assumption) | exact bne_of (by assumption) | exact not_not_intro (by assumption) | omega)])); first | done | rfl))
      · skip
        refine r_bipush (v := nI 100) dX9_set_32 (by decide) ?_
        refine r_goto (tgt := 39) dX9_set_34 (by decide) ?_
        refine r_callS (As := [.int (p1), .int (nI (0)), .int (nI (100))]) dX9_set_39 tX9_in rfl oX9_in rfl kX9_23M sX9_in (by unfold fRoom; decide) (Nat.le_of_ble_eq_true rfl) rfl (bc' := 0) (bs' := 0) rfl rfl ?_
        show fR _ _ _ 42 _ (.int (bI (pIn (p1) (nI (0)) (nI (100)))) :: _) _ _ _ _
        refine r_if_neB (tgt := 49) dX9_set_42 (by decide) (fun c7 => ?_) (fun c7 => ?_)
        · skip
          refine r_iconst (v := nI 0) dX9_set_49 (by decide) ?_
          refine r_callV (As := [.int (nI (0))]) dX9_set_50 (tX9_holds_t hD) rfl RM_0 rfl rfl oX9_holds rfl kX9_94M nX9_holds eX9_holds (by unfold fRoom; decide) (Nat.le_of_ble_eq_true rfl) rfl (bc' := 0) (bs' := 0) rfl rfl ?_
          show fR _ _ _ 53 _ (.int (bI (true)) :: _) _ _ _ _
          refine r_if_eqB (tgt := 67) dX9_set_53 (by decide) (fun c8 => absurd c8 (by decide)) (fun c8 => ?_)
          refine r_aload_n dX9_set_56 rfl ?_
          refine r_iconst (v := nI 5) dX9_set_57 (by decide) ?_
          refine r_iload_n dX9_set_58 rfl ?_
          refine r_iaddN dX9_set_59 ?_
          refine r_iload_n dX9_set_60 rfl ?_
          refine r_callV (As := [.int (nI ((5 + k0))), .int (p1)]) dX9_set_61 (tX9_changed (sv := 0) hD hsn (by omega)) rfl RM_0 rfl rfl oX9_changed rfl kX9_114M nX9_changed eX9_changed (by unfold fRoom; decide) (Nat.le_of_ble_eq_true rfl) rfl (bc' := 0) (bs' := 0) rfl rfl ?_
          show fR _ _ _ 64 _ (.int ((g) ((5 + k0))) :: _) _ _ _ _
          refine r_goto (tgt := 68) dX9_set_64 (by decide) ?_
          exact fR_iret dX9_set_68 rfl (rPost_of (t := 0) (kp := kp) (by unfold oSet; (first | simp only [ck0, ck1, ck2] | simp only [ck0, ck1] | simp only [ck0, ck2] | simp only [ck1, ck2] | simp only [ck0] | simp only [ck1] | simp only [ck2] | skip); (repeat (first | rw [if_pos (by first | assumption | exact Int32.not_le.mp (by assumption) | exact Int32.not_lt.mp (by assumption) | omega)] | rw [if_neg (by first | assumption | exact Int32.not_lt.mpr (by assumption) | exact Int32.not_le.mpr (by assumption) | exact bne_of (by assumption) | exact not_not_intro (by assumption) | omega)])); first | done | rfl))
        · skip
          refine r_iconst (v := nI 2) dX9_set_45 (by decide) ?_
          refine r_goto (tgt := 50) dX9_set_46 (by decide) ?_
          refine r_callV (As := [.int (nI (2))]) dX9_set_50 (tX9_holds_f hD (by omega) (by omega)) rfl RM_0 rfl rfl oX9_holds rfl kX9_94M nX9_holds eX9_holds (by unfold fRoom; decide) (Nat.le_of_ble_eq_true rfl) rfl (bc' := 0) (bs' := 0) rfl rfl ?_
          show fR _ _ _ 53 _ (.int (bI (false)) :: _) _ _ _ _
          refine r_if_eqB (tgt := 67) dX9_set_53 (by decide) (fun c9 => ?_) (fun c9 => absurd c9 (by decide))
          refine r_iconst (v := nI 0) dX9_set_67 (by decide) ?_
          exact fR_iret dX9_set_68 rfl (rPost_of (t := 2) (kp := kp) (by unfold oSet; (first | simp only [ck0, ck1, ck2] | simp only [ck0, ck1] | simp only [ck0, ck2] | simp only [ck1, ck2] | simp only [ck0] | simp only [ck1] | simp only [ck2] | skip); (repeat (first | rw [if_pos (by first | assumption | exact Int32.not_le.mp (by assumption) | exact Int32.not_lt.mp (by assumption) | omega)] | rw [if_neg (by first | assumption | exact Int32.not_lt.mpr (by assumption) | exact Int32.not_le.mpr (by assumption) | exact bne_of (by assumption) | exact not_not_intro (by assumption) | omega)])); first | done | rfl))
    · skip
      refine r_bipush (v := nI 50) dX9_set_22 (by decide) ?_
      refine r_goto (tgt := 39) dX9_set_24 (by decide) ?_
      refine r_callS (As := [.int (p1), .int (nI (0)), .int (nI (50))]) dX9_set_39 tX9_in rfl oX9_in rfl kX9_23M sX9_in (by unfold fRoom; decide) (Nat.le_of_ble_eq_true rfl) rfl (bc' := 0) (bs' := 0) rfl rfl ?_
      show fR _ _ _ 42 _ (.int (bI (pIn (p1) (nI (0)) (nI (50)))) :: _) _ _ _ _
      refine r_if_neB (tgt := 49) dX9_set_42 (by decide) (fun c10 => ?_) (fun c10 => ?_)
      · skip
        refine r_iconst (v := nI 0) dX9_set_49 (by decide) ?_
        refine r_callV (As := [.int (nI (0))]) dX9_set_50 (tX9_holds_t hD) rfl RM_0 rfl rfl oX9_holds rfl kX9_94M nX9_holds eX9_holds (by unfold fRoom; decide) (Nat.le_of_ble_eq_true rfl) rfl (bc' := 0) (bs' := 0) rfl rfl ?_
        show fR _ _ _ 53 _ (.int (bI (true)) :: _) _ _ _ _
        refine r_if_eqB (tgt := 67) dX9_set_53 (by decide) (fun c11 => absurd c11 (by decide)) (fun c11 => ?_)
        refine r_aload_n dX9_set_56 rfl ?_
        refine r_iconst (v := nI 5) dX9_set_57 (by decide) ?_
        refine r_iload_n dX9_set_58 rfl ?_
        refine r_iaddN dX9_set_59 ?_
        refine r_iload_n dX9_set_60 rfl ?_
        refine r_callV (As := [.int (nI ((5 + k0))), .int (p1)]) dX9_set_61 (tX9_changed (sv := 0) hD hsn (by omega)) rfl RM_0 rfl rfl oX9_changed rfl kX9_114M nX9_changed eX9_changed (by unfold fRoom; decide) (Nat.le_of_ble_eq_true rfl) rfl (bc' := 0) (bs' := 0) rfl rfl ?_
        show fR _ _ _ 64 _ (.int ((g) ((5 + k0))) :: _) _ _ _ _
        refine r_goto (tgt := 68) dX9_set_64 (by decide) ?_
        exact fR_iret dX9_set_68 rfl (rPost_of (t := 0) (kp := kp) (by unfold oSet; (first | simp only [ck0, ck1, ck2] | simp only [ck0, ck1] | simp only [ck0, ck2] | simp only [ck1, ck2] | simp only [ck0] | simp only [ck1] | simp only [ck2] | skip); (repeat (first | rw [if_pos (by first | assumption | exact Int32.not_le.mp (by assumption) | exact Int32.not_lt.mp (by assumption) | omega)] | rw [if_neg (by first | assumption | exact Int32.not_lt.mpr (by assumption) | exact Int32.not_le.mpr (by assumption) | exact bne_of (by assumption) | exact not_not_intro (by assumption) | omega)])); first | done | rfl))
      · skip
        refine r_iconst (v := nI 2) dX9_set_45 (by decide) ?_
        refine r_goto (tgt := 50) dX9_set_46 (by decide) ?_
        refine r_callV (As := [.int (nI (2))]) dX9_set_50 (tX9_holds_f hD (by omega) (by omega)) rfl RM_0 rfl rfl oX9_holds rfl kX9_94M nX9_holds eX9_holds (by unfold fRoom; decide) (Nat.le_of_ble_eq_true rfl) rfl (bc' := 0) (bs' := 0) rfl rfl ?_
        show fR _ _ _ 53 _ (.int (bI (false)) :: _) _ _ _ _
        refine r_if_eqB (tgt := 67) dX9_set_53 (by decide) (fun c12 => ?_) (fun c12 => absurd c12 (by decide))
        refine r_iconst (v := nI 0) dX9_set_67 (by decide) ?_
        exact fR_iret dX9_set_68 rfl (rPost_of (t := 2) (kp := kp) (by unfold oSet; (first | simp only [ck0, ck1, ck2] | simp only [ck0, ck1] | simp only [ck0, ck2] | simp only [ck1, ck2] | simp only [ck0] | simp only [ck1] | simp only [ck2] | skip); (repeat (first | rw [if_pos (by first | assumption | exact Int32.not_le.mp (by assumption) | exact Int32.not_lt.mp (by assumption) | omega)] | rw [if_neg (by first | assumption | exact Int32.not_lt.mpr (by assumption) | exact Int32.not_le.mpr (by assumption) | exact bne_of (by assumption) | exact not_not_intro (by assumption) | omega)])); first | done | rfl))
  · skip
    refine r_iconst (v := nI 1) dX9_set_12 (by decide) ?_
    refine r_goto (tgt := 50) dX9_set_13 (by decide) ?_
    refine r_callV (As := [.int (nI (1))]) dX9_set_50 (tX9_holds_f hD (by omega) (by omega)) rfl RM_0 rfl rfl oX9_holds rfl kX9_94M nX9_holds eX9_holds (by unfold fRoom; decide) (Nat.le_of_ble_eq_true rfl) rfl (bc' := 0) (bs' := 0) rfl rfl ?_
    show fR _ _ _ 53 _ (.int (bI (false)) :: _) _ _ _ _
    refine r_if_eqB (tgt := 67) dX9_set_53 (by decide) (fun c13 => ?_) (fun c13 => absurd c13 (by decide))
    refine r_iconst (v := nI 0) dX9_set_67 (by decide) ?_
    exact fR_iret dX9_set_68 rfl (rPost_of (t := 1) (kp := kp) (by unfold oSet; (first | simp only [ck0, ck1, ck2] | simp only [ck0, ck1] | simp only [ck0, ck2] | simp only [ck1, ck2] | simp only [ck0] | simp only [ck1] | simp only [ck2] | skip); (repeat (first | rw [if_pos (by first | assumption | exact Int32.not_le.mp (by assumption) | exact Int32.not_lt.mp (by assumption) | omega)] | rw [if_neg (by first | assumption | exact Int32.not_lt.mpr (by assumption) | exact Int32.not_le.mpr (by assumption) | exact bne_of (by assumption) | exact not_not_intro (by assumption) | omega)])); first | done | rfl))
