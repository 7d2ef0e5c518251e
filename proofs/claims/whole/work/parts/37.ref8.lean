theorem rPost_isI {M M' : Mem} {m sA tA nA t sn ln : Nat} {O : Oc} {v ap pt : Int32} {hs : Int64} {g tx nu : Nat → Int32} {kp : Bool} {o : Out} (h : O = (t, v, ⟨g, sn, kp, tx, ln⟩)) (hi : isI v (RM M m sA tA nA (nI t) (nI sn) (bI kp) (nI ln) ap pt hs g tx nu) o M') : rPost M m sA tA nA O o M' := by
  obtain ⟨rfl, rfl⟩ := hi
  exact rPost_of h
def pAgeG (f : Nat → Int32) (x : Int32) : Nat → Nat → Int32
  | 0 => f
  | d + 1 => upd (pAgeG f x d) (10 + 3 * d + 1) (if nI 999 < pAgeG f x d (10 + 3 * d + 1) + x then nI 999 else pAgeG f x d (10 + 3 * d + 1) + x)
def pAgeM (f : Nat → Int32) (x : Int32) : Nat → Int32
  | 0 => -1
  | d + 1 => if pAgeM f x d < pAgeG f x (d + 1) (10 + 3 * d + 1) then pAgeG f x (d + 1) (10 + 3 * d + 1) else pAgeM f x d
theorem pAgeG_ne {f : Nat → Int32} {x : Int32} {j : Nat} : ∀ d, (∀ i, i < d → j ≠ 10 + 3 * i + 1) → pAgeG f x d j = f j
  | 0, _ => rfl
  | d + 1, h => by
    show upd (pAgeG f x d) _ _ j = f j
    rw [pk_un (h d (by omega))]; exact pAgeG_ne d (fun i hi => h i (by omega))
theorem lX9_age {l : Launch} {κ : KP} {M : Mem} {m sA tA nA : Nat} {th sv kp ln ap pt : Int32} {hs : Int64} {g tx nu : Nat → Int32} (hD : rDis m sA tA nA) {dn : Nat} (hdn : dn ≤ 6) (hg0 : g 0 = nI dn) {x : Int32} : ∀ (N d : Nat), dn < N + d → d ≤ dn → fR l κ mX9_age 32 [(3, .int (nI (d))), (2, .int (pAgeM g x d)), (0, .ref (m)), (1, .int (x))] [] (RM M m sA tA nA (th) (sv) (kp) (ln) (ap) (pt) (hs) (pAgeG g x d) (tx) (nu)) 0 0 (isI (pAgeM g x dn) (RM M m sA tA nA (th) (sv) (kp) (ln) (ap) (pt) (hs) (pAgeG g x dn) (tx) (nu))) := by
  intro N
  induction N with
  | zero => intro d h1 h2; omega
  | succ N ih =>
    intro d h1 h2
    have h0s : pAgeG g x d 0 = nI dn := by rw [pAgeG_ne d (fun i _ => by omega)]; exact hg0
    refine r_iload_n dX9_age_32 rfl ?_
    refine r_aload_n dX9_age_33 rfl ?_
    refine r_get (k := 1) dX9_age_34 RM_0 rfl rfl (by decide) kX9_7F ?_
    refine r_iconst (v := nI 0) dX9_age_37 (by decide) ?_
    refine r_ialdN dX9_age_38 (RM_1 hD) (by omega) (by decide) rfl ?_
    refine r_top (y := (nI (dn))) h0s ?_
    refine r_icmp_geN (tgt := 108) dX9_age_39 (by decide) (by omega) (by omega) (fun c1 => ?_) (fun c1 => ?_)
    · skip
      have e : d = dn := by omega
      rw [e]
      refine r_iload_n dX9_age_108 rfl ?_
      exact fR_iret dX9_age_109 rfl (isI_of (by rfl))
    · skip
      refine r_aload_n dX9_age_42 rfl ?_
      refine r_iload_n dX9_age_43 rfl ?_
      refine r_iconst (v := nI 1) dX9_age_44 (by decide) ?_
      refine r_callV (As := [.int (nI (d)), .int (nI (1))]) dX9_age_45 (tX9_drumAt hD (by omega)) rfl RM_0 rfl rfl oX9_drumAt rfl kX9_62M nX9_drumAt eX9_drumAt (by unfold fRoom; decide) (Nat.le_of_ble_eq_true rfl) rfl (bc' := 0) (bs' := 0) rfl rfl ?_
      show fR _ _ _ 48 _ (.int ((pAgeG g x d) (10 + 3 * d + 1)) :: _) _ _ _ _
      refine r_iload_n dX9_age_48 rfl ?_
      refine r_iadd dX9_age_49 ?_
      refine r_istore (lv' := [(4, .int ((((pAgeG g x d) (10 + 3 * d + 1)) + (x)))), (3, .int (nI (d))), (2, .int (pAgeM g x d)), (0, .ref (m)), (1, .int (x))]) dX9_age_50 (by decide) rfl ?_
      refine r_aload_n dX9_age_52 rfl ?_
      refine r_get (k := 1) dX9_age_53 RM_0 rfl rfl (by decide) kX9_7F ?_
      refine r_bipush (v := nI 10) dX9_age_56 (by decide) ?_
      refine r_iconst (v := nI 3) dX9_age_58 (by decide) ?_
      refine r_iload_n dX9_age_59 rfl ?_
      refine r_imulN dX9_age_60 ?_
      refine r_iaddN dX9_age_61 ?_
      refine r_iconst (v := nI 1) dX9_age_62 (by decide) ?_
      refine r_iaddN dX9_age_63 ?_
      have hJ2 : fR l κ mX9_age 80 [(4, .int ((((pAgeG g x d) (10 + 3 * d + 1)) + (x)))), (3, .int (nI (d))), (2, .int (pAgeM g x d)), (0, .ref (m)), (1, .int (x))] [.int ((if nI 999 < pAgeG g x d (10 + 3 * d + 1) + x then nI 999 else pAgeG g x d (10 + 3 * d + 1) + x)), .int (nI (((10 + (3 * d)) + 1))), .ref (sA)] (RM M m sA tA nA (th) (sv) (kp) (ln) (ap) (pt) (hs) (pAgeG g x d) (tx) (nu)) 0 0 (isI (pAgeM g x dn) (RM M m sA tA nA (th) (sv) (kp) (ln) (ap) (pt) (hs) (pAgeG g x dn) (tx) (nu))) := by
        refine r_iastN dX9_age_80 (RM_1 hD) (by omega) (by decide) ?_
        refine r_mem (RM_s1 hD) ?_
        have hJ3 : fR l κ mX9_age 101 [(4, .int ((((pAgeG g x d) (10 + 3 * d + 1)) + (x)))), (3, .int (nI (d))), (2, .int (pAgeM g x d)), (0, .ref (m)), (1, .int (x))] [.int ((pAgeM g x (d + 1)))] (RM M m sA tA nA (th) (sv) (kp) (ln) (ap) (pt) (hs) (upd (pAgeG g x d) (((10 + (3 * d)) + 1)) ((if nI 999 < pAgeG g x d (10 + 3 * d + 1) + x then nI 999 else pAgeG g x d (10 + 3 * d + 1) + x))) (tx) (nu)) 0 0 (isI (pAgeM g x dn) (RM M m sA tA nA (th) (sv) (kp) (ln) (ap) (pt) (hs) (pAgeG g x dn) (tx) (nu))) := by
          refine r_istore_n (lv' := [(2, .int ((pAgeM g x (d + 1)))), (4, .int ((((pAgeG g x d) (10 + 3 * d + 1)) + (x)))), (3, .int (nI (d))), (0, .ref (m)), (1, .int (x))]) dX9_age_101 (by decide) rfl ?_
          refine r_iinc (v := (nI (d + 1))) (lv' := [(3, .int (nI (d + 1))), (2, .int ((pAgeM g x (d + 1)))), (4, .int ((((pAgeG g x d) (10 + 3 * d + 1)) + (x)))), (0, .ref (m)), (1, .int (x))]) dX9_age_102 rfl (nI_inc _) (by decide) rfl ?_
          refine r_goto (tgt := 32) dX9_age_105 (by decide) ?_
          refine r_lv (lv' := [(3, .int (nI (d + 1))), (2, .int ((pAgeM g x (d + 1)))), (0, .ref (m)), (1, .int (x))]) (by simp) ?_
          exact ih (d + 1) (by omega) (by omega)
        refine r_aload_n dX9_age_81 rfl ?_
        refine r_iload_n dX9_age_82 rfl ?_
        refine r_iconst (v := nI 1) dX9_age_83 (by decide) ?_
        refine r_callV (As := [.int (nI (d)), .int (nI (1))]) dX9_age_84 (tX9_drumAt hD (by omega)) rfl RM_0 rfl rfl oX9_drumAt rfl kX9_62M nX9_drumAt eX9_drumAt (by unfold fRoom; decide) (Nat.le_of_ble_eq_true rfl) rfl (bc' := 0) (bs' := 0) rfl rfl ?_
        show fR _ _ _ 87 _ (.int ((upd (pAgeG g x d) (((10 + (3 * d)) + 1)) ((if nI 999 < pAgeG g x d (10 + 3 * d + 1) + x then nI 999 else pAgeG g x d (10 + 3 * d + 1) + x))) (10 + 3 * d + 1)) :: _) _ _ _ _
        refine r_iload_n dX9_age_87 rfl ?_
        refine r_icmp_le (tgt := 100) dX9_age_88 (by decide) (fun c4 => ?_) (fun c4 => ?_)
        · skip
          refine r_iload_n dX9_age_100 rfl ?_
          exact r_top (by first | exact (if_pos (Int32.not_le.mp (by assumption))).symm | exact (if_neg (Int32.not_lt.mpr (by assumption))).symm) hJ3
        · skip
          refine r_aload_n dX9_age_91 rfl ?_
          refine r_iload_n dX9_age_92 rfl ?_
          refine r_iconst (v := nI 1) dX9_age_93 (by decide) ?_
          refine r_callV (As := [.int (nI (d)), .int (nI (1))]) dX9_age_94 (tX9_drumAt hD (by omega)) rfl RM_0 rfl rfl oX9_drumAt rfl kX9_62M nX9_drumAt eX9_drumAt (by unfold fRoom; decide) (Nat.le_of_ble_eq_true rfl) rfl (bc' := 0) (bs' := 0) rfl rfl ?_
          show fR _ _ _ 97 _ (.int ((upd (pAgeG g x d) (((10 + (3 * d)) + 1)) ((if nI 999 < pAgeG g x d (10 + 3 * d + 1) + x then nI 999 else pAgeG g x d (10 + 3 * d + 1) + x))) (10 + 3 * d + 1)) :: _) _ _ _ _
          refine r_goto (tgt := 101) dX9_age_97 (by decide) ?_
          exact r_top (by first | exact (if_pos (Int32.not_le.mp (by assumption))).symm | exact (if_neg (Int32.not_lt.mpr (by assumption))).symm) hJ3
      refine r_iload dX9_age_64 rfl ?_
      refine r_sipush (v := nI 999) dX9_age_66 (by decide) ?_
      refine r_icmp_le (tgt := 78) dX9_age_69 (by decide) (fun c5 => ?_) (fun c5 => ?_)
      · skip
        refine r_iload dX9_age_78 rfl ?_
        exact r_top (by (repeat (first | rw [if_pos (by first | assumption | exact Int32.not_le.mp (by assumption) | exact Int32.not_lt.mp (by assumption) | omega)] | rw [if_neg (by first | assumption | exact Int32.not_lt.mpr (by assumption) | exact Int32.not_le.mpr (by assumption) | exact bne_of (by assumption) | exact not_not_intro (by assumption) | omega)])); first | done | rfl) hJ2
      · skip
        refine r_sipush (v := nI 999) dX9_age_72 (by decide) ?_
        refine r_goto (tgt := 80) dX9_age_75 (by decide) ?_
        exact r_top (by (repeat (first | rw [if_pos (by first | assumption | exact Int32.not_le.mp (by assumption) | exact Int32.not_lt.mp (by assumption) | omega)] | rw [if_neg (by first | assumption | exact Int32.not_lt.mpr (by assumption) | exact Int32.not_le.mpr (by assumption) | exact bne_of (by assumption) | exact not_not_intro (by assumption) | omega)])); first | done | rfl) hJ2
def oAge (z : Zs) (dn n : Nat) (p0 : Int32) : Oc := if pIn p0 (nI 1) (nI 99) = true then (0, pAgeM (pSave z.1 z.2.1) (nI (cN p0)) dn, zsv z (fun g => pAgeG g (nI (cN p0)) dn)) else (1, 0, z)
theorem tX9_age_o {l : Launch} {κ : KP} {M : Mem} {m sA tA nA : Nat} {th ap pt : Int32} {hs : Int64} {g tx nu : Nat → Int32} {kp : Bool} {sn ln dn n : Nat} (hD : rDis m sA tA nA) (hI : BI g dn n) (hsn : sn ≤ 6) (hln : ln ≤ 60)  {p0 : Int32} : fM l κ mX9_age [.ref (m), .int (p0)] (RM M m sA tA nA (th) (nI (sn)) (bI (kp)) (nI (ln)) (ap) (pt) (hs) (g) (tx) (nu)) (rPost M m sA tA nA (oAge ⟨g, sn, kp, tx, ln⟩ dn n p0)) := by
  refine fM_of rfl (by decide +kernel) (Nat.le_of_ble_eq_true rfl) ?_
  have hn := hI.nle
  have hg := hI.n0
  have hdn := hI.dle
  have hg0 := hI.d0
  have hM := hI.mM
  have hB := hI.mB
  have h1 := hI.m1
  have hs0 := hI.s0
  show fR l κ mX9_age 0 [(0, .ref (m)), (1, .int (p0))] [] (RM M m sA tA nA (th) (nI (sn)) (bI (kp)) (nI (ln)) (ap) (pt) (hs) (g) (tx) (nu)) 0 0 _
  refine r_aload_n dX9_age_0 rfl ?_
  refine r_iload_n dX9_age_1 rfl ?_
  refine r_iconst (v := nI 1) dX9_age_2 (by decide) ?_
  refine r_bipush (v := nI 99) dX9_age_3 (by decide) ?_
  refine r_callS (As := [.int (p0), .int (nI (1)), .int (nI (99))]) dX9_age_5 tX9_in rfl oX9_in rfl kX9_23M sX9_in (by unfold fRoom; decide) (Nat.le_of_ble_eq_true rfl) rfl (bc' := 0) (bs' := 0) rfl rfl ?_
  show fR _ _ _ 8 _ (.int (bI (pIn (p0) (nI (1)) (nI (99)))) :: _) _ _ _ _
  refine r_if_eqB (tgt := 15) dX9_age_8 (by decide) (fun c1 => ?_) (fun c1 => ?_)
  · skip
    refine r_iconst (v := nI 1) dX9_age_15 (by decide) ?_
    refine r_callV (As := [.int (nI (1))]) dX9_age_16 (tX9_holds_f hD (by omega) (by omega)) rfl RM_0 rfl rfl oX9_holds rfl kX9_94M nX9_holds eX9_holds (by unfold fRoom; decide) (Nat.le_of_ble_eq_true rfl) rfl (bc' := 0) (bs' := 0) rfl rfl ?_
    show fR _ _ _ 19 _ (.int (bI (false)) :: _) _ _ _ _
    refine r_if_neB (tgt := 24) dX9_age_19 (by decide) (fun c2 => absurd c2 (by decide)) (fun c2 => ?_)
    refine r_iconst (v := nI 0) dX9_age_22 (by decide) ?_
    exact fR_iret dX9_age_23 rfl (rPost_of (t := 1) (kp := kp) (by unfold oAge; (try dsimp only); (first | simp only [ck0, ck1, ck2] | simp only [ck0, ck1] | simp only [ck0, ck2] | simp only [ck1, ck2] | simp only [ck0] | simp only [ck1] | simp only [ck2] | skip); (repeat (first | rw [if_pos (by first | assumption | exact Int32.not_le.mp (by assumption) | exact Int32.not_lt.mp (by assumption) | omega)] | rw [if_neg (by first | assumption | exact Int32.not_lt.mpr (by assumption) | exact Int32.not_le.mpr (by assumption) | exact bne_of (by assumption) | exact not_not_intro (by assumption) | omega)])); first | done | rfl))
  · skip
    obtain ⟨k0, hk01, hk0, ek0⟩ := pIn_nat3 (by omega) c1
    subst ek0
    have ck0 : cN (nI k0) = k0 := nI_clamp (by omega)
    refine r_iconst (v := nI 0) dX9_age_11 (by decide) ?_
    refine r_goto (tgt := 16) dX9_age_12 (by decide) ?_
    refine r_callV (As := [.int (nI (0))]) dX9_age_16 (tX9_holds_t hD) rfl RM_0 rfl rfl oX9_holds rfl kX9_94M nX9_holds eX9_holds (by unfold fRoom; decide) (Nat.le_of_ble_eq_true rfl) rfl (bc' := 0) (bs' := 0) rfl rfl ?_
    show fR _ _ _ 19 _ (.int (bI (true)) :: _) _ _ _ _
    refine r_if_neB (tgt := 24) dX9_age_19 (by decide) (fun c3 => ?_) (fun c3 => absurd c3 (by decide))
    refine r_aload_n dX9_age_24 rfl ?_
    refine r_callV (As := []) dX9_age_25 (tX9_save hD hsn) rfl RM_0 rfl rfl oX9_save rfl kX9_91M nX9_save eX9_save (by unfold fRoom; decide) (Nat.le_of_ble_eq_true rfl) rfl (bc' := 0) (bs' := 0) rfl rfl ?_
    show fR _ _ _ 28 _ _ _ _ _ _
    have hJ := hI
    have hI := hI.save sn
    have hn := hI.nle
    have hg := hI.n0
    have hdn := hI.dle
    have hg0 := hI.d0
    have hM := hI.mM
    have hB := hI.mB
    have h1 := hI.m1
    have hs0 := hI.s0
    refine r_iconst (v := (-1)) dX9_age_28 (by decide) ?_
    refine r_istore_n (lv' := [(2, .int (-1)), (0, .ref (m)), (1, .int (nI (k0)))]) dX9_age_29 (by decide) rfl ?_
    refine r_iconst (v := nI 0) dX9_age_30 (by decide) ?_
    refine r_istore_n (lv' := [(3, .int (nI (0))), (2, .int (-1)), (0, .ref (m)), (1, .int (nI (k0)))]) dX9_age_31 (by decide) rfl ?_
    refine fR.mono (lX9_age (g := pSave g sn) (x := nI k0) hD hdn hg0 (dn + 1) 0 (by omega) (by omega)) (fun o M' h => rPost_isI (t := 0) (kp := kp) ?_ h)
    unfold oAge; simp only [ck0]; (repeat (first | rw [if_pos (by first | assumption | exact Int32.not_le.mp (by assumption) | exact Int32.not_lt.mp (by assumption) | omega)] | rw [if_neg (by first | assumption | exact Int32.not_lt.mpr (by assumption) | exact Int32.not_le.mpr (by assumption) | exact bne_of (by assumption) | exact not_not_intro (by assumption) | omega)])); first | done | rfl
def pTossK (f : Nat → Int32) (a j : Nat) : Nat → Int32 := fun i => if 40 + a ≤ i ∧ i < 40 + j then f (i + 42) else f i
theorem pTossK_s {f : Nat → Int32} {a j : Nat} (h : a ≤ j) : upd (pTossK f a j) (40 + j) (pTossK f a j (40 + j + 42)) = pTossK f a (j + 1) := by
  funext i
  have h0 : pTossK f a j (40 + j + 42) = f (40 + j + 42) := by unfold pTossK; rw [if_neg (by omega)]
  rw [h0]
  unfold upd pTossK
  by_cases e : i = 40 + j
  · rw [if_pos e, if_pos (by omega), e]
  · rw [if_neg e]
    by_cases e2 : 40 + a ≤ i ∧ i < 40 + j
    · rw [if_pos e2, if_pos (by omega)]
    · rw [if_neg e2, if_neg (by omega)]
theorem pTossK_0 {f : Nat → Int32} {a : Nat} : pTossK f a a = f := by
  funext i; unfold pTossK; rw [if_neg (by omega)]
def pToss (g : Nat → Int32) (n k : Nat) : Nat → Int32 := pTossK (upd g 1 (nI (n - 1))) (42 * k) (42 * (n - 1))
theorem lX9_toss {l : Launch} {κ : KP} {M : Mem} {m sA tA nA : Nat} {th sv kp ln ap pt : Int32} {hs : Int64} {g tx nu : Nat → Int32} (hD : rDis m sA tA nA) {n a k : Nat} {had : Int32} (hn : n ≤ 8) (hg : g 1 = nI n) : ∀ (N j : Nat), 42 * n < N + j → a ≤ j → j ≤ 42 * n → fR l κ mX9_toss 48 [(3, .int (nI (j))), (2, .int (had)), (0, .ref (m)), (1, .int (nI (k)))] [] (RM M m sA tA nA (th) (sv) (kp) (ln) (ap) (pt) (hs) (pTossK g a j) (tx) (nu)) 0 0 (isI had (RM M m sA tA nA (th) (sv) (kp) (ln) (ap) (pt) (hs) (pTossK g a (42 * n)) (tx) (nu))) := by
  intro N
  induction N with
  | zero => intro j h1 h2; omega
  | succ N ih =>
    intro j h1 h2 h3
    have h1s : pTossK g a j 1 = nI n := by unfold pTossK; rw [if_neg (by omega)]; exact hg
    refine r_iload_n dX9_toss_48 rfl ?_
    refine r_bipush (v := nI 42) dX9_toss_49 (by decide) ?_
    refine r_aload_n dX9_toss_51 rfl ?_
    refine r_get (k := 1) dX9_toss_52 RM_0 rfl rfl (by decide) kX9_7F ?_
    refine r_iconst (v := nI 1) dX9_toss_55 (by decide) ?_
    refine r_ialdN dX9_toss_56 (RM_1 hD) (by omega) (by decide) rfl ?_
    refine r_top (y := (nI (n))) h1s ?_
    refine r_imulN dX9_toss_57 ?_
    refine r_icmp_geN (tgt := 88) dX9_toss_58 (by decide) (by omega) (by omega) (fun c1 => ?_) (fun c1 => ?_)
    · skip
      have e : j = 42 * n := by omega
      rw [e]
      refine r_iload_n dX9_toss_88 rfl ?_
      exact fR_iret dX9_toss_89 rfl (isI_of (by rfl))
    · skip
      refine r_aload_n dX9_toss_61 rfl ?_
      refine r_get (k := 1) dX9_toss_62 RM_0 rfl rfl (by decide) kX9_7F ?_
      refine r_bipush (v := nI 40) dX9_toss_65 (by decide) ?_
      refine r_iload_n dX9_toss_67 rfl ?_
      refine r_iaddN dX9_toss_68 ?_
      refine r_aload_n dX9_toss_69 rfl ?_
      refine r_get (k := 1) dX9_toss_70 RM_0 rfl rfl (by decide) kX9_7F ?_
      refine r_bipush (v := nI 40) dX9_toss_73 (by decide) ?_
      refine r_iload_n dX9_toss_75 rfl ?_
      refine r_iaddN dX9_toss_76 ?_
      refine r_bipush (v := nI 42) dX9_toss_77 (by decide) ?_
      refine r_iaddN dX9_toss_79 ?_
      refine r_ialdN dX9_toss_80 (RM_1 hD) (by omega) (by decide) rfl ?_
      refine r_iastN dX9_toss_81 (RM_1 hD) (by omega) (by decide) ?_
      refine r_mem (RM_s1 hD) ?_
      refine r_iinc (v := (nI (j + 1))) (lv' := [(3, .int (nI (j + 1))), (2, .int (had)), (0, .ref (m)), (1, .int (nI (k)))]) dX9_toss_82 rfl (nI_inc _) (by decide) rfl ?_
      refine r_goto (tgt := 48) dX9_toss_85 (by decide) ?_
      refine r_mem (congrArg (fun z => RM M m sA tA nA th sv kp ln ap pt hs z tx nu) (pTossK_s (by omega))) ?_
      exact ih (j + 1) (by omega) (by omega) (by omega)
def oToss (z : Zs) (dn n : Nat) (p0 : Int32) : Oc := if pNo p0 n = true then (0, pOf (pSave z.1 z.2.1) (cN p0) 5, zsv z (fun g => pToss g n (cN p0))) else (1, 0, z)
theorem tX9_toss_o {l : Launch} {κ : KP} {M : Mem} {m sA tA nA : Nat} {th ap pt : Int32} {hs : Int64} {g tx nu : Nat → Int32} {kp : Bool} {sn ln dn n : Nat} (hD : rDis m sA tA nA) (hI : BI g dn n) (hsn : sn ≤ 6) (hln : ln ≤ 60)  {p0 : Int32} : fM l κ mX9_toss [.ref (m), .int (p0)] (RM M m sA tA nA (th) (nI (sn)) (bI (kp)) (nI (ln)) (ap) (pt) (hs) (g) (tx) (nu)) (rPost M m sA tA nA (oToss ⟨g, sn, kp, tx, ln⟩ dn n p0)) := by
  refine fM_of rfl (by decide +kernel) (Nat.le_of_ble_eq_true rfl) ?_
  have hn := hI.nle
  have hg := hI.n0
  have hdn := hI.dle
  have hg0 := hI.d0
  have hM := hI.mM
  have hB := hI.mB
  have h1 := hI.m1
  have hs0 := hI.s0
  show fR l κ mX9_toss 0 [(0, .ref (m)), (1, .int (p0))] [] (RM M m sA tA nA (th) (nI (sn)) (bI (kp)) (nI (ln)) (ap) (pt) (hs) (g) (tx) (nu)) 0 0 _
  refine r_aload_n dX9_toss_0 rfl ?_
  refine r_aload_n dX9_toss_1 rfl ?_
  refine r_iload_n dX9_toss_2 rfl ?_
  refine r_callV (As := [.int (p0)]) dX9_toss_3 (tX9_isSample2 hD hg) rfl RM_0 rfl rfl oX9_isSample rfl kX9_104M nX9_isSample eX9_isSample (by unfold fRoom; decide) (Nat.le_of_ble_eq_true rfl) rfl (bc' := 0) (bs' := 0) rfl rfl ?_
  show fR _ _ _ 6 _ (.int (bI (pNo (p0) n)) :: _) _ _ _ _
  refine r_if_eqB (tgt := 13) dX9_toss_6 (by decide) (fun c1 => ?_) (fun c1 => ?_)
  · skip
    refine r_iconst (v := nI 1) dX9_toss_13 (by decide) ?_
    refine r_callV (As := [.int (nI (1))]) dX9_toss_14 (tX9_holds_f hD (by omega) (by omega)) rfl RM_0 rfl rfl oX9_holds rfl kX9_94M nX9_holds eX9_holds (by unfold fRoom; decide) (Nat.le_of_ble_eq_true rfl) rfl (bc' := 0) (bs' := 0) rfl rfl ?_
    show fR _ _ _ 17 _ (.int (bI (false)) :: _) _ _ _ _
    refine r_if_neB (tgt := 22) dX9_toss_17 (by decide) (fun c2 => absurd c2 (by decide)) (fun c2 => ?_)
    refine r_iconst (v := nI 0) dX9_toss_20 (by decide) ?_
    exact fR_iret dX9_toss_21 rfl (rPost_of (t := 1) (kp := kp) (by unfold oToss; (try dsimp only); (first | simp only [ck0, ck1, ck2] | simp only [ck0, ck1] | simp only [ck0, ck2] | simp only [ck1, ck2] | simp only [ck0] | simp only [ck1] | simp only [ck2] | skip); (repeat (first | rw [if_pos (by first | assumption | exact Int32.not_le.mp (by assumption) | exact Int32.not_lt.mp (by assumption) | omega)] | rw [if_neg (by first | assumption | exact Int32.not_lt.mpr (by assumption) | exact Int32.not_le.mpr (by assumption) | exact bne_of (by assumption) | exact not_not_intro (by assumption) | omega)])); first | done | rfl))
  · skip
    obtain ⟨k0, hk0, ek0⟩ := pNo_t c1 (by omega)
    subst ek0
    have ck0 : cN (nI k0) = k0 := nI_clamp (by omega)
    refine r_iconst (v := nI 0) dX9_toss_9 (by decide) ?_
    refine r_goto (tgt := 14) dX9_toss_10 (by decide) ?_
    refine r_callV (As := [.int (nI (0))]) dX9_toss_14 (tX9_holds_t hD) rfl RM_0 rfl rfl oX9_holds rfl kX9_94M nX9_holds eX9_holds (by unfold fRoom; decide) (Nat.le_of_ble_eq_true rfl) rfl (bc' := 0) (bs' := 0) rfl rfl ?_
    show fR _ _ _ 17 _ (.int (bI (true)) :: _) _ _ _ _
    refine r_if_neB (tgt := 22) dX9_toss_17 (by decide) (fun c3 => ?_) (fun c3 => absurd c3 (by decide))
    refine r_aload_n dX9_toss_22 rfl ?_
    refine r_callV (As := []) dX9_toss_23 (tX9_save hD hsn) rfl RM_0 rfl rfl oX9_save rfl kX9_91M nX9_save eX9_save (by unfold fRoom; decide) (Nat.le_of_ble_eq_true rfl) rfl (bc' := 0) (bs' := 0) rfl rfl ?_
    show fR _ _ _ 26 _ _ _ _ _ _
    have hJ := hI
    have hI := hI.save sn
    have hn := hI.nle
    have hg := hI.n0
    have hdn := hI.dle
    have hg0 := hI.d0
    have hM := hI.mM
    have hB := hI.mB
    have h1 := hI.m1
    have hs0 := hI.s0
    refine r_aload_n dX9_toss_26 rfl ?_
    refine r_iload_n dX9_toss_27 rfl ?_
    refine r_iconst (v := nI 5) dX9_toss_28 (by decide) ?_
    refine r_callV (As := [.int (nI (k0)), .int (nI (5))]) dX9_toss_29 (tX9_of hD (by omega)) rfl RM_0 rfl rfl oX9_of rfl kX9_31M nX9_of eX9_of (by unfold fRoom; decide) (Nat.le_of_ble_eq_true rfl) rfl (bc' := 0) (bs' := 0) rfl rfl ?_
    show fR _ _ _ 32 _ (.int (pOf (pSave (g) sn) (k0) (5)) :: _) _ _ _ _
    refine r_istore_n (lv' := [(2, .int (pOf (pSave (g) sn) (k0) (5))), (0, .ref (m)), (1, .int (nI (k0)))]) dX9_toss_32 (by decide) rfl ?_
    refine r_aload_n dX9_toss_33 rfl ?_
    refine r_get (k := 1) dX9_toss_34 RM_0 rfl rfl (by decide) kX9_7F ?_
    refine r_iconst (v := nI 1) dX9_toss_37 (by decide) ?_
    refine r_dup2 dX9_toss_38 rfl rfl ?_
    refine r_ialdN dX9_toss_39 (RM_1 hD) (by omega) (by decide) rfl ?_
    refine r_top (y := (nI (n))) hg ?_
    refine r_iconst (v := nI 1) dX9_toss_40 (by decide) ?_
    refine r_isubN dX9_toss_41 (by omega) ?_
    refine r_iastN dX9_toss_42 (RM_1 hD) (by omega) (by decide) ?_
    refine r_mem (RM_s1 hD) ?_
    refine r_bipush (v := nI 42) dX9_toss_43 (by decide) ?_
    refine r_iload_n dX9_toss_45 rfl ?_
    refine r_imulN dX9_toss_46 ?_
    refine r_istore_n (lv' := [(3, .int (nI ((42 * k0)))), (2, .int (pOf (pSave (g) sn) (k0) (5))), (0, .ref (m)), (1, .int (nI (k0)))]) dX9_toss_47 (by decide) rfl ?_
    have h := lX9_toss (l := l) (κ := κ) (M := M) (th := nI 0) (sv := nI (pUp sn)) (kp := bI kp) (ln := nI ln) (ap := ap) (pt := pt) (hs := hs) (g := upd (pSave g sn) 1 (nI (n - 1))) (tx := tx) (nu := nu) (n := n - 1) (a := 42 * k0) (k := k0) (had := pOf (pSave g sn) k0 5) hD (by omega) rfl (42 * (n - 1) + 1) (42 * k0) (by omega) (by omega) (by omega)
    rw [pTossK_0] at h
    refine fR.mono h (fun o M' h => rPost_isI (t := 0) (kp := kp) ?_ h)
    unfold oToss; simp only [ck0]; (repeat (first | rw [if_pos (by first | assumption | exact Int32.not_le.mp (by assumption) | exact Int32.not_lt.mp (by assumption) | omega)] | rw [if_neg (by first | assumption | exact Int32.not_lt.mpr (by assumption) | exact Int32.not_le.mpr (by assumption) | exact bne_of (by assumption) | exact not_not_intro (by assumption) | omega)])); first | done | rfl
def pSec (f : Nat → Int32) (nd k : Nat) (w dp : Int32) : Nat → Nat → Int32
  | 0, _ => -1
  | N + 1, s => if dp ≤ pDep f nd k w (nI s) then nI s else pSec f nd k w dp N (s + 1)
theorem lX9_secondsTo {l : Launch} {κ : KP} {M : Mem} {m sA tA nA : Nat} {th sv kp ln ap pt : Int32} {hs : Int64} {g tx nu : Nat → Int32} (hD : rDis m sA tA nA) {nd k v5 v6 : Nat} {w dp : Int32} (hk : k < 8) (hnd : nd < 3) (hh : ¬ pOf g k 1 + nI 1 = 0) : ∀ (N s : Nat), N + s = 61 → fR l κ mX9_secondsTo 84 [(7, .int (nI (s))), (0, .ref (m)), (1, .int (nI (nd))), (2, .int (nI (k))), (3, .int (w)), (4, .int (dp)), (5, .int (nI (v5))), (6, .int (nI (v6)))] [] (RM M m sA tA nA (th) (sv) (kp) (ln) (ap) (pt) (hs) (g) (tx) (nu)) 0 0 (isI (pSec g nd k w dp N s) (RM M m sA tA nA (th) (sv) (kp) (ln) (ap) (pt) (hs) (g) (tx) (nu))) := by
  intro N
  induction N with
  | zero =>
    intro s h1
    refine r_iload dX9_secondsTo_84 rfl ?_
    refine r_bipush (v := nI 60) dX9_secondsTo_86 (by decide) ?_
    refine r_icmp_gtN (tgt := 114) dX9_secondsTo_88 (by decide) (by omega) (by omega) (fun c1 => ?_) (fun c1 => ?_)
    · skip
      refine r_iconst (v := (-1)) dX9_secondsTo_114 (by decide) ?_
      exact fR_iret dX9_secondsTo_115 rfl (isI_of (by rfl))
    · skip
      exact absurd c1 (by omega)
  | succ N ih =>
    intro s h1
    refine r_iload dX9_secondsTo_84 rfl ?_
    refine r_bipush (v := nI 60) dX9_secondsTo_86 (by decide) ?_
    refine r_icmp_gtN (tgt := 114) dX9_secondsTo_88 (by decide) (by omega) (by omega) (fun c1 => ?_) (fun c1 => ?_)
    · skip
      exact absurd c1 (by omega)
    · skip
      refine r_aload_n dX9_secondsTo_91 rfl ?_
      refine r_iload_n dX9_secondsTo_92 rfl ?_
      refine r_iload_n dX9_secondsTo_93 rfl ?_
      refine r_iload_n dX9_secondsTo_94 rfl ?_
      refine r_iload dX9_secondsTo_95 rfl ?_
      refine r_callV (As := [.int (nI (nd)), .int (nI (k)), .int (w), .int (nI (s))]) dX9_secondsTo_97 (tX9_depth hD (by omega) (by omega) hh) rfl RM_0 rfl rfl oX9_depth rfl kX9_51M nX9_depth eX9_depth (by unfold fRoom; decide) (Nat.le_of_ble_eq_true rfl) rfl (bc' := 0) (bs' := 0) rfl rfl ?_
      show fR _ _ _ 100 _ (.int (pDep (g) (nd) (k) (w) (nI (s))) :: _) _ _ _ _
      refine r_iload dX9_secondsTo_100 rfl ?_
      refine r_icmp_lt (tgt := 108) dX9_secondsTo_102 (by decide) (fun c2 => ?_) (fun c2 => ?_)
      · skip
        refine r_iinc (v := (nI (s + 1))) (lv' := [(7, .int (nI (s + 1))), (0, .ref (m)), (1, .int (nI (nd))), (2, .int (nI (k))), (3, .int (w)), (4, .int (dp)), (5, .int (nI (v5))), (6, .int (nI (v6)))]) dX9_secondsTo_108 rfl (nI_inc _) (by decide) rfl ?_
        refine r_goto (tgt := 84) dX9_secondsTo_111 (by decide) ?_
        have := ih (s + 1) (by omega)
        rw [show pSec g nd k w dp (N + 1) s = pSec g nd k w dp N (s + 1) from if_neg (Int32.not_le.mpr (by assumption))]
        exact this
      · skip
        refine r_iload dX9_secondsTo_105 rfl ?_
        exact fR_iret dX9_secondsTo_107 rfl (isI_of (by exact (if_pos (Int32.not_lt.mp (by assumption))).symm))
def oSecondsTo (z : Zs) (dn n : Nat) (p0 : Int32) (p1 : Int32) (p2 : Int32) (p3 : Int32) : Oc := if pNo p0 3 = true then (if pNo p1 n = true then (if pIn p2 (nI 50) (nI 200) = true then (if pIn p3 (nI 1) (nI 400) = true then (0, pSec z.1 (cN p0) (cN p1) p2 p3 60 1, z) else (2, 0, z)) else (2, 0, z)) else (1, 0, z)) else (1, 0, z)
theorem tX9_secondsTo_o {l : Launch} {κ : KP} {M : Mem} {m sA tA nA : Nat} {th ap pt : Int32} {hs : Int64} {g tx nu : Nat → Int32} {kp : Bool} {sn ln dn n : Nat} (hD : rDis m sA tA nA) (hI : BI g dn n) (hsn : sn ≤ 6) (hln : ln ≤ 60)  {p0 : Int32} {p1 : Int32} {p2 : Int32} {p3 : Int32} : fM l κ mX9_secondsTo [.ref (m), .int (p0), .int (p1), .int (p2), .int (p3)] (RM M m sA tA nA (th) (nI (sn)) (bI (kp)) (nI (ln)) (ap) (pt) (hs) (g) (tx) (nu)) (rPost M m sA tA nA (oSecondsTo ⟨g, sn, kp, tx, ln⟩ dn n p0 p1 p2 p3)) := by
  refine fM_of rfl (by decide +kernel) (Nat.le_of_ble_eq_true rfl) ?_
  have hn := hI.nle
  have hg := hI.n0
  have hdn := hI.dle
  have hg0 := hI.d0
  have hM := hI.mM
  have hB := hI.mB
  have h1 := hI.m1
  have hs0 := hI.s0
  show fR l κ mX9_secondsTo 0 [(0, .ref (m)), (1, .int (p0)), (2, .int (p1)), (3, .int (p2)), (4, .int (p3))] [] (RM M m sA tA nA (th) (nI (sn)) (bI (kp)) (nI (ln)) (ap) (pt) (hs) (g) (tx) (nu)) 0 0 _
  refine r_iload_n dX9_secondsTo_0 rfl ?_
  refine r_callS (As := [.int (p0)]) dX9_secondsTo_1 tX9_isOne2 rfl oX9_isOne rfl kX9_107M sX9_isOne (by unfold fRoom; decide) (Nat.le_of_ble_eq_true rfl) rfl (bc' := 0) (bs' := 0) rfl rfl ?_
  show fR _ _ _ 4 _ (.int (bI (pNo (p0) 3)) :: _) _ _ _ _
  refine r_if_eqB (tgt := 19) dX9_secondsTo_4 (by decide) (fun c1 => ?_) (fun c1 => ?_)
  · skip
    refine r_iconst (v := nI 0) dX9_secondsTo_19 (by decide) ?_
    refine r_istore (lv' := [(5, .int (nI (0))), (0, .ref (m)), (1, .int (p0)), (2, .int (p1)), (3, .int (p2)), (4, .int (p3))]) dX9_secondsTo_20 (by decide) rfl ?_
    refine r_iload_n dX9_secondsTo_22 rfl ?_
    refine r_bipush (v := nI 50) dX9_secondsTo_23 (by decide) ?_
    refine r_sipush (v := nI 200) dX9_secondsTo_25 (by decide) ?_
    refine r_callS (As := [.int (p2), .int (nI (50)), .int (nI (200))]) dX9_secondsTo_28 tX9_in rfl oX9_in rfl kX9_23M sX9_in (by unfold fRoom; decide) (Nat.le_of_ble_eq_true rfl) rfl (bc' := 0) (bs' := 0) rfl rfl ?_
    show fR _ _ _ 31 _ (.int (bI (pIn (p2) (nI (50)) (nI (200)))) :: _) _ _ _ _
    refine r_if_eqB (tgt := 50) dX9_secondsTo_31 (by decide) (fun c2 => ?_) (fun c2 => ?_)
    · skip
      refine r_iconst (v := nI 0) dX9_secondsTo_50 (by decide) ?_
      refine r_istore (lv' := [(6, .int (nI (0))), (5, .int (nI (0))), (0, .ref (m)), (1, .int (p0)), (2, .int (p1)), (3, .int (p2)), (4, .int (p3))]) dX9_secondsTo_51 (by decide) rfl ?_
      refine r_aload_n dX9_secondsTo_53 rfl ?_
      refine r_iload dX9_secondsTo_54 rfl ?_
      refine r_if_neN (tgt := 63) dX9_secondsTo_56 (by decide) (by omega) (fun c3 => absurd c3 (by omega)) (fun c3 => ?_)
      refine r_iconst (v := nI 1) dX9_secondsTo_59 (by decide) ?_
      refine r_goto (tgt := 73) dX9_secondsTo_60 (by decide) ?_
      refine r_callV (As := [.int (nI (1))]) dX9_secondsTo_73 (tX9_holds_f hD (by omega) (by omega)) rfl RM_0 rfl rfl oX9_holds rfl kX9_94M nX9_holds eX9_holds (by unfold fRoom; decide) (Nat.le_of_ble_eq_true rfl) rfl (bc' := 0) (bs' := 0) rfl rfl ?_
      show fR _ _ _ 76 _ (.int (bI (false)) :: _) _ _ _ _
      refine r_if_neB (tgt := 81) dX9_secondsTo_76 (by decide) (fun c4 => absurd c4 (by decide)) (fun c4 => ?_)
      refine r_iconst (v := nI 0) dX9_secondsTo_79 (by decide) ?_
      exact fR_iret dX9_secondsTo_80 rfl (rPost_of (t := 1) (kp := kp) (by unfold oSecondsTo; (try dsimp only); (first | simp only [ck0, ck1, ck2] | simp only [ck0, ck1] | simp only [ck0, ck2] | simp only [ck1, ck2] | simp only [ck0] | simp only [ck1] | simp only [ck2] | skip); (repeat (first | rw [if_pos (by first | assumption | exact Int32.not_le.mp (by assumption) | exact Int32.not_lt.mp (by assumption) | omega)] | rw [if_neg (by first | assumption | exact Int32.not_lt.mpr (by assumption) | exact Int32.not_le.mpr (by assumption) | exact bne_of (by assumption) | exact not_not_intro (by assumption) | omega)])); first | done | rfl))
    · skip
      refine r_iload dX9_secondsTo_34 rfl ?_
      refine r_iconst (v := nI 1) dX9_secondsTo_36 (by decide) ?_
      refine r_sipush (v := nI 400) dX9_secondsTo_37 (by decide) ?_
      refine r_callS (As := [.int (p3), .int (nI (1)), .int (nI (400))]) dX9_secondsTo_40 tX9_in rfl oX9_in rfl kX9_23M sX9_in (by unfold fRoom; decide) (Nat.le_of_ble_eq_true rfl) rfl (bc' := 0) (bs' := 0) rfl rfl ?_
      show fR _ _ _ 43 _ (.int (bI (pIn (p3) (nI (1)) (nI (400)))) :: _) _ _ _ _
      refine r_if_eqB (tgt := 50) dX9_secondsTo_43 (by decide) (fun c5 => ?_) (fun c5 => ?_)
      · skip
        refine r_iconst (v := nI 0) dX9_secondsTo_50 (by decide) ?_
        refine r_istore (lv' := [(6, .int (nI (0))), (5, .int (nI (0))), (0, .ref (m)), (1, .int (p0)), (2, .int (p1)), (3, .int (p2)), (4, .int (p3))]) dX9_secondsTo_51 (by decide) rfl ?_
        refine r_aload_n dX9_secondsTo_53 rfl ?_
        refine r_iload dX9_secondsTo_54 rfl ?_
        refine r_if_neN (tgt := 63) dX9_secondsTo_56 (by decide) (by omega) (fun c6 => absurd c6 (by omega)) (fun c6 => ?_)
        refine r_iconst (v := nI 1) dX9_secondsTo_59 (by decide) ?_
        refine r_goto (tgt := 73) dX9_secondsTo_60 (by decide) ?_
        refine r_callV (As := [.int (nI (1))]) dX9_secondsTo_73 (tX9_holds_f hD (by omega) (by omega)) rfl RM_0 rfl rfl oX9_holds rfl kX9_94M nX9_holds eX9_holds (by unfold fRoom; decide) (Nat.le_of_ble_eq_true rfl) rfl (bc' := 0) (bs' := 0) rfl rfl ?_
        show fR _ _ _ 76 _ (.int (bI (false)) :: _) _ _ _ _
        refine r_if_neB (tgt := 81) dX9_secondsTo_76 (by decide) (fun c7 => absurd c7 (by decide)) (fun c7 => ?_)
        refine r_iconst (v := nI 0) dX9_secondsTo_79 (by decide) ?_
        exact fR_iret dX9_secondsTo_80 rfl (rPost_of (t := 1) (kp := kp) (by unfold oSecondsTo; (try dsimp only); (first | simp only [ck0, ck1, ck2] | simp only [ck0, ck1] | simp only [ck0, ck2] | simp only [ck1, ck2] | simp only [ck0] | simp only [ck1] | simp only [ck2] | skip); (repeat (first | rw [if_pos (by first | assumption | exact Int32.not_le.mp (by assumption) | exact Int32.not_lt.mp (by assumption) | omega)] | rw [if_neg (by first | assumption | exact Int32.not_lt.mpr (by assumption) | exact Int32.not_le.mpr (by assumption) | exact bne_of (by assumption) | exact not_not_intro (by assumption) | omega)])); first | done | rfl))
      · skip
        refine r_iconst (v := nI 1) dX9_secondsTo_46 (by decide) ?_
        refine r_goto (tgt := 51) dX9_secondsTo_47 (by decide) ?_
        refine r_istore (lv' := [(6, .int (nI (1))), (5, .int (nI (0))), (0, .ref (m)), (1, .int (p0)), (2, .int (p1)), (3, .int (p2)), (4, .int (p3))]) dX9_secondsTo_51 (by decide) rfl ?_
        refine r_aload_n dX9_secondsTo_53 rfl ?_
        refine r_iload dX9_secondsTo_54 rfl ?_
        refine r_if_neN (tgt := 63) dX9_secondsTo_56 (by decide) (by omega) (fun c8 => absurd c8 (by omega)) (fun c8 => ?_)
        refine r_iconst (v := nI 1) dX9_secondsTo_59 (by decide) ?_
        refine r_goto (tgt := 73) dX9_secondsTo_60 (by decide) ?_
        refine r_callV (As := [.int (nI (1))]) dX9_secondsTo_73 (tX9_holds_f hD (by omega) (by omega)) rfl RM_0 rfl rfl oX9_holds rfl kX9_94M nX9_holds eX9_holds (by unfold fRoom; decide) (Nat.le_of_ble_eq_true rfl) rfl (bc' := 0) (bs' := 0) rfl rfl ?_
        show fR _ _ _ 76 _ (.int (bI (false)) :: _) _ _ _ _
        refine r_if_neB (tgt := 81) dX9_secondsTo_76 (by decide) (fun c9 => absurd c9 (by decide)) (fun c9 => ?_)
        refine r_iconst (v := nI 0) dX9_secondsTo_79 (by decide) ?_
        exact fR_iret dX9_secondsTo_80 rfl (rPost_of (t := 1) (kp := kp) (by unfold oSecondsTo; (try dsimp only); (first | simp only [ck0, ck1, ck2] | simp only [ck0, ck1] | simp only [ck0, ck2] | simp only [ck1, ck2] | simp only [ck0] | simp only [ck1] | simp only [ck2] | skip); (repeat (first | rw [if_pos (by first | assumption | exact Int32.not_le.mp (by assumption) | exact Int32.not_lt.mp (by assumption) | omega)] | rw [if_neg (by first | assumption | exact Int32.not_lt.mpr (by assumption) | exact Int32.not_le.mpr (by assumption) | exact bne_of (by assumption) | exact not_not_intro (by assumption) | omega)])); first | done | rfl))
  · skip
    obtain ⟨k0, hk0, ek0⟩ := pNo_t c1 (by omega)
    subst ek0
    have ck0 : cN (nI k0) = k0 := nI_clamp (by omega)
    refine r_aload_n dX9_secondsTo_7 rfl ?_
    refine r_iload_n dX9_secondsTo_8 rfl ?_
    refine r_callV (As := [.int (p1)]) dX9_secondsTo_9 (tX9_isSample2 hD hg) rfl RM_0 rfl rfl oX9_isSample rfl kX9_104M nX9_isSample eX9_isSample (by unfold fRoom; decide) (Nat.le_of_ble_eq_true rfl) rfl (bc' := 0) (bs' := 0) rfl rfl ?_
    show fR _ _ _ 12 _ (.int (bI (pNo (p1) n)) :: _) _ _ _ _
    refine r_if_eqB (tgt := 19) dX9_secondsTo_12 (by decide) (fun c10 => ?_) (fun c10 => ?_)
    · skip
      refine r_iconst (v := nI 0) dX9_secondsTo_19 (by decide) ?_
      refine r_istore (lv' := [(5, .int (nI (0))), (0, .ref (m)), (1, .int (nI (k0))), (2, .int (p1)), (3, .int (p2)), (4, .int (p3))]) dX9_secondsTo_20 (by decide) rfl ?_
      refine r_iload_n dX9_secondsTo_22 rfl ?_
      refine r_bipush (v := nI 50) dX9_secondsTo_23 (by decide) ?_
      refine r_sipush (v := nI 200) dX9_secondsTo_25 (by decide) ?_
      refine r_callS (As := [.int (p2), .int (nI (50)), .int (nI (200))]) dX9_secondsTo_28 tX9_in rfl oX9_in rfl kX9_23M sX9_in (by unfold fRoom; decide) (Nat.le_of_ble_eq_true rfl) rfl (bc' := 0) (bs' := 0) rfl rfl ?_
      show fR _ _ _ 31 _ (.int (bI (pIn (p2) (nI (50)) (nI (200)))) :: _) _ _ _ _
      refine r_if_eqB (tgt := 50) dX9_secondsTo_31 (by decide) (fun c11 => ?_) (fun c11 => ?_)
      · skip
        refine r_iconst (v := nI 0) dX9_secondsTo_50 (by decide) ?_
        refine r_istore (lv' := [(6, .int (nI (0))), (5, .int (nI (0))), (0, .ref (m)), (1, .int (nI (k0))), (2, .int (p1)), (3, .int (p2)), (4, .int (p3))]) dX9_secondsTo_51 (by decide) rfl ?_
        refine r_aload_n dX9_secondsTo_53 rfl ?_
        refine r_iload dX9_secondsTo_54 rfl ?_
        refine r_if_neN (tgt := 63) dX9_secondsTo_56 (by decide) (by omega) (fun c12 => absurd c12 (by omega)) (fun c12 => ?_)
        refine r_iconst (v := nI 1) dX9_secondsTo_59 (by decide) ?_
        refine r_goto (tgt := 73) dX9_secondsTo_60 (by decide) ?_
        refine r_callV (As := [.int (nI (1))]) dX9_secondsTo_73 (tX9_holds_f hD (by omega) (by omega)) rfl RM_0 rfl rfl oX9_holds rfl kX9_94M nX9_holds eX9_holds (by unfold fRoom; decide) (Nat.le_of_ble_eq_true rfl) rfl (bc' := 0) (bs' := 0) rfl rfl ?_
        show fR _ _ _ 76 _ (.int (bI (false)) :: _) _ _ _ _
        refine r_if_neB (tgt := 81) dX9_secondsTo_76 (by decide) (fun c13 => absurd c13 (by decide)) (fun c13 => ?_)
        refine r_iconst (v := nI 0) dX9_secondsTo_79 (by decide) ?_
        exact fR_iret dX9_secondsTo_80 rfl (rPost_of (t := 1) (kp := kp) (by unfold oSecondsTo; (try dsimp only); (first | simp only [ck0, ck1, ck2] | simp only [ck0, ck1] | simp only [ck0, ck2] | simp only [ck1, ck2] | simp only [ck0] | simp only [ck1] | simp only [ck2] | skip); (repeat (first | rw [if_pos (by first | assumption | exact Int32.not_le.mp (by assumption) | exact Int32.not_lt.mp (by assumption) | omega)] | rw [if_neg (by first | assumption | exact Int32.not_lt.mpr (by assumption) | exact Int32.not_le.mpr (by assumption) | exact bne_of (by assumption) | exact not_not_intro (by assumption) | omega)])); first | done | rfl))
      · skip
        refine r_iload dX9_secondsTo_34 rfl ?_
        refine r_iconst (v := nI 1) dX9_secondsTo_36 (by decide) ?_
        refine r_sipush (v := nI 400) dX9_secondsTo_37 (by decide) ?_
        refine r_callS (As := [.int (p3), .int (nI (1)), .int (nI (400))]) dX9_secondsTo_40 tX9_in rfl oX9_in rfl kX9_23M sX9_in (by unfold fRoom; decide) (Nat.le_of_ble_eq_true rfl) rfl (bc' := 0) (bs' := 0) rfl rfl ?_
        show fR _ _ _ 43 _ (.int (bI (pIn (p3) (nI (1)) (nI (400)))) :: _) _ _ _ _
        refine r_if_eqB (tgt := 50) dX9_secondsTo_43 (by decide) (fun c14 => ?_) (fun c14 => ?_)
        · skip
          refine r_iconst (v := nI 0) dX9_secondsTo_50 (by decide) ?_
          refine r_istore (lv' := [(6, .int (nI (0))), (5, .int (nI (0))), (0, .ref (m)), (1, .int (nI (k0))), (2, .int (p1)), (3, .int (p2)), (4, .int (p3))]) dX9_secondsTo_51 (by decide) rfl ?_
          refine r_aload_n dX9_secondsTo_53 rfl ?_
          refine r_iload dX9_secondsTo_54 rfl ?_
          refine r_if_neN (tgt := 63) dX9_secondsTo_56 (by decide) (by omega) (fun c15 => absurd c15 (by omega)) (fun c15 => ?_)
          refine r_iconst (v := nI 1) dX9_secondsTo_59 (by decide) ?_
          refine r_goto (tgt := 73) dX9_secondsTo_60 (by decide) ?_
          refine r_callV (As := [.int (nI (1))]) dX9_secondsTo_73 (tX9_holds_f hD (by omega) (by omega)) rfl RM_0 rfl rfl oX9_holds rfl kX9_94M nX9_holds eX9_holds (by unfold fRoom; decide) (Nat.le_of_ble_eq_true rfl) rfl (bc' := 0) (bs' := 0) rfl rfl ?_
          show fR _ _ _ 76 _ (.int (bI (false)) :: _) _ _ _ _
          refine r_if_neB (tgt := 81) dX9_secondsTo_76 (by decide) (fun c16 => absurd c16 (by decide)) (fun c16 => ?_)
          refine r_iconst (v := nI 0) dX9_secondsTo_79 (by decide) ?_
          exact fR_iret dX9_secondsTo_80 rfl (rPost_of (t := 1) (kp := kp) (by unfold oSecondsTo; (try dsimp only); (first | simp only [ck0, ck1, ck2] | simp only [ck0, ck1] | simp only [ck0, ck2] | simp only [ck1, ck2] | simp only [ck0] | simp only [ck1] | simp only [ck2] | skip); (repeat (first | rw [if_pos (by first | assumption | exact Int32.not_le.mp (by assumption) | exact Int32.not_lt.mp (by assumption) | omega)] | rw [if_neg (by first | assumption | exact Int32.not_lt.mpr (by assumption) | exact Int32.not_le.mpr (by assumption) | exact bne_of (by assumption) | exact not_not_intro (by assumption) | omega)])); first | done | rfl))
        · skip
          refine r_iconst (v := nI 1) dX9_secondsTo_46 (by decide) ?_
          refine r_goto (tgt := 51) dX9_secondsTo_47 (by decide) ?_
          refine r_istore (lv' := [(6, .int (nI (1))), (5, .int (nI (0))), (0, .ref (m)), (1, .int (nI (k0))), (2, .int (p1)), (3, .int (p2)), (4, .int (p3))]) dX9_secondsTo_51 (by decide) rfl ?_
          refine r_aload_n dX9_secondsTo_53 rfl ?_
          refine r_iload dX9_secondsTo_54 rfl ?_
          refine r_if_neN (tgt := 63) dX9_secondsTo_56 (by decide) (by omega) (fun c17 => absurd c17 (by omega)) (fun c17 => ?_)
          refine r_iconst (v := nI 1) dX9_secondsTo_59 (by decide) ?_
          refine r_goto (tgt := 73) dX9_secondsTo_60 (by decide) ?_
          refine r_callV (As := [.int (nI (1))]) dX9_secondsTo_73 (tX9_holds_f hD (by omega) (by omega)) rfl RM_0 rfl rfl oX9_holds rfl kX9_94M nX9_holds eX9_holds (by unfold fRoom; decide) (Nat.le_of_ble_eq_true rfl) rfl (bc' := 0) (bs' := 0) rfl rfl ?_
          show fR _ _ _ 76 _ (.int (bI (false)) :: _) _ _ _ _
          refine r_if_neB (tgt := 81) dX9_secondsTo_76 (by decide) (fun c18 => absurd c18 (by decide)) (fun c18 => ?_)
          refine r_iconst (v := nI 0) dX9_secondsTo_79 (by decide) ?_
          exact fR_iret dX9_secondsTo_80 rfl (rPost_of (t := 1) (kp := kp) (by unfold oSecondsTo; (try dsimp only); (first | simp only [ck0, ck1, ck2] | simp only [ck0, ck1] | simp only [ck0, ck2] | simp only [ck1, ck2] | simp only [ck0] | simp only [ck1] | simp only [ck2] | skip); (repeat (first | rw [if_pos (by first | assumption | exact Int32.not_le.mp (by assumption) | exact Int32.not_lt.mp (by assumption) | omega)] | rw [if_neg (by first | assumption | exact Int32.not_lt.mpr (by assumption) | exact Int32.not_le.mpr (by assumption) | exact bne_of (by assumption) | exact not_not_intro (by assumption) | omega)])); first | done | rfl))
    · skip
      obtain ⟨k1, hk1, ek1⟩ := pNo_t c10 (by omega)
      subst ek1
      have ck1 : cN (nI k1) = k1 := nI_clamp (by omega)
      refine r_iconst (v := nI 1) dX9_secondsTo_15 (by decide) ?_
      refine r_goto (tgt := 20) dX9_secondsTo_16 (by decide) ?_
      refine r_istore (lv' := [(5, .int (nI (1))), (0, .ref (m)), (1, .int (nI (k0))), (2, .int (nI (k1))), (3, .int (p2)), (4, .int (p3))]) dX9_secondsTo_20 (by decide) rfl ?_
      refine r_iload_n dX9_secondsTo_22 rfl ?_
      refine r_bipush (v := nI 50) dX9_secondsTo_23 (by decide) ?_
      refine r_sipush (v := nI 200) dX9_secondsTo_25 (by decide) ?_
      refine r_callS (As := [.int (p2), .int (nI (50)), .int (nI (200))]) dX9_secondsTo_28 tX9_in rfl oX9_in rfl kX9_23M sX9_in (by unfold fRoom; decide) (Nat.le_of_ble_eq_true rfl) rfl (bc' := 0) (bs' := 0) rfl rfl ?_
      show fR _ _ _ 31 _ (.int (bI (pIn (p2) (nI (50)) (nI (200)))) :: _) _ _ _ _
      refine r_if_eqB (tgt := 50) dX9_secondsTo_31 (by decide) (fun c19 => ?_) (fun c19 => ?_)
      · skip
        refine r_iconst (v := nI 0) dX9_secondsTo_50 (by decide) ?_
        refine r_istore (lv' := [(6, .int (nI (0))), (5, .int (nI (1))), (0, .ref (m)), (1, .int (nI (k0))), (2, .int (nI (k1))), (3, .int (p2)), (4, .int (p3))]) dX9_secondsTo_51 (by decide) rfl ?_
        refine r_aload_n dX9_secondsTo_53 rfl ?_
        refine r_iload dX9_secondsTo_54 rfl ?_
        refine r_if_neN (tgt := 63) dX9_secondsTo_56 (by decide) (by omega) (fun c20 => ?_) (fun c20 => absurd c20 (by omega))
        refine r_iload dX9_secondsTo_63 rfl ?_
        refine r_if_neN (tgt := 72) dX9_secondsTo_65 (by decide) (by omega) (fun c21 => absurd c21 (by omega)) (fun c21 => ?_)
        refine r_iconst (v := nI 2) dX9_secondsTo_68 (by decide) ?_
        refine r_goto (tgt := 73) dX9_secondsTo_69 (by decide) ?_
        refine r_callV (As := [.int (nI (2))]) dX9_secondsTo_73 (tX9_holds_f hD (by omega) (by omega)) rfl RM_0 rfl rfl oX9_holds rfl kX9_94M nX9_holds eX9_holds (by unfold fRoom; decide) (Nat.le_of_ble_eq_true rfl) rfl (bc' := 0) (bs' := 0) rfl rfl ?_
        show fR _ _ _ 76 _ (.int (bI (false)) :: _) _ _ _ _
        refine r_if_neB (tgt := 81) dX9_secondsTo_76 (by decide) (fun c22 => absurd c22 (by decide)) (fun c22 => ?_)
        refine r_iconst (v := nI 0) dX9_secondsTo_79 (by decide) ?_
        exact fR_iret dX9_secondsTo_80 rfl (rPost_of (t := 2) (kp := kp) (by unfold oSecondsTo; (try dsimp only); (first | simp only [ck0, ck1, ck2] | simp only [ck0, ck1] | simp only [ck0, ck2] | simp only [ck1, ck2] | simp only [ck0] | simp only [ck1] | simp only [ck2] | skip); (repeat (first | rw [if_pos (by first | assumption | exact Int32.not_le.mp (by assumption) | exact Int32.not_lt.mp (by assumption) | omega)] | rw [if_neg (by first | assumption | exact Int32.not_lt.mpr (by assumption) | exact Int32.not_le.mpr (by assumption) | exact bne_of (by assumption) | exact not_not_intro (by assumption) | omega)])); first | done | rfl))
      · skip
        refine r_iload dX9_secondsTo_34 rfl ?_
        refine r_iconst (v := nI 1) dX9_secondsTo_36 (by decide) ?_
        refine r_sipush (v := nI 400) dX9_secondsTo_37 (by decide) ?_
        refine r_callS (As := [.int (p3), .int (nI (1)), .int (nI (400))]) dX9_secondsTo_40 tX9_in rfl oX9_in rfl kX9_23M sX9_in (by unfold fRoom; decide) (Nat.le_of_ble_eq_true rfl) rfl (bc' := 0) (bs' := 0) rfl rfl ?_
        show fR _ _ _ 43 _ (.int (bI (pIn (p3) (nI (1)) (nI (400)))) :: _) _ _ _ _
        refine r_if_eqB (tgt := 50) dX9_secondsTo_43 (by decide) (fun c23 => ?_) (fun c23 => ?_)
        · skip
          refine r_iconst (v := nI 0) dX9_secondsTo_50 (by decide) ?_
          refine r_istore (lv' := [(6, .int (nI (0))), (5, .int (nI (1))), (0, .ref (m)), (1, .int (nI (k0))), (2, .int (nI (k1))), (3, .int (p2)), (4, .int (p3))]) dX9_secondsTo_51 (by decide) rfl ?_
          refine r_aload_n dX9_secondsTo_53 rfl ?_
          refine r_iload dX9_secondsTo_54 rfl ?_
          refine r_if_neN (tgt := 63) dX9_secondsTo_56 (by decide) (by omega) (fun c24 => ?_) (fun c24 => absurd c24 (by omega))
          refine r_iload dX9_secondsTo_63 rfl ?_
          refine r_if_neN (tgt := 72) dX9_secondsTo_65 (by decide) (by omega) (fun c25 => absurd c25 (by omega)) (fun c25 => ?_)
          refine r_iconst (v := nI 2) dX9_secondsTo_68 (by decide) ?_
          refine r_goto (tgt := 73) dX9_secondsTo_69 (by decide) ?_
          refine r_callV (As := [.int (nI (2))]) dX9_secondsTo_73 (tX9_holds_f hD (by omega) (by omega)) rfl RM_0 rfl rfl oX9_holds rfl kX9_94M nX9_holds eX9_holds (by unfold fRoom; decide) (Nat.le_of_ble_eq_true rfl) rfl (bc' := 0) (bs' := 0) rfl rfl ?_
          show fR _ _ _ 76 _ (.int (bI (false)) :: _) _ _ _ _
          refine r_if_neB (tgt := 81) dX9_secondsTo_76 (by decide) (fun c26 => absurd c26 (by decide)) (fun c26 => ?_)
          refine r_iconst (v := nI 0) dX9_secondsTo_79 (by decide) ?_
          exact fR_iret dX9_secondsTo_80 rfl (rPost_of (t := 2) (kp := kp) (by unfold oSecondsTo; (try dsimp only); (first | simp only [ck0, ck1, ck2] | simp only [ck0, ck1] | simp only [ck0, ck2] | simp only [ck1, ck2] | simp only [ck0] | simp only [ck1] | simp only [ck2] | skip); (repeat (first | rw [if_pos (by first | assumption | exact Int32.not_le.mp (by assumption) | exact Int32.not_lt.mp (by assumption) | omega)] | rw [if_neg (by first | assumption | exact Int32.not_lt.mpr (by assumption) | exact Int32.not_le.mpr (by assumption) | exact bne_of (by assumption) | exact not_not_intro (by assumption) | omega)])); first | done | rfl))
        · skip
          refine r_iconst (v := nI 1) dX9_secondsTo_46 (by decide) ?_
          refine r_goto (tgt := 51) dX9_secondsTo_47 (by decide) ?_
          refine r_istore (lv' := [(6, .int (nI (1))), (5, .int (nI (1))), (0, .ref (m)), (1, .int (nI (k0))), (2, .int (nI (k1))), (3, .int (p2)), (4, .int (p3))]) dX9_secondsTo_51 (by decide) rfl ?_
          refine r_aload_n dX9_secondsTo_53 rfl ?_
          refine r_iload dX9_secondsTo_54 rfl ?_
          refine r_if_neN (tgt := 63) dX9_secondsTo_56 (by decide) (by omega) (fun c27 => ?_) (fun c27 => absurd c27 (by omega))
          refine r_iload dX9_secondsTo_63 rfl ?_
          refine r_if_neN (tgt := 72) dX9_secondsTo_65 (by decide) (by omega) (fun c28 => ?_) (fun c28 => absurd c28 (by omega))
          refine r_iconst (v := nI 0) dX9_secondsTo_72 (by decide) ?_
          refine r_callV (As := [.int (nI (0))]) dX9_secondsTo_73 (tX9_holds_t hD) rfl RM_0 rfl rfl oX9_holds rfl kX9_94M nX9_holds eX9_holds (by unfold fRoom; decide) (Nat.le_of_ble_eq_true rfl) rfl (bc' := 0) (bs' := 0) rfl rfl ?_
          show fR _ _ _ 76 _ (.int (bI (true)) :: _) _ _ _ _
          refine r_if_neB (tgt := 81) dX9_secondsTo_76 (by decide) (fun c29 => ?_) (fun c29 => absurd c29 (by decide))
          refine r_iconst (v := nI 1) dX9_secondsTo_81 (by decide) ?_
          refine r_istore (lv' := [(7, .int (nI (1))), (6, .int (nI (1))), (5, .int (nI (1))), (0, .ref (m)), (1, .int (nI (k0))), (2, .int (nI (k1))), (3, .int (p2)), (4, .int (p3))]) dX9_secondsTo_82 (by decide) rfl ?_
          refine r_lv (lv' := [(7, .int (nI (1))), (0, .ref (m)), (1, .int (nI (k0))), (2, .int (nI (k1))), (3, .int (p2)), (4, .int (p3)), (5, .int (nI (1))), (6, .int (nI (1)))]) (by simp) ?_
          refine fR.mono (lX9_secondsTo (k := k1) hD (by omega) (by omega) (h1 _ (by omega)) 60 1 (by omega)) (fun o M' h => rPost_isI (t := 0) (kp := kp) ?_ h)
          unfold oSecondsTo; simp only [ck0, ck1]; (repeat (first | rw [if_pos (by first | assumption | exact Int32.not_le.mp (by assumption) | exact Int32.not_lt.mp (by assumption) | omega)] | rw [if_neg (by first | assumption | exact Int32.not_lt.mpr (by assumption) | exact Int32.not_le.mpr (by assumption) | exact bne_of (by assumption) | exact not_not_intro (by assumption) | omega)])); first | done | rfl
theorem i_nat {v : Int32} (h : ¬ v < 0) : ∃ k, k < 2 ^ 31 ∧ v = nI k := by
  refine ⟨v.toInt.toNat, ?_, ?_⟩
  · have := Int32.toInt_lt v; omega
  · have h2 : (0 : Int) ≤ v.toInt := by
      have := Int32.le_iff_toInt_le.mp (Int32.not_lt.mp h)
      exact this
    have h3 := Int32.toInt_lt v
    apply Int32.toInt_inj.mp
    rw [nI_toInt (by omega)]; omega
def oReading (z : Zs) (dn n : Nat) (p0 : Int32) (p1 : Int32) (p2 : Int32) : Oc := if pNo p0 n = true then (if p1 < 0 then (2, 0, z) else (if pIn p2 (nI 0) (nI 3) = true then (if cN p1 < pMany z.1 (cN p0) then (0, pOf z.1 (cN p0) (6 + 4 * cN p1 + cN p2), z) else (0, -1, z)) else (2, 0, z))) else (1, 0, z)
theorem tX9_reading_o {l : Launch} {κ : KP} {M : Mem} {m sA tA nA : Nat} {th ap pt : Int32} {hs : Int64} {g tx nu : Nat → Int32} {kp : Bool} {sn ln dn n : Nat} (hD : rDis m sA tA nA) (hI : BI g dn n) (hsn : sn ≤ 6) (hln : ln ≤ 60)  {p0 : Int32} {p1 : Int32} {p2 : Int32} : fM l κ mX9_reading [.ref (m), .int (p0), .int (p1), .int (p2)] (RM M m sA tA nA (th) (nI (sn)) (bI (kp)) (nI (ln)) (ap) (pt) (hs) (g) (tx) (nu)) (rPost M m sA tA nA (oReading ⟨g, sn, kp, tx, ln⟩ dn n p0 p1 p2)) := by
  refine fM_of rfl (by decide +kernel) (Nat.le_of_ble_eq_true rfl) ?_
  have hn := hI.nle
  have hg := hI.n0
  have hdn := hI.dle
  have hg0 := hI.d0
  have hM := hI.mM
  have hB := hI.mB
  have h1 := hI.m1
  have hs0 := hI.s0
  show fR l κ mX9_reading 0 [(0, .ref (m)), (1, .int (p0)), (2, .int (p1)), (3, .int (p2))] [] (RM M m sA tA nA (th) (nI (sn)) (bI (kp)) (nI (ln)) (ap) (pt) (hs) (g) (tx) (nu)) 0 0 _
  refine r_aload_n dX9_reading_0 rfl ?_
  refine r_aload_n dX9_reading_1 rfl ?_
  refine r_iload_n dX9_reading_2 rfl ?_
  refine r_callV (As := [.int (p0)]) dX9_reading_3 (tX9_isSample2 hD hg) rfl RM_0 rfl rfl oX9_isSample rfl kX9_104M nX9_isSample eX9_isSample (by unfold fRoom; decide) (Nat.le_of_ble_eq_true rfl) rfl (bc' := 0) (bs' := 0) rfl rfl ?_
  show fR _ _ _ 6 _ (.int (bI (pNo (p0) n)) :: _) _ _ _ _
  refine r_if_neB (tgt := 13) dX9_reading_6 (by decide) (fun c1 => ?_) (fun c1 => ?_)
  · skip
    obtain ⟨k0, hk0, ek0⟩ := pNo_t c1 (by omega)
    subst ek0
    have ck0 : cN (nI k0) = k0 := nI_clamp (by omega)
    refine r_iload_n dX9_reading_13 rfl ?_
    refine r_if_lt (tgt := 26) dX9_reading_14 (by decide) (fun c2 => ?_) (fun c2 => ?_)
    · skip
      refine r_iconst (v := nI 2) dX9_reading_26 (by decide) ?_
      refine r_goto (tgt := 31) dX9_reading_27 (by decide) ?_
      refine r_callV (As := [.int (nI (2))]) dX9_reading_31 (tX9_holds_f hD (by omega) (by omega)) rfl RM_0 rfl rfl oX9_holds rfl kX9_94M nX9_holds eX9_holds (by unfold fRoom; decide) (Nat.le_of_ble_eq_true rfl) rfl (bc' := 0) (bs' := 0) rfl rfl ?_
      show fR _ _ _ 34 _ (.int (bI (false)) :: _) _ _ _ _
      refine r_if_neB (tgt := 39) dX9_reading_34 (by decide) (fun c3 => absurd c3 (by decide)) (fun c3 => ?_)
      refine r_iconst (v := nI 0) dX9_reading_37 (by decide) ?_
      exact fR_iret dX9_reading_38 rfl (rPost_of (t := 2) (kp := kp) (by unfold oReading; (try dsimp only); (first | simp only [ck0, ck1, ck2] | simp only [ck0, ck1] | simp only [ck0, ck2] | simp only [ck1, ck2] | simp only [ck0] | simp only [ck1] | simp only [ck2] | skip); (repeat (first | rw [if_pos (by first | assumption | exact Int32.not_le.mp (by assumption) | exact Int32.not_lt.mp (by assumption) | omega)] | rw [if_neg (by first | assumption | exact Int32.not_lt.mpr (by assumption) | exact Int32.not_le.mpr (by assumption) | exact bne_of (by assumption) | exact not_not_intro (by assumption) | omega)])); first | done | rfl))
    · skip
      obtain ⟨k1, hk1, ek1⟩ := i_nat c2
      subst ek1
      have ck1 : cN (nI k1) = k1 := nI_clamp (by omega)
      have hm9 := (hM k0 (by omega)).2
      refine r_iload_n dX9_reading_17 rfl ?_
      refine r_iconst (v := nI 0) dX9_reading_18 (by decide) ?_
      refine r_iconst (v := nI 3) dX9_reading_19 (by decide) ?_
      refine r_callS (As := [.int (p2), .int (nI (0)), .int (nI (3))]) dX9_reading_20 tX9_in rfl oX9_in rfl kX9_23M sX9_in (by unfold fRoom; decide) (Nat.le_of_ble_eq_true rfl) rfl (bc' := 0) (bs' := 0) rfl rfl ?_
      show fR _ _ _ 23 _ (.int (bI (pIn (p2) (nI (0)) (nI (3)))) :: _) _ _ _ _
      refine r_if_neB (tgt := 30) dX9_reading_23 (by decide) (fun c4 => ?_) (fun c4 => ?_)
      · skip
        obtain ⟨k2, hk2, ek2⟩ := pIn_nat2 (by omega) c4
        subst ek2
        have ck2 : cN (nI k2) = k2 := nI_clamp (by omega)
        refine r_iconst (v := nI 0) dX9_reading_30 (by decide) ?_
        refine r_callV (As := [.int (nI (0))]) dX9_reading_31 (tX9_holds_t hD) rfl RM_0 rfl rfl oX9_holds rfl kX9_94M nX9_holds eX9_holds (by unfold fRoom; decide) (Nat.le_of_ble_eq_true rfl) rfl (bc' := 0) (bs' := 0) rfl rfl ?_
        show fR _ _ _ 34 _ (.int (bI (true)) :: _) _ _ _ _
        refine r_if_neB (tgt := 39) dX9_reading_34 (by decide) (fun c5 => ?_) (fun c5 => absurd c5 (by decide))
        refine r_iload_n dX9_reading_39 rfl ?_
        refine r_aload_n dX9_reading_40 rfl ?_
        refine r_iload_n dX9_reading_41 rfl ?_
        refine r_iconst (v := nI 5) dX9_reading_42 (by decide) ?_
        refine r_callV (As := [.int (nI (k0)), .int (nI (5))]) dX9_reading_43 (tX9_of hD (by omega)) rfl RM_0 rfl rfl oX9_of rfl kX9_31M nX9_of eX9_of (by unfold fRoom; decide) (Nat.le_of_ble_eq_true rfl) rfl (bc' := 0) (bs' := 0) rfl rfl ?_
        show fR _ _ _ 46 _ (.int (pOf (g) (k0) (5)) :: _) _ _ _ _
        refine r_top (y := (nI (pMany g k0))) (hM k0 (by omega)).1 ?_
        refine r_icmp_geN (tgt := 65) dX9_reading_46 (by decide) (by omega) (by omega) (fun c6 => ?_) (fun c6 => ?_)
        · skip
          refine r_iconst (v := (-1)) dX9_reading_65 (by decide) ?_
          exact fR_iret dX9_reading_66 rfl (rPost_of (t := 0) (kp := kp) (by unfold oReading; (try dsimp only); (first | simp only [ck0, ck1, ck2] | simp only [ck0, ck1] | simp only [ck0, ck2] | simp only [ck1, ck2] | simp only [ck0] | simp only [ck1] | simp only [ck2] | skip); (repeat (first | rw [if_pos (by first | assumption | exact Int32.not_le.mp (by assumption) | exact Int32.not_lt.mp (by assumption) | omega)] | rw [if_neg (by first | assumption | exact Int32.not_lt.mpr (by assumption) | exact Int32.not_le.mpr (by assumption) | exact bne_of (by assumption) | exact not_not_intro (by assumption) | omega)])); first | done | rfl))
        · skip
          refine r_aload_n dX9_reading_49 rfl ?_
          refine r_iload_n dX9_reading_50 rfl ?_
          refine r_bipush (v := nI 6) dX9_reading_51 (by decide) ?_
          refine r_iconst (v := nI 4) dX9_reading_53 (by decide) ?_
          refine r_iload_n dX9_reading_54 rfl ?_
          refine r_imulN dX9_reading_55 ?_
          refine r_iaddN dX9_reading_56 ?_
          refine r_iload_n dX9_reading_57 rfl ?_
          refine r_iaddN dX9_reading_58 ?_
          refine r_callV (As := [.int (nI (k0)), .int (nI (((6 + (4 * k1)) + k2)))]) dX9_reading_59 (tX9_of hD (by omega)) rfl RM_0 rfl rfl oX9_of rfl kX9_31M nX9_of eX9_of (by unfold fRoom; decide) (Nat.le_of_ble_eq_true rfl) rfl (bc' := 0) (bs' := 0) rfl rfl ?_
          show fR _ _ _ 62 _ (.int (pOf (g) (k0) (((6 + (4 * k1)) + k2))) :: _) _ _ _ _
          refine r_goto (tgt := 66) dX9_reading_62 (by decide) ?_
          exact fR_iret dX9_reading_66 rfl (rPost_of (t := 0) (kp := kp) (by unfold oReading; (try dsimp only); (first | simp only [ck0, ck1, ck2] | simp only [ck0, ck1] | simp only [ck0, ck2] | simp only [ck1, ck2] | simp only [ck0] | simp only [ck1] | simp only [ck2] | skip); (repeat (first | rw [if_pos (by first | assumption | exact Int32.not_le.mp (by assumption) | exact Int32.not_lt.mp (by assumption) | omega)] | rw [if_neg (by first | assumption | exact Int32.not_lt.mpr (by assumption) | exact Int32.not_le.mpr (by assumption) | exact bne_of (by assumption) | exact not_not_intro (by assumption) | omega)])); first | done | rfl))
      · skip
        refine r_iconst (v := nI 2) dX9_reading_26 (by decide) ?_
        refine r_goto (tgt := 31) dX9_reading_27 (by decide) ?_
        refine r_callV (As := [.int (nI (2))]) dX9_reading_31 (tX9_holds_f hD (by omega) (by omega)) rfl RM_0 rfl rfl oX9_holds rfl kX9_94M nX9_holds eX9_holds (by unfold fRoom; decide) (Nat.le_of_ble_eq_true rfl) rfl (bc' := 0) (bs' := 0) rfl rfl ?_
        show fR _ _ _ 34 _ (.int (bI (false)) :: _) _ _ _ _
        refine r_if_neB (tgt := 39) dX9_reading_34 (by decide) (fun c7 => absurd c7 (by decide)) (fun c7 => ?_)
        refine r_iconst (v := nI 0) dX9_reading_37 (by decide) ?_
        exact fR_iret dX9_reading_38 rfl (rPost_of (t := 2) (kp := kp) (by unfold oReading; (try dsimp only); (first | simp only [ck0, ck1, ck2] | simp only [ck0, ck1] | simp only [ck0, ck2] | simp only [ck1, ck2] | simp only [ck0] | simp only [ck1] | simp only [ck2] | skip); (repeat (first | rw [if_pos (by first | assumption | exact Int32.not_le.mp (by assumption) | exact Int32.not_lt.mp (by assumption) | omega)] | rw [if_neg (by first | assumption | exact Int32.not_lt.mpr (by assumption) | exact Int32.not_le.mpr (by assumption) | exact bne_of (by assumption) | exact not_not_intro (by assumption) | omega)])); first | done | rfl))
  · skip
    refine r_iconst (v := nI 1) dX9_reading_9 (by decide) ?_
    refine r_goto (tgt := 31) dX9_reading_10 (by decide) ?_
    refine r_callV (As := [.int (nI (1))]) dX9_reading_31 (tX9_holds_f hD (by omega) (by omega)) rfl RM_0 rfl rfl oX9_holds rfl kX9_94M nX9_holds eX9_holds (by unfold fRoom; decide) (Nat.le_of_ble_eq_true rfl) rfl (bc' := 0) (bs' := 0) rfl rfl ?_
    show fR _ _ _ 34 _ (.int (bI (false)) :: _) _ _ _ _
    refine r_if_neB (tgt := 39) dX9_reading_34 (by decide) (fun c8 => absurd c8 (by decide)) (fun c8 => ?_)
    refine r_iconst (v := nI 0) dX9_reading_37 (by decide) ?_
    exact fR_iret dX9_reading_38 rfl (rPost_of (t := 1) (kp := kp) (by unfold oReading; (try dsimp only); (first | simp only [ck0, ck1, ck2] | simp only [ck0, ck1] | simp only [ck0, ck2] | simp only [ck1, ck2] | simp only [ck0] | simp only [ck1] | simp only [ck2] | skip); (repeat (first | rw [if_pos (by first | assumption | exact Int32.not_le.mp (by assumption) | exact Int32.not_lt.mp (by assumption) | omega)] | rw [if_neg (by first | assumption | exact Int32.not_lt.mpr (by assumption) | exact Int32.not_le.mpr (by assumption) | exact bne_of (by assumption) | exact not_not_intro (by assumption) | omega)])); first | done | rfl))
def oUndo (z : Zs) (dn n : Nat)  : Oc := if 0 < z.2.1 then (0, nI (z.2.1 - 1), ⟨pCp z.1 z.2.1 0, z.2.1 - 1, z.2.2.1, z.2.2.2.1, z.2.2.2.2⟩) else (1, 0, z)
theorem tX9_undo_o {l : Launch} {κ : KP} {M : Mem} {m sA tA nA : Nat} {th ap pt : Int32} {hs : Int64} {g tx nu : Nat → Int32} {kp : Bool} {sn ln dn n : Nat} (hD : rDis m sA tA nA) (hI : BI g dn n) (hsn : sn ≤ 6) (hln : ln ≤ 60)   : fM l κ mX9_undo [.ref (m)] (RM M m sA tA nA (th) (nI (sn)) (bI (kp)) (nI (ln)) (ap) (pt) (hs) (g) (tx) (nu)) (rPost M m sA tA nA (oUndo ⟨g, sn, kp, tx, ln⟩ dn n )) := by
  refine fM_of rfl (by decide +kernel) (Nat.le_of_ble_eq_true rfl) ?_
  have hn := hI.nle
  have hg := hI.n0
  have hdn := hI.dle
  have hg0 := hI.d0
  have hM := hI.mM
  have hB := hI.mB
  have h1 := hI.m1
  have hs0 := hI.s0
  show fR l κ mX9_undo 0 [(0, .ref (m))] [] (RM M m sA tA nA (th) (nI (sn)) (bI (kp)) (nI (ln)) (ap) (pt) (hs) (g) (tx) (nu)) 0 0 _
  refine r_aload_n dX9_undo_0 rfl ?_
  refine r_aload_n dX9_undo_1 rfl ?_
  refine r_get (k := 2) dX9_undo_2 RM_0 rfl rfl (by decide) kX9_84F ?_
  refine r_if_leN (tgt := 12) dX9_undo_5 (by decide) (by omega) (fun c1 => ?_) (fun c1 => ?_)
  · skip
    refine r_iconst (v := nI 1) dX9_undo_12 (by decide) ?_
    refine r_callV (As := [.int (nI (1))]) dX9_undo_13 (tX9_holds_f hD (by omega) (by omega)) rfl RM_0 rfl rfl oX9_holds rfl kX9_94M nX9_holds eX9_holds (by unfold fRoom; decide) (Nat.le_of_ble_eq_true rfl) rfl (bc' := 0) (bs' := 0) rfl rfl ?_
    show fR _ _ _ 16 _ (.int (bI (false)) :: _) _ _ _ _
    refine r_if_neB (tgt := 21) dX9_undo_16 (by decide) (fun c2 => absurd c2 (by decide)) (fun c2 => ?_)
    refine r_iconst (v := nI 0) dX9_undo_19 (by decide) ?_
    exact fR_iret dX9_undo_20 rfl (rPost_of (t := 1) (kp := kp) (by unfold oUndo; (try dsimp only); (first | simp only [ck0, ck1, ck2] | simp only [ck0, ck1] | simp only [ck0, ck2] | simp only [ck1, ck2] | simp only [ck0] | simp only [ck1] | simp only [ck2] | skip); (repeat (first | rw [if_pos (by first | assumption | exact Int32.not_le.mp (by assumption) | exact Int32.not_lt.mp (by assumption) | omega)] | rw [if_neg (by first | assumption | exact Int32.not_lt.mpr (by assumption) | exact Int32.not_le.mpr (by assumption) | exact bne_of (by assumption) | exact not_not_intro (by assumption) | omega)])); first | done | rfl))
  · skip
    refine r_iconst (v := nI 0) dX9_undo_8 (by decide) ?_
    refine r_goto (tgt := 13) dX9_undo_9 (by decide) ?_
    refine r_callV (As := [.int (nI (0))]) dX9_undo_13 (tX9_holds_t hD) rfl RM_0 rfl rfl oX9_holds rfl kX9_94M nX9_holds eX9_holds (by unfold fRoom; decide) (Nat.le_of_ble_eq_true rfl) rfl (bc' := 0) (bs' := 0) rfl rfl ?_
    show fR _ _ _ 16 _ (.int (bI (true)) :: _) _ _ _ _
    refine r_if_neB (tgt := 21) dX9_undo_16 (by decide) (fun c3 => ?_) (fun c3 => absurd c3 (by decide))
    refine r_aload_n dX9_undo_21 rfl ?_
    refine r_aload_n dX9_undo_22 rfl ?_
    refine r_get (k := 2) dX9_undo_23 RM_0 rfl rfl (by decide) kX9_84F ?_
    refine r_iconst (v := nI 0) dX9_undo_26 (by decide) ?_
    refine r_callV (As := [.int (nI (sn)), .int (nI (0))]) dX9_undo_27 (tX9_copies hD (by omega) (by omega) (by omega)) rfl RM_0 rfl rfl oX9_copies rfl kX9_87M nX9_copies eX9_copies (by unfold fRoom; decide) (Nat.le_of_ble_eq_true rfl) rfl (bc' := 0) (bs' := 0) rfl rfl ?_
    show fR _ _ _ 30 _ _ _ _ _ _
    refine r_aload_n dX9_undo_30 rfl ?_
    refine r_dup dX9_undo_31 rfl ?_
    refine r_get (k := 2) dX9_undo_32 RM_0 rfl rfl (by decide) kX9_84F ?_
    refine r_iconst (v := nI 1) dX9_undo_35 (by decide) ?_
    refine r_isubN dX9_undo_36 (by omega) ?_
    refine r_put (k := 2) (fs' := [.int (nI (0)), .ref (sA), .int (nI ((sn - 1))), .int (bI (kp)), .ref (tA), .int (nI (ln)), .int (ap), .int (pt), .ref (nA), .long (hs)]) dX9_undo_37 RM_0 rfl (by decide) kX9_84F rfl rfl rfl (Nat.le_of_ble_eq_true rfl) rfl ?_
    refine r_mem RM_put ?_
    refine r_aload_n dX9_undo_40 rfl ?_
    refine r_get (k := 2) dX9_undo_41 RM_0 rfl rfl (by decide) kX9_84F ?_
    exact fR_iret dX9_undo_44 rfl (rPost_of (t := 0) (kp := kp) (by unfold oUndo; (try dsimp only); (first | simp only [ck0, ck1, ck2] | simp only [ck0, ck1] | simp only [ck0, ck2] | simp only [ck1, ck2] | simp only [ck0] | simp only [ck1] | simp only [ck2] | skip); (repeat (first | rw [if_pos (by first | assumption | exact Int32.not_le.mp (by assumption) | exact Int32.not_lt.mp (by assumption) | omega)] | rw [if_neg (by first | assumption | exact Int32.not_lt.mpr (by assumption) | exact Int32.not_le.mpr (by assumption) | exact bne_of (by assumption) | exact not_not_intro (by assumption) | omega)])); first | done | rfl))
def oKeep (z : Zs) (dn n : Nat)  : Oc := (0, nI n, ⟨pCp z.1 0 7, z.2.1, true, z.2.2.2.1, z.2.2.2.2⟩)
theorem tX9_keep_o {l : Launch} {κ : KP} {M : Mem} {m sA tA nA : Nat} {th ap pt : Int32} {hs : Int64} {g tx nu : Nat → Int32} {kp : Bool} {sn ln dn n : Nat} (hD : rDis m sA tA nA) (hI : BI g dn n) (hsn : sn ≤ 6) (hln : ln ≤ 60)   : fM l κ mX9_keep [.ref (m)] (RM M m sA tA nA (th) (nI (sn)) (bI (kp)) (nI (ln)) (ap) (pt) (hs) (g) (tx) (nu)) (rPost M m sA tA nA (oKeep ⟨g, sn, kp, tx, ln⟩ dn n )) := by
  refine fM_of rfl (by decide +kernel) (Nat.le_of_ble_eq_true rfl) ?_
  have hn := hI.nle
  have hg := hI.n0
  have hdn := hI.dle
  have hg0 := hI.d0
  have hM := hI.mM
  have hB := hI.mB
  have h1 := hI.m1
  have hs0 := hI.s0
  show fR l κ mX9_keep 0 [(0, .ref (m))] [] (RM M m sA tA nA (th) (nI (sn)) (bI (kp)) (nI (ln)) (ap) (pt) (hs) (g) (tx) (nu)) 0 0 _
  refine r_aload_n dX9_keep_0 rfl ?_
  refine r_iconst (v := nI 0) dX9_keep_1 (by decide) ?_
  refine r_put (k := 0) (fs' := [.int (nI (0)), .ref (sA), .int (nI (sn)), .int (bI (kp)), .ref (tA), .int (nI (ln)), .int (ap), .int (pt), .ref (nA), .long (hs)]) dX9_keep_2 RM_0 rfl (by decide) kX9_19F rfl rfl rfl (Nat.le_of_ble_eq_true rfl) rfl ?_
  refine r_mem RM_put ?_
  refine r_aload_n dX9_keep_5 rfl ?_
  refine r_iconst (v := nI 0) dX9_keep_6 (by decide) ?_
  refine r_bipush (v := nI 7) dX9_keep_7 (by decide) ?_
  refine r_callV (As := [.int (nI (0)), .int (nI (7))]) dX9_keep_9 (tX9_copies hD (by omega) (by omega) (by omega)) rfl RM_0 rfl rfl oX9_copies rfl kX9_87M nX9_copies eX9_copies (by unfold fRoom; decide) (Nat.le_of_ble_eq_true rfl) rfl (bc' := 0) (bs' := 0) rfl rfl ?_
  show fR _ _ _ 12 _ _ _ _ _ _
  refine r_aload_n dX9_keep_12 rfl ?_
  refine r_iconst (v := nI 1) dX9_keep_13 (by decide) ?_
  refine r_put (k := 3) (fs' := [.int (nI (0)), .ref (sA), .int (nI (sn)), .int (nI (1)), .ref (tA), .int (nI (ln)), .int (ap), .int (pt), .ref (nA), .long (hs)]) dX9_keep_14 RM_0 rfl (by decide) kX9_173F rfl rfl rfl (Nat.le_of_ble_eq_true rfl) rfl ?_
  refine r_mem RM_put ?_
  refine r_aload_n dX9_keep_17 rfl ?_
  refine r_get (k := 1) dX9_keep_18 RM_0 rfl rfl (by decide) kX9_7F ?_
  refine r_iconst (v := nI 1) dX9_keep_21 (by decide) ?_
  refine r_ialdN dX9_keep_22 (RM_1 hD) (by omega) (by decide) rfl ?_
  refine r_top (y := (nI (n))) (by rw [pCp_lo (by omega) (by omega)]; exact hg) ?_
  exact fR_iret dX9_keep_23 rfl (rPost_of (t := 0) (kp := true) (by unfold oKeep; (try dsimp only); (first | simp only [ck0, ck1, ck2] | simp only [ck0, ck1] | simp only [ck0, ck2] | simp only [ck1, ck2] | simp only [ck0] | simp only [ck1] | simp only [ck2] | skip); (repeat (first | rw [if_pos (by first | assumption | exact Int32.not_le.mp (by assumption) | exact Int32.not_lt.mp (by assumption) | omega)] | rw [if_neg (by first | assumption | exact Int32.not_lt.mpr (by assumption) | exact Int32.not_le.mpr (by assumption) | exact bne_of (by assumption) | exact not_not_intro (by assumption) | omega)])); first | done | rfl))
def oRestore (z : Zs) (dn n : Nat)  : Oc := if z.2.2.1 = true then (0, pCp (pSave z.1 z.2.1) 7 0 1, zsv z (fun g => pCp g 7 0)) else (1, 0, z)
theorem tX9_restore_o {l : Launch} {κ : KP} {M : Mem} {m sA tA nA : Nat} {th ap pt : Int32} {hs : Int64} {g tx nu : Nat → Int32} {kp : Bool} {sn ln dn n : Nat} (hD : rDis m sA tA nA) (hI : BI g dn n) (hsn : sn ≤ 6) (hln : ln ≤ 60)   : fM l κ mX9_restore [.ref (m)] (RM M m sA tA nA (th) (nI (sn)) (bI (kp)) (nI (ln)) (ap) (pt) (hs) (g) (tx) (nu)) (rPost M m sA tA nA (oRestore ⟨g, sn, kp, tx, ln⟩ dn n )) := by
  refine fM_of rfl (by decide +kernel) (Nat.le_of_ble_eq_true rfl) ?_
  have hn := hI.nle
  have hg := hI.n0
  have hdn := hI.dle
  have hg0 := hI.d0
  have hM := hI.mM
  have hB := hI.mB
  have h1 := hI.m1
  have hs0 := hI.s0
  show fR l κ mX9_restore 0 [(0, .ref (m))] [] (RM M m sA tA nA (th) (nI (sn)) (bI (kp)) (nI (ln)) (ap) (pt) (hs) (g) (tx) (nu)) 0 0 _
  refine r_aload_n dX9_restore_0 rfl ?_
  refine r_aload_n dX9_restore_1 rfl ?_
  refine r_get (k := 3) dX9_restore_2 RM_0 rfl rfl (by decide) kX9_173F ?_
  refine r_if_eqB (tgt := 12) dX9_restore_5 (by decide) (fun c1 => ?_) (fun c1 => ?_)
  · skip
    refine r_iconst (v := nI 1) dX9_restore_12 (by decide) ?_
    refine r_callV (As := [.int (nI (1))]) dX9_restore_13 (tX9_holds_f hD (by omega) (by omega)) rfl RM_0 rfl rfl oX9_holds rfl kX9_94M nX9_holds eX9_holds (by unfold fRoom; decide) (Nat.le_of_ble_eq_true rfl) rfl (bc' := 0) (bs' := 0) rfl rfl ?_
    show fR _ _ _ 16 _ (.int (bI (false)) :: _) _ _ _ _
    refine r_if_neB (tgt := 21) dX9_restore_16 (by decide) (fun c2 => absurd c2 (by decide)) (fun c2 => ?_)
    refine r_iconst (v := nI 0) dX9_restore_19 (by decide) ?_
    exact fR_iret dX9_restore_20 rfl (rPost_of (t := 1) (kp := kp) (by unfold oRestore; (try dsimp only); (first | simp only [ck0, ck1, ck2] | simp only [ck0, ck1] | simp only [ck0, ck2] | simp only [ck1, ck2] | simp only [ck0] | simp only [ck1] | simp only [ck2] | skip); (repeat (first | rw [if_pos (by first | assumption | exact Int32.not_le.mp (by assumption) | exact Int32.not_lt.mp (by assumption) | omega)] | rw [if_neg (by first | assumption | exact Int32.not_lt.mpr (by assumption) | exact Int32.not_le.mpr (by assumption) | exact bne_of (by assumption) | exact not_not_intro (by assumption) | omega)])); first | done | rfl))
  · skip
    refine r_iconst (v := nI 0) dX9_restore_8 (by decide) ?_
    refine r_goto (tgt := 13) dX9_restore_9 (by decide) ?_
    refine r_callV (As := [.int (nI (0))]) dX9_restore_13 (tX9_holds_t hD) rfl RM_0 rfl rfl oX9_holds rfl kX9_94M nX9_holds eX9_holds (by unfold fRoom; decide) (Nat.le_of_ble_eq_true rfl) rfl (bc' := 0) (bs' := 0) rfl rfl ?_
    show fR _ _ _ 16 _ (.int (bI (true)) :: _) _ _ _ _
    refine r_if_neB (tgt := 21) dX9_restore_16 (by decide) (fun c3 => ?_) (fun c3 => absurd c3 (by decide))
    refine r_aload_n dX9_restore_21 rfl ?_
    refine r_callV (As := []) dX9_restore_22 (tX9_save hD hsn) rfl RM_0 rfl rfl oX9_save rfl kX9_91M nX9_save eX9_save (by unfold fRoom; decide) (Nat.le_of_ble_eq_true rfl) rfl (bc' := 0) (bs' := 0) rfl rfl ?_
    show fR _ _ _ 25 _ _ _ _ _ _
    have hJ := hI
    have hI := hI.save sn
    have hn := hI.nle
    have hg := hI.n0
    have hdn := hI.dle
    have hg0 := hI.d0
    have hM := hI.mM
    have hB := hI.mB
    have h1 := hI.m1
    have hs0 := hI.s0
    refine r_aload_n dX9_restore_25 rfl ?_
    refine r_bipush (v := nI 7) dX9_restore_26 (by decide) ?_
    refine r_iconst (v := nI 0) dX9_restore_28 (by decide) ?_
    refine r_callV (As := [.int (nI (7)), .int (nI (0))]) dX9_restore_29 (tX9_copies hD (by omega) (by omega) (by omega)) rfl RM_0 rfl rfl oX9_copies rfl kX9_87M nX9_copies eX9_copies (by unfold fRoom; decide) (Nat.le_of_ble_eq_true rfl) rfl (bc' := 0) (bs' := 0) rfl rfl ?_
    show fR _ _ _ 32 _ _ _ _ _ _
    refine r_aload_n dX9_restore_32 rfl ?_
    refine r_get (k := 1) dX9_restore_33 RM_0 rfl rfl (by decide) kX9_7F ?_
    refine r_iconst (v := nI 1) dX9_restore_36 (by decide) ?_
    refine r_ialdN dX9_restore_37 (RM_1 hD) (by omega) (by decide) rfl ?_
    exact fR_iret dX9_restore_38 rfl (rPost_of (t := 0) (kp := kp) (by unfold oRestore; (try dsimp only); (first | simp only [ck0, ck1, ck2] | simp only [ck0, ck1] | simp only [ck0, ck2] | simp only [ck1, ck2] | simp only [ck0] | simp only [ck1] | simp only [ck2] | skip); (repeat (first | rw [if_pos (by first | assumption | exact Int32.not_le.mp (by assumption) | exact Int32.not_lt.mp (by assumption) | omega)] | rw [if_neg (by first | assumption | exact Int32.not_lt.mpr (by assumption) | exact Int32.not_le.mpr (by assumption) | exact bne_of (by assumption) | exact not_not_intro (by assumption) | omega)])); first | done | rfl))
def oAppend (z : Zs) (dn n : Nat) (p0 : Int32) : Oc := if pIn p0 (nI 33) (nI 126) = true then (if z.2.2.2.2 = 60 then (2, 0, z) else (0, nI (z.2.2.2.2 + 1), ⟨z.1, z.2.1, z.2.2.1, upd z.2.2.2.1 z.2.2.2.2 p0, z.2.2.2.2 + 1⟩)) else (1, 0, z)
theorem tX9_append_o {l : Launch} {κ : KP} {M : Mem} {m sA tA nA : Nat} {th ap pt : Int32} {hs : Int64} {g tx nu : Nat → Int32} {kp : Bool} {sn ln dn n : Nat} (hD : rDis m sA tA nA) (hI : BI g dn n) (hsn : sn ≤ 6) (hln : ln ≤ 60)  {p0 : Int32} : fM l κ mX9_append [.ref (m), .int (p0)] (RM M m sA tA nA (th) (nI (sn)) (bI (kp)) (nI (ln)) (ap) (pt) (hs) (g) (tx) (nu)) (rPost M m sA tA nA (oAppend ⟨g, sn, kp, tx, ln⟩ dn n p0)) := by
  refine fM_of rfl (by decide +kernel) (Nat.le_of_ble_eq_true rfl) ?_
  have hn := hI.nle
  have hg := hI.n0
  have hdn := hI.dle
  have hg0 := hI.d0
  have hM := hI.mM
  have hB := hI.mB
  have h1 := hI.m1
  have hs0 := hI.s0
  show fR l κ mX9_append 0 [(0, .ref (m)), (1, .int (p0))] [] (RM M m sA tA nA (th) (nI (sn)) (bI (kp)) (nI (ln)) (ap) (pt) (hs) (g) (tx) (nu)) 0 0 _
  refine r_aload_n dX9_append_0 rfl ?_
  refine r_iload_n dX9_append_1 rfl ?_
  refine r_bipush (v := nI 33) dX9_append_2 (by decide) ?_
  refine r_bipush (v := nI 126) dX9_append_4 (by decide) ?_
  refine r_callS (As := [.int (p0), .int (nI (33)), .int (nI (126))]) dX9_append_6 tX9_in rfl oX9_in rfl kX9_23M sX9_in (by unfold fRoom; decide) (Nat.le_of_ble_eq_true rfl) rfl (bc' := 0) (bs' := 0) rfl rfl ?_
  show fR _ _ _ 9 _ (.int (bI (pIn (p0) (nI (33)) (nI (126)))) :: _) _ _ _ _
  refine r_if_neB (tgt := 16) dX9_append_9 (by decide) (fun c1 => ?_) (fun c1 => ?_)
  · skip
    refine r_aload_n dX9_append_16 rfl ?_
    refine r_get (k := 5) dX9_append_17 RM_0 rfl rfl (by decide) kX9_135F ?_
    refine r_bipush (v := nI 60) dX9_append_20 (by decide) ?_
    refine r_icmp_neN (tgt := 29) dX9_append_22 (by decide) (by omega) (by omega) (fun c2 => ?_) (fun c2 => ?_)
    · skip
      refine r_iconst (v := nI 0) dX9_append_29 (by decide) ?_
      refine r_callV (As := [.int (nI (0))]) dX9_append_30 (tX9_holds_t hD) rfl RM_0 rfl rfl oX9_holds rfl kX9_94M nX9_holds eX9_holds (by unfold fRoom; decide) (Nat.le_of_ble_eq_true rfl) rfl (bc' := 0) (bs' := 0) rfl rfl ?_
      show fR _ _ _ 33 _ (.int (bI (true)) :: _) _ _ _ _
      refine r_if_neB (tgt := 38) dX9_append_33 (by decide) (fun c3 => ?_) (fun c3 => absurd c3 (by decide))
      refine r_aload_n dX9_append_38 rfl ?_
      refine r_get (k := 4) dX9_append_39 RM_0 rfl rfl (by decide) kX9_13F ?_
      refine r_aload_n dX9_append_42 rfl ?_
      refine r_get (k := 5) dX9_append_43 RM_0 rfl rfl (by decide) kX9_135F ?_
      refine r_iload_n dX9_append_46 rfl ?_
      refine r_iastN dX9_append_47 (RM_2 hD) (by omega) (by decide) ?_
      refine r_mem (RM_s2 hD) ?_
      refine r_aload_n dX9_append_48 rfl ?_
      refine r_dup dX9_append_49 rfl ?_
      refine r_get (k := 5) dX9_append_50 RM_0 rfl rfl (by decide) kX9_135F ?_
      refine r_iconst (v := nI 1) dX9_append_53 (by decide) ?_
      refine r_iaddN dX9_append_54 ?_
      refine r_put (k := 5) (fs' := [.int (nI (0)), .ref (sA), .int (nI (sn)), .int (bI (kp)), .ref (tA), .int (nI ((ln + 1))), .int (ap), .int (pt), .ref (nA), .long (hs)]) dX9_append_55 RM_0 rfl (by decide) kX9_135F rfl rfl rfl (Nat.le_of_ble_eq_true rfl) rfl ?_
      refine r_mem RM_put ?_
      refine r_aload_n dX9_append_58 rfl ?_
      refine r_get (k := 5) dX9_append_59 RM_0 rfl rfl (by decide) kX9_135F ?_
      exact fR_iret dX9_append_62 rfl (rPost_of (t := 0) (kp := kp) (by unfold oAppend; (try dsimp only); (first | simp only [ck0, ck1, ck2] | simp only [ck0, ck1] | simp only [ck0, ck2] | simp only [ck1, ck2] | simp only [ck0] | simp only [ck1] | simp only [ck2] | skip); (repeat (first | rw [if_pos (by first | assumption | exact Int32.not_le.mp (by assumption) | exact Int32.not_lt.mp (by assumption) | omega)] | rw [if_neg (by first | assumption | exact Int32.not_lt.mpr (by assumption) | exact Int32.not_le.mpr (by assumption) | exact bne_of (by assumption) | exact not_not_intro (by assumption) | omega)])); first | done | rfl))
    · skip
      refine r_iconst (v := nI 2) dX9_append_25 (by decide) ?_
      refine r_goto (tgt := 30) dX9_append_26 (by decide) ?_
      refine r_callV (As := [.int (nI (2))]) dX9_append_30 (tX9_holds_f hD (by omega) (by omega)) rfl RM_0 rfl rfl oX9_holds rfl kX9_94M nX9_holds eX9_holds (by unfold fRoom; decide) (Nat.le_of_ble_eq_true rfl) rfl (bc' := 0) (bs' := 0) rfl rfl ?_
      show fR _ _ _ 33 _ (.int (bI (false)) :: _) _ _ _ _
      refine r_if_neB (tgt := 38) dX9_append_33 (by decide) (fun c4 => absurd c4 (by decide)) (fun c4 => ?_)
      refine r_iconst (v := nI 0) dX9_append_36 (by decide) ?_
      exact fR_iret dX9_append_37 rfl (rPost_of (t := 2) (kp := kp) (by unfold oAppend; (try dsimp only); (first | simp only [ck0, ck1, ck2] | simp only [ck0, ck1] | simp only [ck0, ck2] | simp only [ck1, ck2] | simp only [ck0] | simp only [ck1] | simp only [ck2] | skip); (repeat (first | rw [if_pos (by first | assumption | exact Int32.not_le.mp (by assumption) | exact Int32.not_lt.mp (by assumption) | omega)] | rw [if_neg (by first | assumption | exact Int32.not_lt.mpr (by assumption) | exact Int32.not_le.mpr (by assumption) | exact bne_of (by assumption) | exact not_not_intro (by assumption) | omega)])); first | done | rfl))
  · skip
    refine r_iconst (v := nI 1) dX9_append_12 (by decide) ?_
    refine r_goto (tgt := 30) dX9_append_13 (by decide) ?_
    refine r_callV (As := [.int (nI (1))]) dX9_append_30 (tX9_holds_f hD (by omega) (by omega)) rfl RM_0 rfl rfl oX9_holds rfl kX9_94M nX9_holds eX9_holds (by unfold fRoom; decide) (Nat.le_of_ble_eq_true rfl) rfl (bc' := 0) (bs' := 0) rfl rfl ?_
    show fR _ _ _ 33 _ (.int (bI (false)) :: _) _ _ _ _
    refine r_if_neB (tgt := 38) dX9_append_33 (by decide) (fun c5 => absurd c5 (by decide)) (fun c5 => ?_)
    refine r_iconst (v := nI 0) dX9_append_36 (by decide) ?_
    exact fR_iret dX9_append_37 rfl (rPost_of (t := 1) (kp := kp) (by unfold oAppend; (try dsimp only); (first | simp only [ck0, ck1, ck2] | simp only [ck0, ck1] | simp only [ck0, ck2] | simp only [ck1, ck2] | simp only [ck0] | simp only [ck1] | simp only [ck2] | skip); (repeat (first | rw [if_pos (by first | assumption | exact Int32.not_le.mp (by assumption) | exact Int32.not_lt.mp (by assumption) | omega)] | rw [if_neg (by first | assumption | exact Int32.not_lt.mpr (by assumption) | exact Int32.not_le.mpr (by assumption) | exact bne_of (by assumption) | exact not_not_intro (by assumption) | omega)])); first | done | rfl))
def oClearBuffer (z : Zs) (dn n : Nat)  : Oc := (0, nI z.2.2.2.2, ⟨z.1, z.2.1, z.2.2.1, z.2.2.2.1, 0⟩)
theorem tX9_clearBuffer_o {l : Launch} {κ : KP} {M : Mem} {m sA tA nA : Nat} {th ap pt : Int32} {hs : Int64} {g tx nu : Nat → Int32} {kp : Bool} {sn ln dn n : Nat} (hD : rDis m sA tA nA) (hI : BI g dn n) (hsn : sn ≤ 6) (hln : ln ≤ 60)   : fM l κ mX9_clearBuffer [.ref (m)] (RM M m sA tA nA (th) (nI (sn)) (bI (kp)) (nI (ln)) (ap) (pt) (hs) (g) (tx) (nu)) (rPost M m sA tA nA (oClearBuffer ⟨g, sn, kp, tx, ln⟩ dn n )) := by
  refine fM_of rfl (by decide +kernel) (Nat.le_of_ble_eq_true rfl) ?_
  have hn := hI.nle
  have hg := hI.n0
  have hdn := hI.dle
  have hg0 := hI.d0
  have hM := hI.mM
  have hB := hI.mB
  have h1 := hI.m1
  have hs0 := hI.s0
  show fR l κ mX9_clearBuffer 0 [(0, .ref (m))] [] (RM M m sA tA nA (th) (nI (sn)) (bI (kp)) (nI (ln)) (ap) (pt) (hs) (g) (tx) (nu)) 0 0 _
  refine r_aload_n dX9_clearBuffer_0 rfl ?_
  refine r_iconst (v := nI 0) dX9_clearBuffer_1 (by decide) ?_
  refine r_put (k := 0) (fs' := [.int (nI (0)), .ref (sA), .int (nI (sn)), .int (bI (kp)), .ref (tA), .int (nI (ln)), .int (ap), .int (pt), .ref (nA), .long (hs)]) dX9_clearBuffer_2 RM_0 rfl (by decide) kX9_19F rfl rfl rfl (Nat.le_of_ble_eq_true rfl) rfl ?_
  refine r_mem RM_put ?_
  refine r_aload_n dX9_clearBuffer_5 rfl ?_
  refine r_get (k := 5) dX9_clearBuffer_6 RM_0 rfl rfl (by decide) kX9_135F ?_
  refine r_istore_n (lv' := [(1, .int (nI (ln))), (0, .ref (m))]) dX9_clearBuffer_9 (by decide) rfl ?_
  refine r_aload_n dX9_clearBuffer_10 rfl ?_
  refine r_iconst (v := nI 0) dX9_clearBuffer_11 (by decide) ?_
  refine r_put (k := 5) (fs' := [.int (nI (0)), .ref (sA), .int (nI (sn)), .int (bI (kp)), .ref (tA), .int (nI (0)), .int (ap), .int (pt), .ref (nA), .long (hs)]) dX9_clearBuffer_12 RM_0 rfl (by decide) kX9_135F rfl rfl rfl (Nat.le_of_ble_eq_true rfl) rfl ?_
  refine r_mem RM_put ?_
  refine r_iload_n dX9_clearBuffer_15 rfl ?_
  exact fR_iret dX9_clearBuffer_16 rfl (rPost_of (t := 0) (kp := kp) (by unfold oClearBuffer; (try dsimp only); (first | simp only [ck0, ck1, ck2] | simp only [ck0, ck1] | simp only [ck0, ck2] | simp only [ck1, ck2] | simp only [ck0] | simp only [ck1] | simp only [ck2] | skip); (repeat (first | rw [if_pos (by first | assumption | exact Int32.not_le.mp (by assumption) | exact Int32.not_lt.mp (by assumption) | omega)] | rw [if_neg (by first | assumption | exact Int32.not_lt.mpr (by assumption) | exact Int32.not_le.mpr (by assumption) | exact bne_of (by assumption) | exact not_not_intro (by assumption) | omega)])); first | done | rfl))
