def pCpK (f : Nat → Int32) (a b k : Nat) : Nat → Int32 := fun j => if 376 * b ≤ j ∧ j < 376 * b + k then f (376 * a + (j - 376 * b)) else f j
theorem pCpK_s {f : Nat → Int32} {a b k : Nat} (hab : a ≠ b) (hk : k < 376) : upd (pCpK f a b k) (376 * b + k) (pCpK f a b k (376 * a + k)) = pCpK f a b (k + 1) := by
  funext j
  have h0 : pCpK f a b k (376 * a + k) = f (376 * a + k) := by unfold pCpK; rw [if_neg (by omega)]
  rw [h0]
  unfold upd pCpK
  by_cases h : j = 376 * b + k
  · rw [if_pos h, if_pos (by omega), show 376 * a + (j - 376 * b) = 376 * a + k by omega]
  · rw [if_neg h]
    by_cases h2 : 376 * b ≤ j ∧ j < 376 * b + k
    · rw [if_pos h2, if_pos (by omega)]
    · rw [if_neg h2, if_neg (by omega)]
theorem pCpK_0 {f : Nat → Int32} {a b : Nat} : pCpK f a b 0 = f := by
  funext j; unfold pCpK; rw [if_neg (by omega)]
def pCp (f : Nat → Int32) (a b : Nat) : Nat → Int32 := pCpK f a b 376
theorem lX9_copies {l : Launch} {κ : KP} {M : Mem} {m sA tA nA : Nat} {th sv kp ln ap pt : Int32} {hs : Int64} {g tx nu : Nat → Int32} (hD : rDis m sA tA nA) {a b : Nat} (ha : a < 8) (hb : b < 8) (hab : a ≠ b) : ∀ (N k : Nat), 376 < N + k → k ≤ 376 → fR l κ mX9_copies 2 [(3, .int (nI (k))), (0, .ref (m)), (1, .int (nI (a))), (2, .int (nI (b)))] [] (RM M m sA tA nA (th) (sv) (kp) (ln) (ap) (pt) (hs) (pCpK g a b k) (tx) (nu)) 0 0 (isR none (RM M m sA tA nA (th) (sv) (kp) (ln) (ap) (pt) (hs) (pCp g a b) (tx) (nu))) := by
  intro N
  induction N with
  | zero => intro k h1 h2; omega
  | succ N ih =>
    intro k h1 h2
    refine r_iload_n dX9_copies_2 rfl ?_
    refine r_sipush (v := nI 376) dX9_copies_3 (by decide) ?_
    refine r_icmp_geN (tgt := 39) dX9_copies_6 (by decide) (by omega) (by omega) (fun c1 => ?_) (fun c1 => ?_)
    · skip
      have e : k = 376 := by omega
      rw [e]
      exact fR_vret dX9_copies_39 rfl isR_of
    · skip
      refine r_aload_n dX9_copies_9 rfl ?_
      refine r_get (k := 1) dX9_copies_10 RM_0 rfl rfl (by decide) kX9_7F ?_
      refine r_sipush (v := nI 376) dX9_copies_13 (by decide) ?_
      refine r_iload_n dX9_copies_16 rfl ?_
      refine r_imulN dX9_copies_17 ?_
      refine r_iload_n dX9_copies_18 rfl ?_
      refine r_iaddN dX9_copies_19 ?_
      refine r_aload_n dX9_copies_20 rfl ?_
      refine r_get (k := 1) dX9_copies_21 RM_0 rfl rfl (by decide) kX9_7F ?_
      refine r_sipush (v := nI 376) dX9_copies_24 (by decide) ?_
      refine r_iload_n dX9_copies_27 rfl ?_
      refine r_imulN dX9_copies_28 ?_
      refine r_iload_n dX9_copies_29 rfl ?_
      refine r_iaddN dX9_copies_30 ?_
      refine r_ialdN dX9_copies_31 (RM_1 hD) (by omega) (by decide) rfl ?_
      refine r_iastN dX9_copies_32 (RM_1 hD) (by omega) (by decide) ?_
      refine r_mem (RM_s1 hD) ?_
      refine r_iinc (v := (nI (k + 1))) (lv' := [(3, .int (nI (k + 1))), (0, .ref (m)), (1, .int (nI (a))), (2, .int (nI (b)))]) dX9_copies_33 rfl (nI_inc _) (by decide) rfl ?_
      refine r_goto (tgt := 2) dX9_copies_36 (by decide) ?_
      refine r_mem (congrArg (fun z => RM M m sA tA nA th sv kp ln ap pt hs z tx nu) (pCpK_s hab (by omega))) ?_
      exact ih (k + 1) (by omega) (by omega)
theorem tX9_copies {l : Launch} {κ : KP} {M : Mem} {m sA tA nA : Nat} {th sv kp ln ap pt : Int32} {hs : Int64} {g tx nu : Nat → Int32} (hD : rDis m sA tA nA) {a b : Nat} (ha : a < 8) (hb : b < 8) (hab : a ≠ b) : fM l κ mX9_copies [.ref (m), .int (nI (a)), .int (nI (b))] (RM M m sA tA nA (th) (sv) (kp) (ln) (ap) (pt) (hs) (g) (tx) (nu)) (isR none (RM M m sA tA nA (th) (sv) (kp) (ln) (ap) (pt) (hs) (pCp g a b) (tx) (nu))) := by
  refine fM_of rfl (by decide +kernel) (Nat.le_of_ble_eq_true rfl) ?_
  show fR l κ mX9_copies 0 [(0, .ref (m)), (1, .int (nI (a))), (2, .int (nI (b)))] [] (RM M m sA tA nA (th) (sv) (kp) (ln) (ap) (pt) (hs) (g) (tx) (nu)) 0 0 _
  refine r_iconst (v := nI 0) dX9_copies_0 (by decide) ?_
  refine r_istore_n (lv' := [(3, .int (nI (0))), (0, .ref (m)), (1, .int (nI (a))), (2, .int (nI (b)))]) dX9_copies_1 (by decide) rfl ?_
  have h := lX9_copies (l := l) (κ := κ) (M := M) (th := th) (sv := sv) (kp := kp) (ln := ln) (ap := ap) (pt := pt) (hs := hs) (g := g) (tx := tx) (nu := nu) hD ha hb hab 377 0 (by omega) (by omega)
  rw [pCpK_0] at h
  exact h
def pSaveL (g : Nat → Int32) (sn : Nat) : Nat → Int32 := pCp (g) (0) ((sn + 1))
theorem tX9_save_l {l : Launch} {κ : KP} {M : Mem} {m sA tA nA : Nat} {th sv kp ln ap pt : Int32} {hs : Int64} {g tx nu : Nat → Int32} (hD : rDis m sA tA nA) {sn : Nat} (hs6 : sn < 6) : fM l κ mX9_save [.ref (m)] (RM M m sA tA nA (th) (nI (sn)) (kp) (ln) (ap) (pt) (hs) (g) (tx) (nu)) (isR none (RM M m sA tA nA (th) (nI ((sn + 1))) (kp) (ln) (ap) (pt) (hs) (pSaveL g sn) (tx) (nu))) := by
  refine fM_of rfl (by decide +kernel) (Nat.le_of_ble_eq_true rfl) ?_
  show fR l κ mX9_save 0 [(0, .ref (m))] [] (RM M m sA tA nA (th) (nI (sn)) (kp) (ln) (ap) (pt) (hs) (g) (tx) (nu)) 0 0 _
  refine r_iconst (v := nI 1) dX9_save_0 (by decide) ?_
  refine r_istore_n (lv' := [(1, .int (nI (1))), (0, .ref (m))]) dX9_save_1 (by decide) rfl ?_
  refine r_iload_n dX9_save_2 rfl ?_
  refine r_bipush (v := nI 6) dX9_save_3 (by decide) ?_
  refine r_icmp_geN (tgt := 31) dX9_save_5 (by decide) (by omega) (by omega) (fun c1 => absurd c1 (by omega)) (fun c1 => ?_)
  refine r_aload_n dX9_save_8 rfl ?_
  refine r_get (k := 2) dX9_save_9 RM_0 rfl rfl (by decide) kX9_84F ?_
  refine r_bipush (v := nI 6) dX9_save_12 (by decide) ?_
  refine r_icmp_neN (tgt := 31) dX9_save_14 (by decide) (by omega) (by omega) (fun c2 => ?_) (fun c2 => ?_)
  · skip
    refine r_aload_n dX9_save_31 rfl ?_
    refine r_dup dX9_save_32 rfl ?_
    refine r_get (k := 2) dX9_save_33 RM_0 rfl rfl (by decide) kX9_84F ?_
    refine r_aload_n dX9_save_36 rfl ?_
    refine r_get (k := 2) dX9_save_37 RM_0 rfl rfl (by decide) kX9_84F ?_
    refine r_bipush (v := nI 6) dX9_save_40 (by decide) ?_
    refine r_icmp_geN (tgt := 49) dX9_save_42 (by decide) (by omega) (by omega) (fun c3 => ?_) (fun c3 => ?_)
    · skip
      exact absurd c3 (by omega)
    · skip
      refine r_iconst (v := nI 1) dX9_save_45 (by decide) ?_
      refine r_goto (tgt := 50) dX9_save_46 (by decide) ?_
      refine r_iaddN dX9_save_50 ?_
      refine r_put (k := 2) (fs' := [.int (th), .ref (sA), .int (nI ((sn + 1))), .int (kp), .ref (tA), .int (ln), .int (ap), .int (pt), .ref (nA), .long (hs)]) dX9_save_51 RM_0 rfl (by decide) kX9_84F rfl rfl rfl (Nat.le_of_ble_eq_true rfl) rfl ?_
      refine r_mem RM_put ?_
      refine r_aload_n dX9_save_54 rfl ?_
      refine r_iconst (v := nI 0) dX9_save_55 (by decide) ?_
      refine r_aload_n dX9_save_56 rfl ?_
      refine r_get (k := 2) dX9_save_57 RM_0 rfl rfl (by decide) kX9_84F ?_
      refine r_callV (As := [.int (nI (0)), .int (nI ((sn + 1)))]) dX9_save_60 (tX9_copies hD (by omega) (by omega) (by omega)) rfl RM_0 rfl rfl oX9_copies rfl kX9_87M nX9_copies eX9_copies (by unfold fRoom; decide) (Nat.le_of_ble_eq_true rfl) rfl (bc' := 0) (bs' := 0) rfl rfl ?_
      show fR _ _ _ 63 _ _ _ _ _ _
      exact fR_vret dX9_save_63 rfl isR_of
  · skip
    exact absurd c2 (by omega)
def pSave6 (g : Nat → Int32)  : Nat → Int32 := pCp (pCp (pCp (pCp (pCp (pCp (g) ((1 + 1)) (1)) ((1 + 1 + 1)) (1 + 1)) ((1 + 1 + 1 + 1)) (1 + 1 + 1)) ((1 + 1 + 1 + 1 + 1)) (1 + 1 + 1 + 1)) ((1 + 1 + 1 + 1 + 1 + 1)) (1 + 1 + 1 + 1 + 1)) (0) ((6 + 0))
theorem tX9_save_6 {l : Launch} {κ : KP} {M : Mem} {m sA tA nA : Nat} {th sv kp ln ap pt : Int32} {hs : Int64} {g tx nu : Nat → Int32} (hD : rDis m sA tA nA)  : fM l κ mX9_save [.ref (m)] (RM M m sA tA nA (th) (nI (6)) (kp) (ln) (ap) (pt) (hs) (g) (tx) (nu)) (isR none (RM M m sA tA nA (th) (nI ((6 + 0))) (kp) (ln) (ap) (pt) (hs) (pSave6 g ) (tx) (nu))) := by
  refine fM_of rfl (by decide +kernel) (Nat.le_of_ble_eq_true rfl) ?_
  show fR l κ mX9_save 0 [(0, .ref (m))] [] (RM M m sA tA nA (th) (nI (6)) (kp) (ln) (ap) (pt) (hs) (g) (tx) (nu)) 0 0 _
  refine r_iconst (v := nI 1) dX9_save_0 (by decide) ?_
  refine r_istore_n (lv' := [(1, .int (nI (1))), (0, .ref (m))]) dX9_save_1 (by decide) rfl ?_
  refine r_iload_n dX9_save_2 rfl ?_
  refine r_bipush (v := nI 6) dX9_save_3 (by decide) ?_
  refine r_icmp_geN (tgt := 31) dX9_save_5 (by decide) (by omega) (by omega) (fun c1 => absurd c1 (by omega)) (fun c1 => ?_)
  refine r_aload_n dX9_save_8 rfl ?_
  refine r_get (k := 2) dX9_save_9 RM_0 rfl rfl (by decide) kX9_84F ?_
  refine r_bipush (v := nI 6) dX9_save_12 (by decide) ?_
  refine r_icmp_neN (tgt := 31) dX9_save_14 (by decide) (by omega) (by omega) (fun c2 => absurd c2 (by omega)) (fun c2 => ?_)
  refine r_aload_n dX9_save_17 rfl ?_
  refine r_iload_n dX9_save_18 rfl ?_
  refine r_iconst (v := nI 1) dX9_save_19 (by decide) ?_
  refine r_iaddN dX9_save_20 ?_
  refine r_iload_n dX9_save_21 rfl ?_
  refine r_callV (As := [.int (nI ((1 + 1))), .int (nI (1))]) dX9_save_22 (tX9_copies hD (by omega) (by omega) (by omega)) rfl RM_0 rfl rfl oX9_copies rfl kX9_87M nX9_copies eX9_copies (by unfold fRoom; decide) (Nat.le_of_ble_eq_true rfl) rfl (bc' := 0) (bs' := 0) rfl rfl ?_
  show fR _ _ _ 25 _ _ _ _ _ _
  refine r_iinc (v := (nI (1 + 1))) (lv' := [(1, .int (nI (1 + 1))), (0, .ref (m))]) dX9_save_25 rfl (nI_inc _) (by decide) rfl ?_
  refine r_goto (tgt := 2) dX9_save_28 (by decide) ?_
  refine r_iload_n dX9_save_2 rfl ?_
  refine r_bipush (v := nI 6) dX9_save_3 (by decide) ?_
  refine r_icmp_geN (tgt := 31) dX9_save_5 (by decide) (by omega) (by omega) (fun c3 => absurd c3 (by omega)) (fun c3 => ?_)
  refine r_aload_n dX9_save_8 rfl ?_
  refine r_get (k := 2) dX9_save_9 RM_0 rfl rfl (by decide) kX9_84F ?_
  refine r_bipush (v := nI 6) dX9_save_12 (by decide) ?_
  refine r_icmp_neN (tgt := 31) dX9_save_14 (by decide) (by omega) (by omega) (fun c4 => absurd c4 (by omega)) (fun c4 => ?_)
  refine r_aload_n dX9_save_17 rfl ?_
  refine r_iload_n dX9_save_18 rfl ?_
  refine r_iconst (v := nI 1) dX9_save_19 (by decide) ?_
  refine r_iaddN dX9_save_20 ?_
  refine r_iload_n dX9_save_21 rfl ?_
  refine r_callV (As := [.int (nI ((1 + 1 + 1))), .int (nI (1 + 1))]) dX9_save_22 (tX9_copies hD (by omega) (by omega) (by omega)) rfl RM_0 rfl rfl oX9_copies rfl kX9_87M nX9_copies eX9_copies (by unfold fRoom; decide) (Nat.le_of_ble_eq_true rfl) rfl (bc' := 0) (bs' := 0) rfl rfl ?_
  show fR _ _ _ 25 _ _ _ _ _ _
  refine r_iinc (v := (nI (1 + 1 + 1))) (lv' := [(1, .int (nI (1 + 1 + 1))), (0, .ref (m))]) dX9_save_25 rfl (nI_inc _) (by decide) rfl ?_
  refine r_goto (tgt := 2) dX9_save_28 (by decide) ?_
  refine r_iload_n dX9_save_2 rfl ?_
  refine r_bipush (v := nI 6) dX9_save_3 (by decide) ?_
  refine r_icmp_geN (tgt := 31) dX9_save_5 (by decide) (by omega) (by omega) (fun c5 => absurd c5 (by omega)) (fun c5 => ?_)
  refine r_aload_n dX9_save_8 rfl ?_
  refine r_get (k := 2) dX9_save_9 RM_0 rfl rfl (by decide) kX9_84F ?_
  refine r_bipush (v := nI 6) dX9_save_12 (by decide) ?_
  refine r_icmp_neN (tgt := 31) dX9_save_14 (by decide) (by omega) (by omega) (fun c6 => absurd c6 (by omega)) (fun c6 => ?_)
  refine r_aload_n dX9_save_17 rfl ?_
  refine r_iload_n dX9_save_18 rfl ?_
  refine r_iconst (v := nI 1) dX9_save_19 (by decide) ?_
  refine r_iaddN dX9_save_20 ?_
  refine r_iload_n dX9_save_21 rfl ?_
  refine r_callV (As := [.int (nI ((1 + 1 + 1 + 1))), .int (nI (1 + 1 + 1))]) dX9_save_22 (tX9_copies hD (by omega) (by omega) (by omega)) rfl RM_0 rfl rfl oX9_copies rfl kX9_87M nX9_copies eX9_copies (by unfold fRoom; decide) (Nat.le_of_ble_eq_true rfl) rfl (bc' := 0) (bs' := 0) rfl rfl ?_
  show fR _ _ _ 25 _ _ _ _ _ _
  refine r_iinc (v := (nI (1 + 1 + 1 + 1))) (lv' := [(1, .int (nI (1 + 1 + 1 + 1))), (0, .ref (m))]) dX9_save_25 rfl (nI_inc _) (by decide) rfl ?_
  refine r_goto (tgt := 2) dX9_save_28 (by decide) ?_
  refine r_iload_n dX9_save_2 rfl ?_
  refine r_bipush (v := nI 6) dX9_save_3 (by decide) ?_
  refine r_icmp_geN (tgt := 31) dX9_save_5 (by decide) (by omega) (by omega) (fun c7 => absurd c7 (by omega)) (fun c7 => ?_)
  refine r_aload_n dX9_save_8 rfl ?_
  refine r_get (k := 2) dX9_save_9 RM_0 rfl rfl (by decide) kX9_84F ?_
  refine r_bipush (v := nI 6) dX9_save_12 (by decide) ?_
  refine r_icmp_neN (tgt := 31) dX9_save_14 (by decide) (by omega) (by omega) (fun c8 => absurd c8 (by omega)) (fun c8 => ?_)
  refine r_aload_n dX9_save_17 rfl ?_
  refine r_iload_n dX9_save_18 rfl ?_
  refine r_iconst (v := nI 1) dX9_save_19 (by decide) ?_
  refine r_iaddN dX9_save_20 ?_
  refine r_iload_n dX9_save_21 rfl ?_
  refine r_callV (As := [.int (nI ((1 + 1 + 1 + 1 + 1))), .int (nI (1 + 1 + 1 + 1))]) dX9_save_22 (tX9_copies hD (by omega) (by omega) (by omega)) rfl RM_0 rfl rfl oX9_copies rfl kX9_87M nX9_copies eX9_copies (by unfold fRoom; decide) (Nat.le_of_ble_eq_true rfl) rfl (bc' := 0) (bs' := 0) rfl rfl ?_
  show fR _ _ _ 25 _ _ _ _ _ _
  refine r_iinc (v := (nI (1 + 1 + 1 + 1 + 1))) (lv' := [(1, .int (nI (1 + 1 + 1 + 1 + 1))), (0, .ref (m))]) dX9_save_25 rfl (nI_inc _) (by decide) rfl ?_
  refine r_goto (tgt := 2) dX9_save_28 (by decide) ?_
  refine r_iload_n dX9_save_2 rfl ?_
  refine r_bipush (v := nI 6) dX9_save_3 (by decide) ?_
  refine r_icmp_geN (tgt := 31) dX9_save_5 (by decide) (by omega) (by omega) (fun c9 => absurd c9 (by omega)) (fun c9 => ?_)
  refine r_aload_n dX9_save_8 rfl ?_
  refine r_get (k := 2) dX9_save_9 RM_0 rfl rfl (by decide) kX9_84F ?_
  refine r_bipush (v := nI 6) dX9_save_12 (by decide) ?_
  refine r_icmp_neN (tgt := 31) dX9_save_14 (by decide) (by omega) (by omega) (fun c10 => absurd c10 (by omega)) (fun c10 => ?_)
  refine r_aload_n dX9_save_17 rfl ?_
  refine r_iload_n dX9_save_18 rfl ?_
  refine r_iconst (v := nI 1) dX9_save_19 (by decide) ?_
  refine r_iaddN dX9_save_20 ?_
  refine r_iload_n dX9_save_21 rfl ?_
  refine r_callV (As := [.int (nI ((1 + 1 + 1 + 1 + 1 + 1))), .int (nI (1 + 1 + 1 + 1 + 1))]) dX9_save_22 (tX9_copies hD (by omega) (by omega) (by omega)) rfl RM_0 rfl rfl oX9_copies rfl kX9_87M nX9_copies eX9_copies (by unfold fRoom; decide) (Nat.le_of_ble_eq_true rfl) rfl (bc' := 0) (bs' := 0) rfl rfl ?_
  show fR _ _ _ 25 _ _ _ _ _ _
  refine r_iinc (v := (nI (1 + 1 + 1 + 1 + 1 + 1))) (lv' := [(1, .int (nI (1 + 1 + 1 + 1 + 1 + 1))), (0, .ref (m))]) dX9_save_25 rfl (nI_inc _) (by decide) rfl ?_
  refine r_goto (tgt := 2) dX9_save_28 (by decide) ?_
  refine r_iload_n dX9_save_2 rfl ?_
  refine r_bipush (v := nI 6) dX9_save_3 (by decide) ?_
  refine r_icmp_geN (tgt := 31) dX9_save_5 (by decide) (by omega) (by omega) (fun c11 => ?_) (fun c11 => absurd c11 (by omega))
  refine r_aload_n dX9_save_31 rfl ?_
  refine r_dup dX9_save_32 rfl ?_
  refine r_get (k := 2) dX9_save_33 RM_0 rfl rfl (by decide) kX9_84F ?_
  refine r_aload_n dX9_save_36 rfl ?_
  refine r_get (k := 2) dX9_save_37 RM_0 rfl rfl (by decide) kX9_84F ?_
  refine r_bipush (v := nI 6) dX9_save_40 (by decide) ?_
  refine r_icmp_geN (tgt := 49) dX9_save_42 (by decide) (by omega) (by omega) (fun c12 => ?_) (fun c12 => absurd c12 (by omega))
  refine r_iconst (v := nI 0) dX9_save_49 (by decide) ?_
  refine r_iaddN dX9_save_50 ?_
  refine r_put (k := 2) (fs' := [.int (th), .ref (sA), .int (nI ((6 + 0))), .int (kp), .ref (tA), .int (ln), .int (ap), .int (pt), .ref (nA), .long (hs)]) dX9_save_51 RM_0 rfl (by decide) kX9_84F rfl rfl rfl (Nat.le_of_ble_eq_true rfl) rfl ?_
  refine r_mem RM_put ?_
  refine r_aload_n dX9_save_54 rfl ?_
  refine r_iconst (v := nI 0) dX9_save_55 (by decide) ?_
  refine r_aload_n dX9_save_56 rfl ?_
  refine r_get (k := 2) dX9_save_57 RM_0 rfl rfl (by decide) kX9_84F ?_
  refine r_callV (As := [.int (nI (0)), .int (nI ((6 + 0)))]) dX9_save_60 (tX9_copies hD (by omega) (by omega) (by omega)) rfl RM_0 rfl rfl oX9_copies rfl kX9_87M nX9_copies eX9_copies (by unfold fRoom; decide) (Nat.le_of_ble_eq_true rfl) rfl (bc' := 0) (bs' := 0) rfl rfl ?_
  show fR _ _ _ 63 _ _ _ _ _ _
  exact fR_vret dX9_save_63 rfl isR_of
theorem pOf_upd {f : Nat → Int32} {k w j : Nat} {x : Int32} (h : 40 + 42 * k + w ≠ j) : pOf (upd f j x) k w = pOf f k w := by
  unfold pOf upd; rw [if_neg h]
def pSink (g : Nat → Int32) (nd k : Nat) (w s : Int32) : Nat → Int32 := upd (upd (upd (upd (upd (upd (upd (upd (upd (g) (40 + 42 * k + (6 + (4 * pMany g k))) (nI (nd))) (40 + 42 * k + ((6 + (4 * pMany g k)) + 1)) (pDep (g) (nd) (k) (w) (s))) (40 + 42 * k + ((6 + (4 * pMany g k)) + 2)) (w)) (40 + 42 * k + ((6 + (4 * pMany g k)) + 3)) (s)) (40 + 42 * k + 5) (nI ((pMany g k + 1)))) (((31 + (3 * nd)) + 0)) ((((upd (upd (upd (upd (upd (g) (40 + 42 * k + (6 + (4 * pMany g k))) (nI (nd))) (40 + 42 * k + ((6 + (4 * pMany g k)) + 1)) (pDep (g) (nd) (k) (w) (s))) (40 + 42 * k + ((6 + (4 * pMany g k)) + 2)) (w)) (40 + 42 * k + ((6 + (4 * pMany g k)) + 3)) (s)) (40 + 42 * k + 5) (nI ((pMany g k + 1)))) (((31 + (3 * nd)) + 0))) + ((if (pDep (g) (nd) (k) (w) (s)) < nI 50 ∧ (upd (upd (upd (upd (upd (g) (40 + 42 * k + (6 + (4 * pMany g k))) (nI (nd))) (40 + 42 * k + ((6 + (4 * pMany g k)) + 1)) (pDep (g) (nd) (k) (w) (s))) (40 + 42 * k + ((6 + (4 * pMany g k)) + 2)) (w)) (40 + 42 * k + ((6 + (4 * pMany g k)) + 3)) (s)) (40 + 42 * k + 5) (nI ((pMany g k + 1)))) ((31 + (3 * nd)) + 0) < nI 20 then nI 1 else nI 0))))) (((31 + (3 * nd)) + 1)) ((if (pDep (g) (nd) (k) (w) (s)) = 0 then nI 1 else (upd (upd (upd (upd (upd (upd (g) (40 + 42 * k + (6 + (4 * pMany g k))) (nI (nd))) (40 + 42 * k + ((6 + (4 * pMany g k)) + 1)) (pDep (g) (nd) (k) (w) (s))) (40 + 42 * k + ((6 + (4 * pMany g k)) + 2)) (w)) (40 + 42 * k + ((6 + (4 * pMany g k)) + 3)) (s)) (40 + 42 * k + 5) (nI ((pMany g k + 1)))) (((31 + (3 * nd)) + 0)) ((((upd (upd (upd (upd (upd (g) (40 + 42 * k + (6 + (4 * pMany g k))) (nI (nd))) (40 + 42 * k + ((6 + (4 * pMany g k)) + 1)) (pDep (g) (nd) (k) (w) (s))) (40 + 42 * k + ((6 + (4 * pMany g k)) + 2)) (w)) (40 + 42 * k + ((6 + (4 * pMany g k)) + 3)) (s)) (40 + 42 * k + 5) (nI ((pMany g k + 1)))) (((31 + (3 * nd)) + 0))) + ((if (pDep (g) (nd) (k) (w) (s)) < nI 50 ∧ (upd (upd (upd (upd (upd (g) (40 + 42 * k + (6 + (4 * pMany g k))) (nI (nd))) (40 + 42 * k + ((6 + (4 * pMany g k)) + 1)) (pDep (g) (nd) (k) (w) (s))) (40 + 42 * k + ((6 + (4 * pMany g k)) + 2)) (w)) (40 + 42 * k + ((6 + (4 * pMany g k)) + 3)) (s)) (40 + 42 * k + 5) (nI ((pMany g k + 1)))) ((31 + (3 * nd)) + 0) < nI 20 then nI 1 else nI 0))))) ((31 + (3 * nd)) + 1)))) (((31 + (3 * nd)) + 2)) ((((upd (upd (upd (upd (upd (upd (upd (g) (40 + 42 * k + (6 + (4 * pMany g k))) (nI (nd))) (40 + 42 * k + ((6 + (4 * pMany g k)) + 1)) (pDep (g) (nd) (k) (w) (s))) (40 + 42 * k + ((6 + (4 * pMany g k)) + 2)) (w)) (40 + 42 * k + ((6 + (4 * pMany g k)) + 3)) (s)) (40 + 42 * k + 5) (nI ((pMany g k + 1)))) (((31 + (3 * nd)) + 0)) ((((upd (upd (upd (upd (upd (g) (40 + 42 * k + (6 + (4 * pMany g k))) (nI (nd))) (40 + 42 * k + ((6 + (4 * pMany g k)) + 1)) (pDep (g) (nd) (k) (w) (s))) (40 + 42 * k + ((6 + (4 * pMany g k)) + 2)) (w)) (40 + 42 * k + ((6 + (4 * pMany g k)) + 3)) (s)) (40 + 42 * k + 5) (nI ((pMany g k + 1)))) (((31 + (3 * nd)) + 0))) + ((if (pDep (g) (nd) (k) (w) (s)) < nI 50 ∧ (upd (upd (upd (upd (upd (g) (40 + 42 * k + (6 + (4 * pMany g k))) (nI (nd))) (40 + 42 * k + ((6 + (4 * pMany g k)) + 1)) (pDep (g) (nd) (k) (w) (s))) (40 + 42 * k + ((6 + (4 * pMany g k)) + 2)) (w)) (40 + 42 * k + ((6 + (4 * pMany g k)) + 3)) (s)) (40 + 42 * k + 5) (nI ((pMany g k + 1)))) ((31 + (3 * nd)) + 0) < nI 20 then nI 1 else nI 0))))) (((31 + (3 * nd)) + 1)) ((if (pDep (g) (nd) (k) (w) (s)) = 0 then nI 1 else (upd (upd (upd (upd (upd (upd (g) (40 + 42 * k + (6 + (4 * pMany g k))) (nI (nd))) (40 + 42 * k + ((6 + (4 * pMany g k)) + 1)) (pDep (g) (nd) (k) (w) (s))) (40 + 42 * k + ((6 + (4 * pMany g k)) + 2)) (w)) (40 + 42 * k + ((6 + (4 * pMany g k)) + 3)) (s)) (40 + 42 * k + 5) (nI ((pMany g k + 1)))) (((31 + (3 * nd)) + 0)) ((((upd (upd (upd (upd (upd (g) (40 + 42 * k + (6 + (4 * pMany g k))) (nI (nd))) (40 + 42 * k + ((6 + (4 * pMany g k)) + 1)) (pDep (g) (nd) (k) (w) (s))) (40 + 42 * k + ((6 + (4 * pMany g k)) + 2)) (w)) (40 + 42 * k + ((6 + (4 * pMany g k)) + 3)) (s)) (40 + 42 * k + 5) (nI ((pMany g k + 1)))) (((31 + (3 * nd)) + 0))) + ((if (pDep (g) (nd) (k) (w) (s)) < nI 50 ∧ (upd (upd (upd (upd (upd (g) (40 + 42 * k + (6 + (4 * pMany g k))) (nI (nd))) (40 + 42 * k + ((6 + (4 * pMany g k)) + 1)) (pDep (g) (nd) (k) (w) (s))) (40 + 42 * k + ((6 + (4 * pMany g k)) + 2)) (w)) (40 + 42 * k + ((6 + (4 * pMany g k)) + 3)) (s)) (40 + 42 * k + 5) (nI ((pMany g k + 1)))) ((31 + (3 * nd)) + 0) < nI 20 then nI 1 else nI 0))))) ((31 + (3 * nd)) + 1)))) (((31 + (3 * nd)) + 2))) + (nI (1))))) (2) ((((upd (upd (upd (upd (upd (upd (upd (upd (g) (40 + 42 * k + (6 + (4 * pMany g k))) (nI (nd))) (40 + 42 * k + ((6 + (4 * pMany g k)) + 1)) (pDep (g) (nd) (k) (w) (s))) (40 + 42 * k + ((6 + (4 * pMany g k)) + 2)) (w)) (40 + 42 * k + ((6 + (4 * pMany g k)) + 3)) (s)) (40 + 42 * k + 5) (nI ((pMany g k + 1)))) (((31 + (3 * nd)) + 0)) ((((upd (upd (upd (upd (upd (g) (40 + 42 * k + (6 + (4 * pMany g k))) (nI (nd))) (40 + 42 * k + ((6 + (4 * pMany g k)) + 1)) (pDep (g) (nd) (k) (w) (s))) (40 + 42 * k + ((6 + (4 * pMany g k)) + 2)) (w)) (40 + 42 * k + ((6 + (4 * pMany g k)) + 3)) (s)) (40 + 42 * k + 5) (nI ((pMany g k + 1)))) (((31 + (3 * nd)) + 0))) + ((if (pDep (g) (nd) (k) (w) (s)) < nI 50 ∧ (upd (upd (upd (upd (upd (g) (40 + 42 * k + (6 + (4 * pMany g k))) (nI (nd))) (40 + 42 * k + ((6 + (4 * pMany g k)) + 1)) (pDep (g) (nd) (k) (w) (s))) (40 + 42 * k + ((6 + (4 * pMany g k)) + 2)) (w)) (40 + 42 * k + ((6 + (4 * pMany g k)) + 3)) (s)) (40 + 42 * k + 5) (nI ((pMany g k + 1)))) ((31 + (3 * nd)) + 0) < nI 20 then nI 1 else nI 0))))) (((31 + (3 * nd)) + 1)) ((if (pDep (g) (nd) (k) (w) (s)) = 0 then nI 1 else (upd (upd (upd (upd (upd (upd (g) (40 + 42 * k + (6 + (4 * pMany g k))) (nI (nd))) (40 + 42 * k + ((6 + (4 * pMany g k)) + 1)) (pDep (g) (nd) (k) (w) (s))) (40 + 42 * k + ((6 + (4 * pMany g k)) + 2)) (w)) (40 + 42 * k + ((6 + (4 * pMany g k)) + 3)) (s)) (40 + 42 * k + 5) (nI ((pMany g k + 1)))) (((31 + (3 * nd)) + 0)) ((((upd (upd (upd (upd (upd (g) (40 + 42 * k + (6 + (4 * pMany g k))) (nI (nd))) (40 + 42 * k + ((6 + (4 * pMany g k)) + 1)) (pDep (g) (nd) (k) (w) (s))) (40 + 42 * k + ((6 + (4 * pMany g k)) + 2)) (w)) (40 + 42 * k + ((6 + (4 * pMany g k)) + 3)) (s)) (40 + 42 * k + 5) (nI ((pMany g k + 1)))) (((31 + (3 * nd)) + 0))) + ((if (pDep (g) (nd) (k) (w) (s)) < nI 50 ∧ (upd (upd (upd (upd (upd (g) (40 + 42 * k + (6 + (4 * pMany g k))) (nI (nd))) (40 + 42 * k + ((6 + (4 * pMany g k)) + 1)) (pDep (g) (nd) (k) (w) (s))) (40 + 42 * k + ((6 + (4 * pMany g k)) + 2)) (w)) (40 + 42 * k + ((6 + (4 * pMany g k)) + 3)) (s)) (40 + 42 * k + 5) (nI ((pMany g k + 1)))) ((31 + (3 * nd)) + 0) < nI 20 then nI 1 else nI 0))))) ((31 + (3 * nd)) + 1)))) (((31 + (3 * nd)) + 2)) ((((upd (upd (upd (upd (upd (upd (upd (g) (40 + 42 * k + (6 + (4 * pMany g k))) (nI (nd))) (40 + 42 * k + ((6 + (4 * pMany g k)) + 1)) (pDep (g) (nd) (k) (w) (s))) (40 + 42 * k + ((6 + (4 * pMany g k)) + 2)) (w)) (40 + 42 * k + ((6 + (4 * pMany g k)) + 3)) (s)) (40 + 42 * k + 5) (nI ((pMany g k + 1)))) (((31 + (3 * nd)) + 0)) ((((upd (upd (upd (upd (upd (g) (40 + 42 * k + (6 + (4 * pMany g k))) (nI (nd))) (40 + 42 * k + ((6 + (4 * pMany g k)) + 1)) (pDep (g) (nd) (k) (w) (s))) (40 + 42 * k + ((6 + (4 * pMany g k)) + 2)) (w)) (40 + 42 * k + ((6 + (4 * pMany g k)) + 3)) (s)) (40 + 42 * k + 5) (nI ((pMany g k + 1)))) (((31 + (3 * nd)) + 0))) + ((if (pDep (g) (nd) (k) (w) (s)) < nI 50 ∧ (upd (upd (upd (upd (upd (g) (40 + 42 * k + (6 + (4 * pMany g k))) (nI (nd))) (40 + 42 * k + ((6 + (4 * pMany g k)) + 1)) (pDep (g) (nd) (k) (w) (s))) (40 + 42 * k + ((6 + (4 * pMany g k)) + 2)) (w)) (40 + 42 * k + ((6 + (4 * pMany g k)) + 3)) (s)) (40 + 42 * k + 5) (nI ((pMany g k + 1)))) ((31 + (3 * nd)) + 0) < nI 20 then nI 1 else nI 0))))) (((31 + (3 * nd)) + 1)) ((if (pDep (g) (nd) (k) (w) (s)) = 0 then nI 1 else (upd (upd (upd (upd (upd (upd (g) (40 + 42 * k + (6 + (4 * pMany g k))) (nI (nd))) (40 + 42 * k + ((6 + (4 * pMany g k)) + 1)) (pDep (g) (nd) (k) (w) (s))) (40 + 42 * k + ((6 + (4 * pMany g k)) + 2)) (w)) (40 + 42 * k + ((6 + (4 * pMany g k)) + 3)) (s)) (40 + 42 * k + 5) (nI ((pMany g k + 1)))) (((31 + (3 * nd)) + 0)) ((((upd (upd (upd (upd (upd (g) (40 + 42 * k + (6 + (4 * pMany g k))) (nI (nd))) (40 + 42 * k + ((6 + (4 * pMany g k)) + 1)) (pDep (g) (nd) (k) (w) (s))) (40 + 42 * k + ((6 + (4 * pMany g k)) + 2)) (w)) (40 + 42 * k + ((6 + (4 * pMany g k)) + 3)) (s)) (40 + 42 * k + 5) (nI ((pMany g k + 1)))) (((31 + (3 * nd)) + 0))) + ((if (pDep (g) (nd) (k) (w) (s)) < nI 50 ∧ (upd (upd (upd (upd (upd (g) (40 + 42 * k + (6 + (4 * pMany g k))) (nI (nd))) (40 + 42 * k + ((6 + (4 * pMany g k)) + 1)) (pDep (g) (nd) (k) (w) (s))) (40 + 42 * k + ((6 + (4 * pMany g k)) + 2)) (w)) (40 + 42 * k + ((6 + (4 * pMany g k)) + 3)) (s)) (40 + 42 * k + 5) (nI ((pMany g k + 1)))) ((31 + (3 * nd)) + 0) < nI 20 then nI 1 else nI 0))))) ((31 + (3 * nd)) + 1)))) (((31 + (3 * nd)) + 2))) + (nI (1))))) (2)) + (nI (1))))
theorem tX9_sinks {l : Launch} {κ : KP} {M : Mem} {m sA tA nA : Nat} {th sv kp ln ap pt : Int32} {hs : Int64} {g tx nu : Nat → Int32} (hD : rDis m sA tA nA) {nd k : Nat} {w s : Int32} (hk : k < 8) (hnd : nd < 3) (hh : ¬ pOf g k 1 + nI 1 = 0) (hm : pOf g k 5 = nI (pMany g k)) (hm9 : pMany g k < 9) : fM l κ mX9_sinks [.ref (m), .int (nI (nd)), .int (nI (k)), .int (w), .int (s)] (RM M m sA tA nA (th) (sv) (kp) (ln) (ap) (pt) (hs) (g) (tx) (nu)) (isR (some (.int (pDep (g) (nd) (k) (w) (s)))) (RM M m sA tA nA (th) (sv) (kp) (ln) (ap) (pt) (hs) (pSink g nd k w s) (tx) (nu))) := by
  refine fM_of rfl (by decide +kernel) (Nat.le_of_ble_eq_true rfl) ?_
  show fR l κ mX9_sinks 0 [(0, .ref (m)), (1, .int (nI (nd))), (2, .int (nI (k))), (3, .int (w)), (4, .int (s))] [] (RM M m sA tA nA (th) (sv) (kp) (ln) (ap) (pt) (hs) (g) (tx) (nu)) 0 0 _
  refine r_aload_n dX9_sinks_0 rfl ?_
  refine r_iload_n dX9_sinks_1 rfl ?_
  refine r_iload_n dX9_sinks_2 rfl ?_
  refine r_iload_n dX9_sinks_3 rfl ?_
  refine r_iload dX9_sinks_4 rfl ?_
  refine r_callV (As := [.int (nI (nd)), .int (nI (k)), .int (w), .int (s)]) dX9_sinks_6 (tX9_depth hD (by omega) (by omega) hh) rfl RM_0 rfl rfl oX9_depth rfl kX9_51M nX9_depth eX9_depth (by unfold fRoom; decide) (Nat.le_of_ble_eq_true rfl) rfl (bc' := 0) (bs' := 0) rfl rfl ?_
  show fR _ _ _ 9 _ (.int (pDep (g) (nd) (k) (w) (s)) :: _) _ _ _ _
  refine r_istore (lv' := [(5, .int (pDep (g) (nd) (k) (w) (s))), (0, .ref (m)), (1, .int (nI (nd))), (2, .int (nI (k))), (3, .int (w)), (4, .int (s))]) dX9_sinks_9 (by decide) rfl ?_
  refine r_bipush (v := nI 6) dX9_sinks_11 (by decide) ?_
  refine r_iconst (v := nI 4) dX9_sinks_13 (by decide) ?_
  refine r_aload_n dX9_sinks_14 rfl ?_
  refine r_iload_n dX9_sinks_15 rfl ?_
  refine r_iconst (v := nI 5) dX9_sinks_16 (by decide) ?_
  refine r_callV (As := [.int (nI (k)), .int (nI (5))]) dX9_sinks_17 (tX9_of hD (by omega)) rfl RM_0 rfl rfl oX9_of rfl kX9_31M nX9_of eX9_of (by unfold fRoom; decide) (Nat.le_of_ble_eq_true rfl) rfl (bc' := 0) (bs' := 0) rfl rfl ?_
  show fR _ _ _ 20 _ (.int (pOf (g) (k) (5)) :: _) _ _ _ _
  refine r_top hm ?_
  refine r_imulN dX9_sinks_20 ?_
  refine r_iaddN dX9_sinks_21 ?_
  refine r_istore (lv' := [(6, .int (nI ((6 + (4 * pMany g k))))), (5, .int (pDep (g) (nd) (k) (w) (s))), (0, .ref (m)), (1, .int (nI (nd))), (2, .int (nI (k))), (3, .int (w)), (4, .int (s))]) dX9_sinks_22 (by decide) rfl ?_
  refine r_aload_n dX9_sinks_24 rfl ?_
  refine r_iload_n dX9_sinks_25 rfl ?_
  refine r_iload dX9_sinks_26 rfl ?_
  refine r_iload_n dX9_sinks_28 rfl ?_
  refine r_callV (As := [.int (nI (k)), .int (nI ((6 + (4 * pMany g k)))), .int (nI (nd))]) dX9_sinks_29 (tX9_lay hD (by omega)) rfl RM_0 rfl rfl oX9_lay rfl kX9_41M nX9_lay eX9_lay (by unfold fRoom; decide) (Nat.le_of_ble_eq_true rfl) rfl (bc' := 0) (bs' := 0) rfl rfl ?_
  show fR _ _ _ 32 _ _ _ _ _ _
  refine r_aload_n dX9_sinks_32 rfl ?_
  refine r_iload_n dX9_sinks_33 rfl ?_
  refine r_iload dX9_sinks_34 rfl ?_
  refine r_iconst (v := nI 1) dX9_sinks_36 (by decide) ?_
  refine r_iaddN dX9_sinks_37 ?_
  refine r_iload dX9_sinks_38 rfl ?_
  refine r_callV (As := [.int (nI (k)), .int (nI (((6 + (4 * pMany g k)) + 1))), .int (pDep (g) (nd) (k) (w) (s))]) dX9_sinks_40 (tX9_lay hD (by omega)) rfl RM_0 rfl rfl oX9_lay rfl kX9_41M nX9_lay eX9_lay (by unfold fRoom; decide) (Nat.le_of_ble_eq_true rfl) rfl (bc' := 0) (bs' := 0) rfl rfl ?_
  show fR _ _ _ 43 _ _ _ _ _ _
  refine r_aload_n dX9_sinks_43 rfl ?_
  refine r_iload_n dX9_sinks_44 rfl ?_
  refine r_iload dX9_sinks_45 rfl ?_
  refine r_iconst (v := nI 2) dX9_sinks_47 (by decide) ?_
  refine r_iaddN dX9_sinks_48 ?_
  refine r_iload_n dX9_sinks_49 rfl ?_
  refine r_callV (As := [.int (nI (k)), .int (nI (((6 + (4 * pMany g k)) + 2))), .int (w)]) dX9_sinks_50 (tX9_lay hD (by omega)) rfl RM_0 rfl rfl oX9_lay rfl kX9_41M nX9_lay eX9_lay (by unfold fRoom; decide) (Nat.le_of_ble_eq_true rfl) rfl (bc' := 0) (bs' := 0) rfl rfl ?_
  show fR _ _ _ 53 _ _ _ _ _ _
  refine r_aload_n dX9_sinks_53 rfl ?_
  refine r_iload_n dX9_sinks_54 rfl ?_
  refine r_iload dX9_sinks_55 rfl ?_
  refine r_iconst (v := nI 3) dX9_sinks_57 (by decide) ?_
  refine r_iaddN dX9_sinks_58 ?_
  refine r_iload dX9_sinks_59 rfl ?_
  refine r_callV (As := [.int (nI (k)), .int (nI (((6 + (4 * pMany g k)) + 3))), .int (s)]) dX9_sinks_61 (tX9_lay hD (by omega)) rfl RM_0 rfl rfl oX9_lay rfl kX9_41M nX9_lay eX9_lay (by unfold fRoom; decide) (Nat.le_of_ble_eq_true rfl) rfl (bc' := 0) (bs' := 0) rfl rfl ?_
  show fR _ _ _ 64 _ _ _ _ _ _
  refine r_aload_n dX9_sinks_64 rfl ?_
  refine r_iload_n dX9_sinks_65 rfl ?_
  refine r_iconst (v := nI 5) dX9_sinks_66 (by decide) ?_
  refine r_aload_n dX9_sinks_67 rfl ?_
  refine r_iload_n dX9_sinks_68 rfl ?_
  refine r_iconst (v := nI 5) dX9_sinks_69 (by decide) ?_
  refine r_callV (As := [.int (nI (k)), .int (nI (5))]) dX9_sinks_70 (tX9_of hD (by omega)) rfl RM_0 rfl rfl oX9_of rfl kX9_31M nX9_of eX9_of (by unfold fRoom; decide) (Nat.le_of_ble_eq_true rfl) rfl (bc' := 0) (bs' := 0) rfl rfl ?_
  show fR _ _ _ 73 _ (.int (pOf (upd (upd (upd (upd (g) (40 + 42 * k + (6 + (4 * pMany g k))) (nI (nd))) (40 + 42 * k + ((6 + (4 * pMany g k)) + 1)) (pDep (g) (nd) (k) (w) (s))) (40 + 42 * k + ((6 + (4 * pMany g k)) + 2)) (w)) (40 + 42 * k + ((6 + (4 * pMany g k)) + 3)) (s)) (k) (5)) :: _) _ _ _ _
  refine r_top (by rw [pOf_upd (by omega), pOf_upd (by omega), pOf_upd (by omega), pOf_upd (by omega), hm]) ?_
  refine r_iconst (v := nI 1) dX9_sinks_73 (by decide) ?_
  refine r_iaddN dX9_sinks_74 ?_
  refine r_callV (As := [.int (nI (k)), .int (nI (5)), .int (nI ((pMany g k + 1)))]) dX9_sinks_75 (tX9_lay hD (by omega)) rfl RM_0 rfl rfl oX9_lay rfl kX9_41M nX9_lay eX9_lay (by unfold fRoom; decide) (Nat.le_of_ble_eq_true rfl) rfl (bc' := 0) (bs' := 0) rfl rfl ?_
  show fR _ _ _ 78 _ _ _ _ _ _
  refine r_bipush (v := nI 31) dX9_sinks_78 (by decide) ?_
  refine r_iconst (v := nI 3) dX9_sinks_80 (by decide) ?_
  refine r_iload_n dX9_sinks_81 rfl ?_
  refine r_imulN dX9_sinks_82 ?_
  refine r_iaddN dX9_sinks_83 ?_
  refine r_istore (lv' := [(7, .int (nI ((31 + (3 * nd))))), (6, .int (nI ((6 + (4 * pMany g k))))), (5, .int (pDep (g) (nd) (k) (w) (s))), (0, .ref (m)), (1, .int (nI (nd))), (2, .int (nI (k))), (3, .int (w)), (4, .int (s))]) dX9_sinks_84 (by decide) rfl ?_
  refine r_aload_n dX9_sinks_86 rfl ?_
  refine r_get (k := 1) dX9_sinks_87 RM_0 rfl rfl (by decide) kX9_7F ?_
  refine r_iload dX9_sinks_90 rfl ?_
  refine r_iconst (v := nI 0) dX9_sinks_92 (by decide) ?_
  refine r_iaddN dX9_sinks_93 ?_
  refine r_dup2 dX9_sinks_94 rfl rfl ?_
  refine r_ialdN dX9_sinks_95 (RM_1 hD) (by omega) (by decide) rfl ?_
  have hJ1 : fR l κ mX9_sinks 122 [(7, .int (nI ((31 + (3 * nd))))), (6, .int (nI ((6 + (4 * pMany g k))))), (5, .int (pDep (g) (nd) (k) (w) (s))), (0, .ref (m)), (1, .int (nI (nd))), (2, .int (nI (k))), (3, .int (w)), (4, .int (s))] [.int ((if (pDep (g) (nd) (k) (w) (s)) < nI 50 ∧ (upd (upd (upd (upd (upd (g) (40 + 42 * k + (6 + (4 * pMany g k))) (nI (nd))) (40 + 42 * k + ((6 + (4 * pMany g k)) + 1)) (pDep (g) (nd) (k) (w) (s))) (40 + 42 * k + ((6 + (4 * pMany g k)) + 2)) (w)) (40 + 42 * k + ((6 + (4 * pMany g k)) + 3)) (s)) (40 + 42 * k + 5) (nI ((pMany g k + 1)))) ((31 + (3 * nd)) + 0) < nI 20 then nI 1 else nI 0)), .int ((upd (upd (upd (upd (upd (g) (40 + 42 * k + (6 + (4 * pMany g k))) (nI (nd))) (40 + 42 * k + ((6 + (4 * pMany g k)) + 1)) (pDep (g) (nd) (k) (w) (s))) (40 + 42 * k + ((6 + (4 * pMany g k)) + 2)) (w)) (40 + 42 * k + ((6 + (4 * pMany g k)) + 3)) (s)) (40 + 42 * k + 5) (nI ((pMany g k + 1)))) (((31 + (3 * nd)) + 0))), .int (nI (((31 + (3 * nd)) + 0))), .ref (sA)] (RM M m sA tA nA (th) (sv) (kp) (ln) (ap) (pt) (hs) (upd (upd (upd (upd (upd (g) (40 + 42 * k + (6 + (4 * pMany g k))) (nI (nd))) (40 + 42 * k + ((6 + (4 * pMany g k)) + 1)) (pDep (g) (nd) (k) (w) (s))) (40 + 42 * k + ((6 + (4 * pMany g k)) + 2)) (w)) (40 + 42 * k + ((6 + (4 * pMany g k)) + 3)) (s)) (40 + 42 * k + 5) (nI ((pMany g k + 1)))) (tx) (nu)) 0 0 (isR (some (.int (pDep (g) (nd) (k) (w) (s)))) (RM M m sA tA nA (th) (sv) (kp) (ln) (ap) (pt) (hs) (pSink g nd k w s) (tx) (nu))) := by
    refine r_iadd dX9_sinks_122 ?_
    refine r_iastN dX9_sinks_123 (RM_1 hD) (by omega) (by decide) ?_
    refine r_mem (RM_s1 hD) ?_
    refine r_aload_n dX9_sinks_124 rfl ?_
    refine r_get (k := 1) dX9_sinks_125 RM_0 rfl rfl (by decide) kX9_7F ?_
    refine r_iload dX9_sinks_128 rfl ?_
    refine r_iconst (v := nI 1) dX9_sinks_130 (by decide) ?_
    refine r_iaddN dX9_sinks_131 ?_
    have hJ2 : fR l κ mX9_sinks 150 [(7, .int (nI ((31 + (3 * nd))))), (6, .int (nI ((6 + (4 * pMany g k))))), (5, .int (pDep (g) (nd) (k) (w) (s))), (0, .ref (m)), (1, .int (nI (nd))), (2, .int (nI (k))), (3, .int (w)), (4, .int (s))] [.int ((if (pDep (g) (nd) (k) (w) (s)) = 0 then nI 1 else (upd (upd (upd (upd (upd (upd (g) (40 + 42 * k + (6 + (4 * pMany g k))) (nI (nd))) (40 + 42 * k + ((6 + (4 * pMany g k)) + 1)) (pDep (g) (nd) (k) (w) (s))) (40 + 42 * k + ((6 + (4 * pMany g k)) + 2)) (w)) (40 + 42 * k + ((6 + (4 * pMany g k)) + 3)) (s)) (40 + 42 * k + 5) (nI ((pMany g k + 1)))) (((31 + (3 * nd)) + 0)) ((((upd (upd (upd (upd (upd (g) (40 + 42 * k + (6 + (4 * pMany g k))) (nI (nd))) (40 + 42 * k + ((6 + (4 * pMany g k)) + 1)) (pDep (g) (nd) (k) (w) (s))) (40 + 42 * k + ((6 + (4 * pMany g k)) + 2)) (w)) (40 + 42 * k + ((6 + (4 * pMany g k)) + 3)) (s)) (40 + 42 * k + 5) (nI ((pMany g k + 1)))) (((31 + (3 * nd)) + 0))) + ((if (pDep (g) (nd) (k) (w) (s)) < nI 50 ∧ (upd (upd (upd (upd (upd (g) (40 + 42 * k + (6 + (4 * pMany g k))) (nI (nd))) (40 + 42 * k + ((6 + (4 * pMany g k)) + 1)) (pDep (g) (nd) (k) (w) (s))) (40 + 42 * k + ((6 + (4 * pMany g k)) + 2)) (w)) (40 + 42 * k + ((6 + (4 * pMany g k)) + 3)) (s)) (40 + 42 * k + 5) (nI ((pMany g k + 1)))) ((31 + (3 * nd)) + 0) < nI 20 then nI 1 else nI 0))))) ((31 + (3 * nd)) + 1))), .int (nI (((31 + (3 * nd)) + 1))), .ref (sA)] (RM M m sA tA nA (th) (sv) (kp) (ln) (ap) (pt) (hs) (upd (upd (upd (upd (upd (upd (g) (40 + 42 * k + (6 + (4 * pMany g k))) (nI (nd))) (40 + 42 * k + ((6 + (4 * pMany g k)) + 1)) (pDep (g) (nd) (k) (w) (s))) (40 + 42 * k + ((6 + (4 * pMany g k)) + 2)) (w)) (40 + 42 * k + ((6 + (4 * pMany g k)) + 3)) (s)) (40 + 42 * k + 5) (nI ((pMany g k + 1)))) (((31 + (3 * nd)) + 0)) ((((upd (upd (upd (upd (upd (g) (40 + 42 * k + (6 + (4 * pMany g k))) (nI (nd))) (40 + 42 * k + ((6 + (4 * pMany g k)) + 1)) (pDep (g) (nd) (k) (w) (s))) (40 + 42 * k + ((6 + (4 * pMany g k)) + 2)) (w)) (40 + 42 * k + ((6 + (4 * pMany g k)) + 3)) (s)) (40 + 42 * k + 5) (nI ((pMany g k + 1)))) (((31 + (3 * nd)) + 0))) + ((if (pDep (g) (nd) (k) (w) (s)) < nI 50 ∧ (upd (upd (upd (upd (upd (g) (40 + 42 * k + (6 + (4 * pMany g k))) (nI (nd))) (40 + 42 * k + ((6 + (4 * pMany g k)) + 1)) (pDep (g) (nd) (k) (w) (s))) (40 + 42 * k + ((6 + (4 * pMany g k)) + 2)) (w)) (40 + 42 * k + ((6 + (4 * pMany g k)) + 3)) (s)) (40 + 42 * k + 5) (nI ((pMany g k + 1)))) ((31 + (3 * nd)) + 0) < nI 20 then nI 1 else nI 0))))) (tx) (nu)) 0 0 (isR (some (.int (pDep (g) (nd) (k) (w) (s)))) (RM M m sA tA nA (th) (sv) (kp) (ln) (ap) (pt) (hs) (pSink g nd k w s) (tx) (nu))) := by
      refine r_iastN dX9_sinks_150 (RM_1 hD) (by omega) (by decide) ?_
      refine r_mem (RM_s1 hD) ?_
      refine r_aload_n dX9_sinks_151 rfl ?_
      refine r_get (k := 1) dX9_sinks_152 RM_0 rfl rfl (by decide) kX9_7F ?_
      refine r_iload dX9_sinks_155 rfl ?_
      refine r_iconst (v := nI 2) dX9_sinks_157 (by decide) ?_
      refine r_iaddN dX9_sinks_158 ?_
      refine r_dup2 dX9_sinks_159 rfl rfl ?_
      refine r_ialdN dX9_sinks_160 (RM_1 hD) (by omega) (by decide) rfl ?_
      refine r_iconst (v := nI 1) dX9_sinks_161 (by decide) ?_
      refine r_iadd dX9_sinks_162 ?_
      refine r_iastN dX9_sinks_163 (RM_1 hD) (by omega) (by decide) ?_
      refine r_mem (RM_s1 hD) ?_
      refine r_aload_n dX9_sinks_164 rfl ?_
      refine r_get (k := 1) dX9_sinks_165 RM_0 rfl rfl (by decide) kX9_7F ?_
      refine r_iconst (v := nI 2) dX9_sinks_168 (by decide) ?_
      refine r_dup2 dX9_sinks_169 rfl rfl ?_
      refine r_ialdN dX9_sinks_170 (RM_1 hD) (by omega) (by decide) rfl ?_
      refine r_iconst (v := nI 1) dX9_sinks_171 (by decide) ?_
      refine r_iadd dX9_sinks_172 ?_
      refine r_iastN dX9_sinks_173 (RM_1 hD) (by omega) (by decide) ?_
      refine r_mem (RM_s1 hD) ?_
      refine r_iload dX9_sinks_174 rfl ?_
      exact fR_iret dX9_sinks_176 rfl (isI_of (by rfl))
    refine r_iload dX9_sinks_132 rfl ?_
    refine r_if_ne (tgt := 141) dX9_sinks_134 (by decide) (fun c3 => ?_) (fun c3 => ?_)
    · skip
      refine r_aload_n dX9_sinks_141 rfl ?_
      refine r_get (k := 1) dX9_sinks_142 RM_0 rfl rfl (by decide) kX9_7F ?_
      refine r_iload dX9_sinks_145 rfl ?_
      refine r_iconst (v := nI 1) dX9_sinks_147 (by decide) ?_
      refine r_iaddN dX9_sinks_148 ?_
      refine r_ialdN dX9_sinks_149 (RM_1 hD) (by omega) (by decide) rfl ?_
      exact r_top (by first | exact (if_pos (by assumption)).symm | exact (if_neg (by assumption)).symm) hJ2
    · skip
      refine r_iconst (v := nI 1) dX9_sinks_137 (by decide) ?_
      refine r_goto (tgt := 150) dX9_sinks_138 (by decide) ?_
      exact r_top (by first | exact (if_pos (by assumption)).symm | exact (if_neg (by assumption)).symm) hJ2
  refine r_iload dX9_sinks_96 rfl ?_
  refine r_bipush (v := nI 50) dX9_sinks_98 (by decide) ?_
  refine r_icmp_ge (tgt := 121) dX9_sinks_100 (by decide) (fun c4 => ?_) (fun c4 => ?_)
  · skip
    refine r_iconst (v := nI 0) dX9_sinks_121 (by decide) ?_
    exact r_top (by first | exact (if_pos ⟨Int32.not_le.mp (by assumption), Int32.not_le.mp (by assumption)⟩).symm | exact (if_neg (fun h => absurd h.1 (Int32.not_lt.mpr (by assumption)))).symm | exact (if_neg (fun h => absurd h.2 (Int32.not_lt.mpr (by assumption)))).symm) hJ1
  · skip
    refine r_aload_n dX9_sinks_103 rfl ?_
    refine r_get (k := 1) dX9_sinks_104 RM_0 rfl rfl (by decide) kX9_7F ?_
    refine r_iload dX9_sinks_107 rfl ?_
    refine r_iconst (v := nI 0) dX9_sinks_109 (by decide) ?_
    refine r_iaddN dX9_sinks_110 ?_
    refine r_ialdN dX9_sinks_111 (RM_1 hD) (by omega) (by decide) rfl ?_
    refine r_bipush (v := nI 20) dX9_sinks_112 (by decide) ?_
    refine r_icmp_ge (tgt := 121) dX9_sinks_114 (by decide) (fun c5 => ?_) (fun c5 => ?_)
    · skip
      refine r_iconst (v := nI 0) dX9_sinks_121 (by decide) ?_
      exact r_top (by first | exact (if_pos ⟨Int32.not_le.mp (by assumption), Int32.not_le.mp (by assumption)⟩).symm | exact (if_neg (fun h => absurd h.1 (Int32.not_lt.mpr (by assumption)))).symm | exact (if_neg (fun h => absurd h.2 (Int32.not_lt.mpr (by assumption)))).symm) hJ1
    · skip
      refine r_iconst (v := nI 1) dX9_sinks_117 (by decide) ?_
      refine r_goto (tgt := 122) dX9_sinks_118 (by decide) ?_
      exact r_top (by first | exact (if_pos ⟨Int32.not_le.mp (by assumption), Int32.not_le.mp (by assumption)⟩).symm | exact (if_neg (fun h => absurd h.1 (Int32.not_lt.mpr (by assumption)))).symm | exact (if_neg (fun h => absurd h.2 (Int32.not_lt.mpr (by assumption)))).symm) hJ1
theorem tX9_rings_1 {l : Launch} {κ : KP} {M : Mem} {m sA tA nA : Nat} {th sv kp ln ap pt : Int32} {hs : Int64} {g tx nu : Nat → Int32} (hD : rDis m sA tA nA) {k : Nat} (hk : k < 8) (h4 : ¬ pOf g k 4 = -1) : fM l κ mX9_rings [.ref (m), .int (nI (k))] (RM M m sA tA nA (th) (sv) (kp) (ln) (ap) (pt) (hs) (g) (tx) (nu)) (isI (pOf g k 4) (RM M m sA tA nA (th) (sv) (kp) (ln) (ap) (pt) (hs) (g) (tx) (nu))) := by
  refine fM_of rfl (by decide +kernel) (Nat.le_of_ble_eq_true rfl) ?_
  show fR l κ mX9_rings 0 [(0, .ref (m)), (1, .int (nI (k)))] [] (RM M m sA tA nA (th) (sv) (kp) (ln) (ap) (pt) (hs) (g) (tx) (nu)) 0 0 _
  refine r_aload_n dX9_rings_0 rfl ?_
  refine r_iload_n dX9_rings_1 rfl ?_
  refine r_iconst (v := nI 4) dX9_rings_2 (by decide) ?_
  refine r_callV (As := [.int (nI (k)), .int (nI (4))]) dX9_rings_3 (tX9_of hD (by omega)) rfl RM_0 rfl rfl oX9_of rfl kX9_31M nX9_of eX9_of (by unfold fRoom; decide) (Nat.le_of_ble_eq_true rfl) rfl (bc' := 0) (bs' := 0) rfl rfl ?_
  show fR _ _ _ 6 _ (.int (pOf (g) (k) (4)) :: _) _ _ _ _
  refine r_iconst (v := (-1)) dX9_rings_6 (by decide) ?_
  refine r_icmp_ne (tgt := 53) dX9_rings_7 (by decide) (fun c1 => ?_) (fun c1 => ?_)
  · skip
    refine r_aload_n dX9_rings_53 rfl ?_
    refine r_iload_n dX9_rings_54 rfl ?_
    refine r_iconst (v := nI 4) dX9_rings_55 (by decide) ?_
    refine r_callV (As := [.int (nI (k)), .int (nI (4))]) dX9_rings_56 (tX9_of hD (by omega)) rfl RM_0 rfl rfl oX9_of rfl kX9_31M nX9_of eX9_of (by unfold fRoom; decide) (Nat.le_of_ble_eq_true rfl) rfl (bc' := 0) (bs' := 0) rfl rfl ?_
    show fR _ _ _ 59 _ (.int (pOf (g) (k) (4)) :: _) _ _ _ _
    exact fR_iret dX9_rings_59 rfl (isI_of (by rfl))
  · skip
    exact absurd c1 h4
def pRingV (f : Nat → Int32) (k : Nat) : Int32 := if nI 300 + nI 12 * pOf f k 1 - nI 5 * pOf f k 5 < nI 250 then nI 250 else nI 300 + nI 12 * pOf f k 1 - nI 5 * pOf f k 5
theorem tX9_rings_0 {l : Launch} {κ : KP} {M : Mem} {m sA tA nA : Nat} {th sv kp ln ap pt : Int32} {hs : Int64} {g tx nu : Nat → Int32} (hD : rDis m sA tA nA) {k : Nat} (hk : k < 8) (h4 : pOf g k 4 = -1) : fM l κ mX9_rings [.ref (m), .int (nI (k))] (RM M m sA tA nA (th) (sv) (kp) (ln) (ap) (pt) (hs) (g) (tx) (nu)) (isI (pRingV g k) (RM M m sA tA nA (th) (sv) (kp) (ln) (ap) (pt) (hs) (upd g (40 + 42 * k + 4) (pRingV g k)) (tx) (nu))) := by
  refine fM_of rfl (by decide +kernel) (Nat.le_of_ble_eq_true rfl) ?_
  show fR l κ mX9_rings 0 [(0, .ref (m)), (1, .int (nI (k)))] [] (RM M m sA tA nA (th) (sv) (kp) (ln) (ap) (pt) (hs) (g) (tx) (nu)) 0 0 _
  refine r_aload_n dX9_rings_0 rfl ?_
  refine r_iload_n dX9_rings_1 rfl ?_
  refine r_iconst (v := nI 4) dX9_rings_2 (by decide) ?_
  refine r_callV (As := [.int (nI (k)), .int (nI (4))]) dX9_rings_3 (tX9_of hD (by omega)) rfl RM_0 rfl rfl oX9_of rfl kX9_31M nX9_of eX9_of (by unfold fRoom; decide) (Nat.le_of_ble_eq_true rfl) rfl (bc' := 0) (bs' := 0) rfl rfl ?_
  show fR _ _ _ 6 _ (.int (pOf (g) (k) (4)) :: _) _ _ _ _
  refine r_iconst (v := (-1)) dX9_rings_6 (by decide) ?_
  refine r_icmp_ne (tgt := 53) dX9_rings_7 (by decide) (fun c1 => ?_) (fun c1 => ?_)
  · skip
    exact absurd h4 c1
  · skip
    refine r_sipush (v := nI 300) dX9_rings_10 (by decide) ?_
    refine r_bipush (v := nI 12) dX9_rings_13 (by decide) ?_
    refine r_aload_n dX9_rings_15 rfl ?_
    refine r_iload_n dX9_rings_16 rfl ?_
    refine r_iconst (v := nI 1) dX9_rings_17 (by decide) ?_
    refine r_callV (As := [.int (nI (k)), .int (nI (1))]) dX9_rings_18 (tX9_of hD (by omega)) rfl RM_0 rfl rfl oX9_of rfl kX9_31M nX9_of eX9_of (by unfold fRoom; decide) (Nat.le_of_ble_eq_true rfl) rfl (bc' := 0) (bs' := 0) rfl rfl ?_
    show fR _ _ _ 21 _ (.int (pOf (g) (k) (1)) :: _) _ _ _ _
    refine r_imul dX9_rings_21 ?_
    refine r_iadd dX9_rings_22 ?_
    refine r_iconst (v := nI 5) dX9_rings_23 (by decide) ?_
    refine r_aload_n dX9_rings_24 rfl ?_
    refine r_iload_n dX9_rings_25 rfl ?_
    refine r_iconst (v := nI 5) dX9_rings_26 (by decide) ?_
    refine r_callV (As := [.int (nI (k)), .int (nI (5))]) dX9_rings_27 (tX9_of hD (by omega)) rfl RM_0 rfl rfl oX9_of rfl kX9_31M nX9_of eX9_of (by unfold fRoom; decide) (Nat.le_of_ble_eq_true rfl) rfl (bc' := 0) (bs' := 0) rfl rfl ?_
    show fR _ _ _ 30 _ (.int (pOf (g) (k) (5)) :: _) _ _ _ _
    refine r_imul dX9_rings_30 ?_
    refine r_isub dX9_rings_31 ?_
    refine r_istore_n (lv' := [(2, .int (((((nI (300)) + (((nI (12)) * (pOf (g) (k) (1)))))) - (((nI (5)) * (pOf (g) (k) (5))))))), (0, .ref (m)), (1, .int (nI (k)))]) dX9_rings_32 (by decide) rfl ?_
    refine r_aload_n dX9_rings_33 rfl ?_
    refine r_iload_n dX9_rings_34 rfl ?_
    refine r_iconst (v := nI 4) dX9_rings_35 (by decide) ?_
    have hJ2 : fR l κ mX9_rings 50 [(2, .int (((((nI (300)) + (((nI (12)) * (pOf (g) (k) (1)))))) - (((nI (5)) * (pOf (g) (k) (5))))))), (0, .ref (m)), (1, .int (nI (k)))] [.int ((pRingV g k)), .int (nI (4)), .int (nI (k)), .ref (m)] (RM M m sA tA nA (th) (sv) (kp) (ln) (ap) (pt) (hs) (g) (tx) (nu)) 0 0 (isI (pRingV g k) (RM M m sA tA nA (th) (sv) (kp) (ln) (ap) (pt) (hs) (upd g (40 + 42 * k + 4) (pRingV g k)) (tx) (nu))) := by
      refine r_callV (As := [.int (nI (k)), .int (nI (4)), .int ((pRingV g k))]) dX9_rings_50 (tX9_lay hD (by omega)) rfl RM_0 rfl rfl oX9_lay rfl kX9_41M nX9_lay eX9_lay (by unfold fRoom; decide) (Nat.le_of_ble_eq_true rfl) rfl (bc' := 0) (bs' := 0) rfl rfl ?_
      show fR _ _ _ 53 _ _ _ _ _ _
      refine r_aload_n dX9_rings_53 rfl ?_
      refine r_iload_n dX9_rings_54 rfl ?_
      refine r_iconst (v := nI 4) dX9_rings_55 (by decide) ?_
      refine r_callV (As := [.int (nI (k)), .int (nI (4))]) dX9_rings_56 (tX9_of hD (by omega)) rfl RM_0 rfl rfl oX9_of rfl kX9_31M nX9_of eX9_of (by unfold fRoom; decide) (Nat.le_of_ble_eq_true rfl) rfl (bc' := 0) (bs' := 0) rfl rfl ?_
      show fR _ _ _ 59 _ (.int (pOf (upd (g) (40 + 42 * k + 4) ((pRingV g k))) (k) (4)) :: _) _ _ _ _
      exact fR_iret dX9_rings_59 rfl (isI_of (by unfold pOf upd; rw [if_pos rfl]))
    refine r_iload_n dX9_rings_36 rfl ?_
    refine r_sipush (v := nI 250) dX9_rings_37 (by decide) ?_
    refine r_icmp_ge (tgt := 49) dX9_rings_40 (by decide) (fun c3 => ?_) (fun c3 => ?_)
    · skip
      refine r_iload_n dX9_rings_49 rfl ?_
      exact r_top (by unfold pRingV; (repeat (first | rw [if_pos (by first | assumption | exact Int32.not_le.mp (by assumption) | exact Int32.not_lt.mp (by assumption) | omega)] | rw [if_neg (by first | assumption | exact Int32.not_lt.mpr (by assumption) | exact Int32.not_le.mpr (by assumption) | exact bne_of (by assumption) | exact not_not_intro (by assumption) | omega)])); first | done | rfl) hJ2
    · skip
      refine r_sipush (v := nI 250) dX9_rings_43 (by decide) ?_
      refine r_goto (tgt := 50) dX9_rings_46 (by decide) ?_
      exact r_top (by unfold pRingV; (repeat (first | rw [if_pos (by first | assumption | exact Int32.not_le.mp (by assumption) | exact Int32.not_lt.mp (by assumption) | omega)] | rw [if_neg (by first | assumption | exact Int32.not_lt.mpr (by assumption) | exact Int32.not_le.mpr (by assumption) | exact bne_of (by assumption) | exact not_not_intro (by assumption) | omega)])); first | done | rfl) hJ2
theorem tX9_sells {l : Launch} {κ : KP} {M : Mem} {m sA tA nA : Nat} {th sv kp ln ap pt : Int32} {hs : Int64} {g tx nu : Nat → Int32} (hD : rDis m sA tA nA) {n : Nat} (hn : n ≤ 8) (hg : g 1 = nI n) (hM : ∀ k, k < n → pOf g k 5 = nI (pMany g k) ∧ pMany g k ≤ 9) {d : Nat} (hd : d < 6) : fM l κ mX9_sells [.ref (m), .int (nI (d))] (RM M m sA tA nA (th) (sv) (kp) (ln) (ap) (pt) (hs) (g) (tx) (nu)) (isI (pMean g n d true / nI 20) (RM M m sA tA nA (th) (sv) (kp) (ln) (ap) (pt) (hs) (upd g (10 + 3 * d + 2) (pMean g n d true / nI 20)) (tx) (nu))) := by
  refine fM_of rfl (by decide +kernel) (Nat.le_of_ble_eq_true rfl) ?_
  show fR l κ mX9_sells 0 [(0, .ref (m)), (1, .int (nI (d)))] [] (RM M m sA tA nA (th) (sv) (kp) (ln) (ap) (pt) (hs) (g) (tx) (nu)) 0 0 _
  refine r_aload_n dX9_sells_0 rfl ?_
  refine r_get (k := 1) dX9_sells_1 RM_0 rfl rfl (by decide) kX9_7F ?_
  refine r_bipush (v := nI 10) dX9_sells_4 (by decide) ?_
  refine r_iconst (v := nI 3) dX9_sells_6 (by decide) ?_
  refine r_iload_n dX9_sells_7 rfl ?_
  refine r_imulN dX9_sells_8 ?_
  refine r_iaddN dX9_sells_9 ?_
  refine r_iconst (v := nI 2) dX9_sells_10 (by decide) ?_
  refine r_iaddN dX9_sells_11 ?_
  refine r_aload_n dX9_sells_12 rfl ?_
  refine r_iload_n dX9_sells_13 rfl ?_
  refine r_iconst (v := nI 1) dX9_sells_14 (by decide) ?_
  refine r_callV (As := [.int (nI (d)), .int (nI (1))]) dX9_sells_15 (tX9_mean (q := true) hD hn hg hM hd) rfl RM_0 rfl rfl oX9_mean rfl kX9_72M nX9_mean eX9_mean (by unfold fRoom; decide) (Nat.le_of_ble_eq_true rfl) rfl (bc' := 0) (bs' := 0) rfl rfl ?_
  show fR _ _ _ 18 _ (.int (pMean (g) n d true) :: _) _ _ _ _
  refine r_bipush (v := nI 20) dX9_sells_18 (by decide) ?_
  refine r_idiv dX9_sells_20 (by decide) ?_
  refine r_iastN dX9_sells_21 (RM_1 hD) (by omega) (by decide) ?_
  refine r_mem (RM_s1 hD) ?_
  refine r_aload_n dX9_sells_22 rfl ?_
  refine r_iload_n dX9_sells_23 rfl ?_
  refine r_iconst (v := nI 2) dX9_sells_24 (by decide) ?_
  refine r_callV (As := [.int (nI (d)), .int (nI (2))]) dX9_sells_25 (tX9_drumAt hD (by omega)) rfl RM_0 rfl rfl oX9_drumAt rfl kX9_62M nX9_drumAt eX9_drumAt (by unfold fRoom; decide) (Nat.le_of_ble_eq_true rfl) rfl (bc' := 0) (bs' := 0) rfl rfl ?_
  show fR _ _ _ 28 _ (.int ((upd (g) (((10 + (3 * d)) + 2)) (((pMean (g) n d true) / (nI (20))))) (10 + 3 * d + 2)) :: _) _ _ _ _
  exact fR_iret dX9_sells_28 rfl (isI_of (by show upd _ _ _ _ = _; unfold upd; rw [if_pos rfl]))
def pTake (g : Nat → Int32) (n d : Nat) : Nat → Int32 := upd (upd (upd (upd (upd (upd (upd (g) (40 + 42 * n + 0) (nI (d))) (40 + 42 * n + 1) (pHard (upd (g) (40 + 42 * n + 0) (nI (d))) d)) (40 + 42 * n + 2) (nI (200))) (40 + 42 * n + 3) (-1)) (40 + 42 * n + 4) (-1)) (40 + 42 * n + 5) (nI (0))) (1) ((((upd (upd (upd (upd (upd (upd (g) (40 + 42 * n + 0) (nI (d))) (40 + 42 * n + 1) (pHard (upd (g) (40 + 42 * n + 0) (nI (d))) d)) (40 + 42 * n + 2) (nI (200))) (40 + 42 * n + 3) (-1)) (40 + 42 * n + 4) (-1)) (40 + 42 * n + 5) (nI (0))) (1)) + (nI (1))))
theorem tX9_takes {l : Launch} {κ : KP} {M : Mem} {m sA tA nA : Nat} {th sv kp ln ap pt : Int32} {hs : Int64} {g tx nu : Nat → Int32} (hD : rDis m sA tA nA) {n : Nat} (hn : n ≤ 8) (hg : g 1 = nI n) {d : Nat} (hd : d < 6) (hn8 : n < 8) (h0 : ¬ g (10 + 3 * d + 0) = 0) : fM l κ mX9_takes [.ref (m), .int (nI (d))] (RM M m sA tA nA (th) (sv) (kp) (ln) (ap) (pt) (hs) (g) (tx) (nu)) (isR (some (.int (nI (n)))) (RM M m sA tA nA (th) (sv) (kp) (ln) (ap) (pt) (hs) (pTake g n d) (tx) (nu))) := by
  refine fM_of rfl (by decide +kernel) (Nat.le_of_ble_eq_true rfl) ?_
  show fR l κ mX9_takes 0 [(0, .ref (m)), (1, .int (nI (d)))] [] (RM M m sA tA nA (th) (sv) (kp) (ln) (ap) (pt) (hs) (g) (tx) (nu)) 0 0 _
  refine r_aload_n dX9_takes_0 rfl ?_
  refine r_get (k := 1) dX9_takes_1 RM_0 rfl rfl (by decide) kX9_7F ?_
  refine r_iconst (v := nI 1) dX9_takes_4 (by decide) ?_
  refine r_ialdN dX9_takes_5 (RM_1 hD) (by omega) (by decide) rfl ?_
  refine r_top hg ?_
  refine r_istore_n (lv' := [(2, .int (nI (n))), (0, .ref (m)), (1, .int (nI (d)))]) dX9_takes_6 (by decide) rfl ?_
  refine r_aload_n dX9_takes_7 rfl ?_
  refine r_iload_n dX9_takes_8 rfl ?_
  refine r_iconst (v := nI 0) dX9_takes_9 (by decide) ?_
  refine r_iload_n dX9_takes_10 rfl ?_
  refine r_callV (As := [.int (nI (n)), .int (nI (0)), .int (nI (d))]) dX9_takes_11 (tX9_lay hD (by omega)) rfl RM_0 rfl rfl oX9_lay rfl kX9_41M nX9_lay eX9_lay (by unfold fRoom; decide) (Nat.le_of_ble_eq_true rfl) rfl (bc' := 0) (bs' := 0) rfl rfl ?_
  show fR _ _ _ 14 _ _ _ _ _ _
  refine r_aload_n dX9_takes_14 rfl ?_
  refine r_iload_n dX9_takes_15 rfl ?_
  refine r_iconst (v := nI 1) dX9_takes_16 (by decide) ?_
  refine r_aload_n dX9_takes_17 rfl ?_
  refine r_iload_n dX9_takes_18 rfl ?_
  have h0' : ¬ (upd (g) (40 + 42 * n + 0) (nI (d))) (10 + 3 * d + 0) = 0 := by rw [pk_un (by omega)]; exact h0
  refine r_callV (As := [.int (nI (d))]) dX9_takes_19 (tX9_hardness hD hd h0') rfl RM_0 rfl rfl oX9_hardness rfl kX9_81M nX9_hardness eX9_hardness (by unfold fRoom; decide) (Nat.le_of_ble_eq_true rfl) rfl (bc' := 0) (bs' := 0) rfl rfl ?_
  show fR _ _ _ 22 _ (.int (pHard (upd (g) (40 + 42 * n + 0) (nI (d))) d) :: _) _ _ _ _
  refine r_callV (As := [.int (nI (n)), .int (nI (1)), .int (pHard (upd (g) (40 + 42 * n + 0) (nI (d))) d)]) dX9_takes_22 (tX9_lay hD (by omega)) rfl RM_0 rfl rfl oX9_lay rfl kX9_41M nX9_lay eX9_lay (by unfold fRoom; decide) (Nat.le_of_ble_eq_true rfl) rfl (bc' := 0) (bs' := 0) rfl rfl ?_
  show fR _ _ _ 25 _ _ _ _ _ _
  refine r_aload_n dX9_takes_25 rfl ?_
  refine r_iload_n dX9_takes_26 rfl ?_
  refine r_iconst (v := nI 2) dX9_takes_27 (by decide) ?_
  refine r_sipush (v := nI 200) dX9_takes_28 (by decide) ?_
  refine r_callV (As := [.int (nI (n)), .int (nI (2)), .int (nI (200))]) dX9_takes_31 (tX9_lay hD (by omega)) rfl RM_0 rfl rfl oX9_lay rfl kX9_41M nX9_lay eX9_lay (by unfold fRoom; decide) (Nat.le_of_ble_eq_true rfl) rfl (bc' := 0) (bs' := 0) rfl rfl ?_
  show fR _ _ _ 34 _ _ _ _ _ _
  refine r_aload_n dX9_takes_34 rfl ?_
  refine r_iload_n dX9_takes_35 rfl ?_
  refine r_iconst (v := nI 3) dX9_takes_36 (by decide) ?_
  refine r_iconst (v := (-1)) dX9_takes_37 (by decide) ?_
  refine r_callV (As := [.int (nI (n)), .int (nI (3)), .int (-1)]) dX9_takes_38 (tX9_lay hD (by omega)) rfl RM_0 rfl rfl oX9_lay rfl kX9_41M nX9_lay eX9_lay (by unfold fRoom; decide) (Nat.le_of_ble_eq_true rfl) rfl (bc' := 0) (bs' := 0) rfl rfl ?_
  show fR _ _ _ 41 _ _ _ _ _ _
  refine r_aload_n dX9_takes_41 rfl ?_
  refine r_iload_n dX9_takes_42 rfl ?_
  refine r_iconst (v := nI 4) dX9_takes_43 (by decide) ?_
  refine r_iconst (v := (-1)) dX9_takes_44 (by decide) ?_
  refine r_callV (As := [.int (nI (n)), .int (nI (4)), .int (-1)]) dX9_takes_45 (tX9_lay hD (by omega)) rfl RM_0 rfl rfl oX9_lay rfl kX9_41M nX9_lay eX9_lay (by unfold fRoom; decide) (Nat.le_of_ble_eq_true rfl) rfl (bc' := 0) (bs' := 0) rfl rfl ?_
  show fR _ _ _ 48 _ _ _ _ _ _
  refine r_aload_n dX9_takes_48 rfl ?_
  refine r_iload_n dX9_takes_49 rfl ?_
  refine r_iconst (v := nI 5) dX9_takes_50 (by decide) ?_
  refine r_iconst (v := nI 0) dX9_takes_51 (by decide) ?_
  refine r_callV (As := [.int (nI (n)), .int (nI (5)), .int (nI (0))]) dX9_takes_52 (tX9_lay hD (by omega)) rfl RM_0 rfl rfl oX9_lay rfl kX9_41M nX9_lay eX9_lay (by unfold fRoom; decide) (Nat.le_of_ble_eq_true rfl) rfl (bc' := 0) (bs' := 0) rfl rfl ?_
  show fR _ _ _ 55 _ _ _ _ _ _
  refine r_aload_n dX9_takes_55 rfl ?_
  refine r_get (k := 1) dX9_takes_56 RM_0 rfl rfl (by decide) kX9_7F ?_
  refine r_iconst (v := nI 1) dX9_takes_59 (by decide) ?_
  refine r_dup2 dX9_takes_60 rfl rfl ?_
  refine r_ialdN dX9_takes_61 (RM_1 hD) (by omega) (by decide) rfl ?_
  refine r_iconst (v := nI 1) dX9_takes_62 (by decide) ?_
  refine r_iadd dX9_takes_63 ?_
  refine r_iastN dX9_takes_64 (RM_1 hD) (by omega) (by decide) ?_
  refine r_mem (RM_s1 hD) ?_
  refine r_iload_n dX9_takes_65 rfl ?_
  exact fR_iret dX9_takes_66 rfl (isI_of (by rfl))
def pAround (f : Nat → Int32) (k : Nat) : Int32 := if pOf f k 3 = -1 then nI 200 else f (28 + (pOf f k 3).toNatClampNeg)
def pStep (f : Nat → Int32) : Nat → Nat → Int32
  | 0 => f
  | k + 1 => upd (pStep f k) (40 + 42 * k + 2) (pWarm (pOf (pStep f k) k 2) (pAround (pStep f k) k))
theorem pStep_ne {f : Nat → Int32} {j : Nat} : ∀ k, (∀ i, j ≠ 40 + 42 * i + 2) → pStep f k j = f j
  | 0, _ => rfl
  | k + 1, h => by
    show upd (pStep f k) _ _ j = f j
    rw [pk_un (h k)]; exact pStep_ne k h
def pPass (f : Nat → Int32) (n : Nat) : Nat → Nat → Int32
  | 0 => f
  | j + 1 => pStep (pPass f n j) n
theorem pPass_ne {f : Nat → Int32} {n j : Nat} : ∀ i, (∀ i, j ≠ 40 + 42 * i + 2) → pPass f n i j = f j
  | 0, _ => rfl
  | i + 1, h => by
    show pStep (pPass f n i) n j = f j
    rw [pStep_ne n h]; exact pPass_ne i h
def pSame (f : Nat → Int32) (n : Nat) : Nat := pCnt (fun k => ¬ pOf f k 3 = -1 ∧ pOf f k 2 = pAround f k) n
theorem lX9_passes_in {l : Launch} {κ : KP} {M : Mem} {m sA tA nA : Nat} {th sv kp ln ap pt : Int32} {hs : Int64} {gi tx nu : Nat → Int32} (hD : rDis m sA tA nA) {n j mn : Nat} {P : FPost} (hn : n ≤ 8) (hg : gi 1 = nI n) (hB : ∀ k, k < n → ¬ pOf gi k 3 = -1 → ∃ b, b < 3 ∧ pOf gi k 3 = nI b) : ∀ (N k : Nat), n < N + k → k ≤ n → fR l κ mX9_passes 70 [(3, .int (nI (n))), (2, .int (nI (j))), (0, .ref (m)), (1, .int (nI (mn)))] [] (RM M m sA tA nA (th) (sv) (kp) (ln) (ap) (pt) (hs) (pStep gi n) (tx) (nu)) 0 0 P → fR l κ mX9_passes 9 [(3, .int (nI (k))), (2, .int (nI (j))), (0, .ref (m)), (1, .int (nI (mn)))] [] (RM M m sA tA nA (th) (sv) (kp) (ln) (ap) (pt) (hs) (pStep gi k) (tx) (nu)) 0 0 P := by
  intro N
  induction N with
  | zero => intro k h1 h2; omega
  | succ N ih =>
    intro k h1 h2 hE
    have h1s : pStep gi k 1 = nI n := by rw [pStep_ne k (by omega)]; exact hg
    have hBs : k < n → ¬ pOf (pStep gi k) k 3 = -1 → ∃ b, b < 3 ∧ pOf (pStep gi k) k 3 = nI b := by
      intro hkn
      have e3 : pOf (pStep gi k) k 3 = pOf gi k 3 := pStep_ne k (by omega)
      rw [e3]; exact hB k hkn
    refine r_iload_n dX9_passes_9 rfl ?_
    refine r_aload_n dX9_passes_10 rfl ?_
    refine r_get (k := 1) dX9_passes_11 RM_0 rfl rfl (by decide) kX9_7F ?_
    refine r_iconst (v := nI 1) dX9_passes_14 (by decide) ?_
    refine r_ialdN dX9_passes_15 (RM_1 hD) (by omega) (by decide) rfl ?_
    refine r_top h1s ?_
    refine r_icmp_geN (tgt := 70) dX9_passes_16 (by decide) (by omega) (by omega) (fun c1 => ?_) (fun c1 => ?_)
    · skip
      have e : k = n := by omega
      rw [e]
      exact hE
    · skip
      refine r_aload_n dX9_passes_19 rfl ?_
      refine r_iload_n dX9_passes_20 rfl ?_
      refine r_iconst (v := nI 2) dX9_passes_21 (by decide) ?_
      refine r_aload_n dX9_passes_22 rfl ?_
      refine r_iload_n dX9_passes_23 rfl ?_
      refine r_iconst (v := nI 2) dX9_passes_24 (by decide) ?_
      refine r_callV (As := [.int (nI (k)), .int (nI (2))]) dX9_passes_25 (tX9_of hD (by omega)) rfl RM_0 rfl rfl oX9_of rfl kX9_31M nX9_of eX9_of (by unfold fRoom; decide) (Nat.le_of_ble_eq_true rfl) rfl (bc' := 0) (bs' := 0) rfl rfl ?_
      show fR _ _ _ 28 _ (.int (pOf (pStep gi k) (k) (2)) :: _) _ _ _ _
      have hJ2 : fR l κ mX9_passes 58 [(3, .int (nI (k))), (2, .int (nI (j))), (0, .ref (m)), (1, .int (nI (mn)))] [.int ((pAround (pStep gi k) k)), .int (pOf (pStep gi k) (k) (2)), .int (nI (2)), .int (nI (k)), .ref (m)] (RM M m sA tA nA (th) (sv) (kp) (ln) (ap) (pt) (hs) (pStep gi k) (tx) (nu)) 0 0 (P) := by
        refine r_callS (As := [.int (pOf (pStep gi k) (k) (2)), .int ((pAround (pStep gi k) k))]) dX9_passes_58 tX9_warmed rfl oX9_warmed rfl kX9_38M sX9_warmed (by unfold fRoom; decide) (Nat.le_of_ble_eq_true rfl) rfl (bc' := 0) (bs' := 0) rfl rfl ?_
        show fR _ _ _ 61 _ (.int (pWarm (pOf (pStep gi k) (k) (2)) ((pAround (pStep gi k) k))) :: _) _ _ _ _
        refine r_callV (As := [.int (nI (k)), .int (nI (2)), .int (pWarm (pOf (pStep gi k) (k) (2)) ((pAround (pStep gi k) k)))]) dX9_passes_61 (tX9_lay hD (by omega)) rfl RM_0 rfl rfl oX9_lay rfl kX9_41M nX9_lay eX9_lay (by unfold fRoom; decide) (Nat.le_of_ble_eq_true rfl) rfl (bc' := 0) (bs' := 0) rfl rfl ?_
        show fR _ _ _ 64 _ _ _ _ _ _
        refine r_iinc (v := (nI (k + 1))) (lv' := [(3, .int (nI (k + 1))), (2, .int (nI (j))), (0, .ref (m)), (1, .int (nI (mn)))]) dX9_passes_64 rfl (nI_inc _) (by decide) rfl ?_
        refine r_goto (tgt := 9) dX9_passes_67 (by decide) ?_
        exact ih (k + 1) (by omega) (by omega) hE
      refine r_aload_n dX9_passes_28 rfl ?_
      refine r_iload_n dX9_passes_29 rfl ?_
      refine r_iconst (v := nI 3) dX9_passes_30 (by decide) ?_
      refine r_callV (As := [.int (nI (k)), .int (nI (3))]) dX9_passes_31 (tX9_of hD (by omega)) rfl RM_0 rfl rfl oX9_of rfl kX9_31M nX9_of eX9_of (by unfold fRoom; decide) (Nat.le_of_ble_eq_true rfl) rfl (bc' := 0) (bs' := 0) rfl rfl ?_
      show fR _ _ _ 34 _ (.int (pOf (pStep gi k) (k) (3)) :: _) _ _ _ _
      refine r_iconst (v := (-1)) dX9_passes_34 (by decide) ?_
      refine r_icmp_ne (tgt := 44) dX9_passes_35 (by decide) (fun c3 => ?_) (fun c3 => ?_)
      · skip
        obtain ⟨bb, hbb, ebb⟩ := hBs (by omega) c3
        refine r_aload_n dX9_passes_44 rfl ?_
        refine r_get (k := 1) dX9_passes_45 RM_0 rfl rfl (by decide) kX9_7F ?_
        refine r_bipush (v := nI 28) dX9_passes_48 (by decide) ?_
        refine r_aload_n dX9_passes_50 rfl ?_
        refine r_iload_n dX9_passes_51 rfl ?_
        refine r_iconst (v := nI 3) dX9_passes_52 (by decide) ?_
        refine r_callV (As := [.int (nI (k)), .int (nI (3))]) dX9_passes_53 (tX9_of hD (by omega)) rfl RM_0 rfl rfl oX9_of rfl kX9_31M nX9_of eX9_of (by unfold fRoom; decide) (Nat.le_of_ble_eq_true rfl) rfl (bc' := 0) (bs' := 0) rfl rfl ?_
        show fR _ _ _ 56 _ (.int (pOf (pStep gi k) (k) (3)) :: _) _ _ _ _
        refine r_top ebb ?_
        refine r_iaddN dX9_passes_56 ?_
        refine r_ialdN dX9_passes_57 (RM_1 hD) (by omega) (by decide) rfl ?_
        exact r_top (by unfold pAround; first | exact (if_pos (by assumption)).symm | (rw [if_neg (by assumption), ebb, nI_clamp (by omega)])) hJ2
      · skip
        refine r_sipush (v := nI 200) dX9_passes_38 (by decide) ?_
        refine r_goto (tgt := 58) dX9_passes_41 (by decide) ?_
        exact r_top (by unfold pAround; first | exact (if_pos (by assumption)).symm | (rw [if_neg (by assumption), ebb, nI_clamp (by omega)])) hJ2
