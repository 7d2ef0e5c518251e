theorem pIn_t {v lo hi : Int32} (h1 : ¬ v < lo) (h2 : ¬ hi < v) : nI 1 = bI (pIn v lo hi) := by
  have : pIn v lo hi = true := by simp only [pIn, Bool.and_eq_true, decide_eq_true_eq]; exact ⟨Int32.not_lt.mp h1, Int32.not_lt.mp h2⟩
  rw [this]; rfl
theorem pIn_f1 {v lo hi : Int32} (h1 : v < lo) : nI 0 = bI (pIn v lo hi) := by
  have : pIn v lo hi = false := by simp only [pIn, Bool.and_eq_false_iff, decide_eq_false_iff_not]; exact Or.inl (Int32.not_le.mpr h1)
  rw [this]; rfl
theorem pIn_f2 {v lo hi : Int32} (h1 : hi < v) : nI 0 = bI (pIn v lo hi) := by
  have : pIn v lo hi = false := by simp only [pIn, Bool.and_eq_false_iff, decide_eq_false_iff_not]; exact Or.inr (Int32.not_le.mpr h1)
  rw [this]; rfl
theorem pIn_nat {v : Int32} {n : Nat} (hn : n < 2 ^ 30) (h : pIn v (nI 0) (nI n - 1) = true) : ∃ k, k < n ∧ v = nI k := by
  simp only [pIn, Bool.and_eq_true, decide_eq_true_eq] at h
  obtain ⟨h1, h2⟩ := h
  have e1 : (0 : Int) ≤ v.toInt := by
    have := Int32.le_iff_toInt_le.mp h1
    rw [nI_toInt (by omega)] at this
    exact this
  have e2 : v.toInt ≤ (n : Int) - 1 := by
    have := Int32.le_iff_toInt_le.mp h2
    rw [show (nI n - 1 : Int32) = nI n - nI 1 from rfl, pk_sub_toInt hn (by decide)] at this
    exact this
  refine ⟨v.toInt.toNat, by omega, ?_⟩
  apply Int32.toInt_inj.mp
  rw [nI_toInt (by omega)]
  omega
theorem pIn_nat2 {v : Int32} {n : Nat} (hn : n < 2 ^ 30) (h : pIn v (nI 0) (nI n) = true) : ∃ k, k ≤ n ∧ v = nI k := by
  simp only [pIn, Bool.and_eq_true, decide_eq_true_eq] at h
  obtain ⟨h1, h2⟩ := h
  have e1 : (0 : Int) ≤ v.toInt := by
    have := Int32.le_iff_toInt_le.mp h1
    rw [nI_toInt (by omega)] at this
    exact this
  have e2 : v.toInt ≤ (n : Int) := by
    have := Int32.le_iff_toInt_le.mp h2
    rw [nI_toInt (by omega)] at this
    exact this
  refine ⟨v.toInt.toNat, by omega, ?_⟩
  apply Int32.toInt_inj.mp
  rw [nI_toInt (by omega)]
  omega
theorem tX9_in {l : Launch} {κ : KP} {M : Mem} {v lo hi : Int32} : fM l κ mX9_in [.int (v), .int (lo), .int (hi)] M (isI (bI (pIn v lo hi)) M) := by
  refine fM_of rfl (by decide +kernel) (Nat.le_of_ble_eq_true rfl) ?_
  show fR l κ mX9_in 0 [(0, .int (v)), (1, .int (lo)), (2, .int (hi))] [] M 0 0 _
  refine r_iload_n dX9_in_0 rfl ?_
  refine r_iload_n dX9_in_1 rfl ?_
  refine r_icmp_lt (tgt := 14) dX9_in_2 (by decide) (fun c1 => ?_) (fun c1 => ?_)
  · skip
    refine r_iconst (v := nI 0) dX9_in_14 (by decide) ?_
    exact fR_zret dX9_in_15 rfl rfl (isI_of (by first | exact pIn_t ‹_› ‹_› | exact pIn_f1 ‹_› | exact pIn_f2 ‹_›))
  · skip
    refine r_iload_n dX9_in_5 rfl ?_
    refine r_iload_n dX9_in_6 rfl ?_
    refine r_icmp_gt (tgt := 14) dX9_in_7 (by decide) (fun c2 => ?_) (fun c2 => ?_)
    · skip
      refine r_iconst (v := nI 0) dX9_in_14 (by decide) ?_
      exact fR_zret dX9_in_15 rfl rfl (isI_of (by first | exact pIn_t ‹_› ‹_› | exact pIn_f1 ‹_› | exact pIn_f2 ‹_›))
    · skip
      refine r_iconst (v := nI 1) dX9_in_10 (by decide) ?_
      refine r_goto (tgt := 15) dX9_in_11 (by decide) ?_
      exact fR_zret dX9_in_15 rfl rfl (isI_of (by first | exact pIn_t ‹_› ‹_› | exact pIn_f1 ‹_› | exact pIn_f2 ‹_›))
theorem tX9_div {l : Launch} {κ : KP} {M : Mem} {a b : Int32} (hb : ¬ b = 0) : fM l κ mX9_div [.int (a), .int (b)] M (isI (pDiv a b) M) := by
  refine fM_of rfl (by decide +kernel) (Nat.le_of_ble_eq_true rfl) ?_
  show fR l κ mX9_div 0 [(0, .int (a)), (1, .int (b))] [] M 0 0 _
  refine r_iload_n dX9_div_0 rfl ?_
  refine r_iload_n dX9_div_1 rfl ?_
  refine r_idiv dX9_div_2 hb ?_
  refine r_istore_n (lv' := [(2, .int (((a) / (b)))), (0, .int (a)), (1, .int (b))]) dX9_div_3 (by decide) rfl ?_
  refine r_iload_n dX9_div_4 rfl ?_
  refine r_iload_n dX9_div_5 rfl ?_
  refine r_irem dX9_div_6 hb ?_
  refine r_if_ge (tgt := 16) dX9_div_7 (by decide) (fun c1 => ?_) (fun c1 => ?_)
  · skip
    refine r_iload_n dX9_div_16 rfl ?_
    exact fR_iret dX9_div_17 rfl (isI_of (by unfold pDiv; first | (rw [if_neg (Int32.not_lt.mpr c1)]) | (rw [if_pos (Int32.not_le.mp c1)]; rfl)))
  · skip
    refine r_iload_n dX9_div_10 rfl ?_
    refine r_iconst (v := nI 1) dX9_div_11 (by decide) ?_
    refine r_isub dX9_div_12 ?_
    refine r_goto (tgt := 17) dX9_div_13 (by decide) ?_
    exact fR_iret dX9_div_17 rfl (isI_of (by unfold pDiv; first | (rw [if_neg (Int32.not_lt.mpr c1)]) | (rw [if_pos (Int32.not_le.mp c1)]; rfl)))
theorem tX9_size {l : Launch} {κ : KP} {M : Mem} {v : Int32} : fM l κ mX9_size [.int (v)] M (isI (pAbs v) M) := by
  refine fM_of rfl (by decide +kernel) (Nat.le_of_ble_eq_true rfl) ?_
  show fR l κ mX9_size 0 [(0, .int (v))] [] M 0 0 _
  refine r_iload_n dX9_size_0 rfl ?_
  refine r_if_ge (tgt := 9) dX9_size_1 (by decide) (fun c1 => ?_) (fun c1 => ?_)
  · skip
    refine r_iload_n dX9_size_9 rfl ?_
    exact fR_iret dX9_size_10 rfl (isI_of (by unfold pAbs; first | (rw [if_neg (Int32.not_lt.mpr c1)]) | (rw [if_pos (Int32.not_le.mp c1)])))
  · skip
    refine r_iload_n dX9_size_4 rfl ?_
    refine r_ineg dX9_size_5 ?_
    refine r_goto (tgt := 10) dX9_size_6 (by decide) ?_
    exact fR_iret dX9_size_10 rfl (isI_of (by unfold pAbs; first | (rw [if_neg (Int32.not_lt.mpr c1)]) | (rw [if_pos (Int32.not_le.mp c1)])))
theorem tX9_isOne {l : Launch} {κ : KP} {M : Mem} {v : Int32} : fM l κ mX9_isOne [.int (v)] M (isI (bI (pIn v (nI 0) (nI 2))) M) := by
  refine fM_of rfl (by decide +kernel) (Nat.le_of_ble_eq_true rfl) ?_
  show fR l κ mX9_isOne 0 [(0, .int (v))] [] M 0 0 _
  refine r_iload_n dX9_isOne_0 rfl ?_
  refine r_iconst (v := nI 0) dX9_isOne_1 (by decide) ?_
  refine r_iconst (v := nI 2) dX9_isOne_2 (by decide) ?_
  refine r_callS (As := [.int (v), .int (nI (0)), .int (nI (2))]) dX9_isOne_3 tX9_in rfl oX9_in rfl kX9_23M sX9_in (by unfold fRoom; decide) (Nat.le_of_ble_eq_true rfl) rfl (bc' := 0) (bs' := 0) rfl rfl ?_
  show fR _ _ _ 6 _ (.int (bI (pIn (v) (nI (0)) (nI (2)))) :: _) _ _ _ _
  exact r_zretB dX9_isOne_6 rfl (isI_of (by rfl))
theorem tX9_isDrum {l : Launch} {κ : KP} {M : Mem} {m sA tA nA : Nat} {th sv kp ln ap pt : Int32} {hs : Int64} {g tx nu : Nat → Int32} (hD : rDis m sA tA nA) {v : Int32} : fM l κ mX9_isDrum [.ref (m), .int (v)] (RM M m sA tA nA (th) (sv) (kp) (ln) (ap) (pt) (hs) (g) (tx) (nu)) (isI (bI (pIn v (nI 0) (g 0 - nI 1))) (RM M m sA tA nA (th) (sv) (kp) (ln) (ap) (pt) (hs) (g) (tx) (nu))) := by
  refine fM_of rfl (by decide +kernel) (Nat.le_of_ble_eq_true rfl) ?_
  show fR l κ mX9_isDrum 0 [(0, .ref (m)), (1, .int (v))] [] (RM M m sA tA nA (th) (sv) (kp) (ln) (ap) (pt) (hs) (g) (tx) (nu)) 0 0 _
  refine r_iload_n dX9_isDrum_0 rfl ?_
  refine r_iconst (v := nI 0) dX9_isDrum_1 (by decide) ?_
  refine r_aload_n dX9_isDrum_2 rfl ?_
  refine r_get (k := 1) dX9_isDrum_3 RM_0 rfl rfl (by decide) kX9_7F ?_
  refine r_iconst (v := nI 0) dX9_isDrum_6 (by decide) ?_
  refine r_ialdN dX9_isDrum_7 (RM_1 hD) (by omega) (by decide) rfl ?_
  refine r_iconst (v := nI 1) dX9_isDrum_8 (by decide) ?_
  refine r_isub dX9_isDrum_9 ?_
  refine r_callS (As := [.int (v), .int (nI (0)), .int ((((g) (0)) - (nI (1))))]) dX9_isDrum_10 tX9_in rfl oX9_in rfl kX9_23M sX9_in (by unfold fRoom; decide) (Nat.le_of_ble_eq_true rfl) rfl (bc' := 0) (bs' := 0) rfl rfl ?_
  show fR _ _ _ 13 _ (.int (bI (pIn (v) (nI (0)) ((((g) (0)) - (nI (1)))))) :: _) _ _ _ _
  exact r_zretB dX9_isDrum_13 rfl (isI_of (by rfl))
theorem tX9_isSample {l : Launch} {κ : KP} {M : Mem} {m sA tA nA : Nat} {th sv kp ln ap pt : Int32} {hs : Int64} {g tx nu : Nat → Int32} (hD : rDis m sA tA nA) {v : Int32} : fM l κ mX9_isSample [.ref (m), .int (v)] (RM M m sA tA nA (th) (sv) (kp) (ln) (ap) (pt) (hs) (g) (tx) (nu)) (isI (bI (pIn v (nI 0) (g 1 - nI 1))) (RM M m sA tA nA (th) (sv) (kp) (ln) (ap) (pt) (hs) (g) (tx) (nu))) := by
  refine fM_of rfl (by decide +kernel) (Nat.le_of_ble_eq_true rfl) ?_
  show fR l κ mX9_isSample 0 [(0, .ref (m)), (1, .int (v))] [] (RM M m sA tA nA (th) (sv) (kp) (ln) (ap) (pt) (hs) (g) (tx) (nu)) 0 0 _
  refine r_iload_n dX9_isSample_0 rfl ?_
  refine r_iconst (v := nI 0) dX9_isSample_1 (by decide) ?_
  refine r_aload_n dX9_isSample_2 rfl ?_
  refine r_get (k := 1) dX9_isSample_3 RM_0 rfl rfl (by decide) kX9_7F ?_
  refine r_iconst (v := nI 1) dX9_isSample_6 (by decide) ?_
  refine r_ialdN dX9_isSample_7 (RM_1 hD) (by omega) (by decide) rfl ?_
  refine r_iconst (v := nI 1) dX9_isSample_8 (by decide) ?_
  refine r_isub dX9_isSample_9 ?_
  refine r_callS (As := [.int (v), .int (nI (0)), .int ((((g) (1)) - (nI (1))))]) dX9_isSample_10 tX9_in rfl oX9_in rfl kX9_23M sX9_in (by unfold fRoom; decide) (Nat.le_of_ble_eq_true rfl) rfl (bc' := 0) (bs' := 0) rfl rfl ?_
  show fR _ _ _ 13 _ (.int (bI (pIn (v) (nI (0)) ((((g) (1)) - (nI (1)))))) :: _) _ _ _ _
  exact r_zretB dX9_isSample_13 rfl (isI_of (by rfl))
theorem tX9_holds {l : Launch} {κ : KP} {M : Mem} {m sA tA nA : Nat} {th sv kp ln ap pt : Int32} {hs : Int64} {g tx nu : Nat → Int32} (hD : rDis m sA tA nA) {v : Int32} : fM l κ mX9_holds [.ref (m), .int (v)] (RM M m sA tA nA (th) (sv) (kp) (ln) (ap) (pt) (hs) (g) (tx) (nu)) (isI (bI (decide (v = 0))) (RM M m sA tA nA (v) (sv) (kp) (ln) (ap) (pt) (hs) (g) (tx) (nu))) := by
  refine fM_of rfl (by decide +kernel) (Nat.le_of_ble_eq_true rfl) ?_
  show fR l κ mX9_holds 0 [(0, .ref (m)), (1, .int (v))] [] (RM M m sA tA nA (th) (sv) (kp) (ln) (ap) (pt) (hs) (g) (tx) (nu)) 0 0 _
  refine r_aload_n dX9_holds_0 rfl ?_
  refine r_iload_n dX9_holds_1 rfl ?_
  refine r_put (k := 0) (fs' := [.int (v), .ref (sA), .int (sv), .int (kp), .ref (tA), .int (ln), .int (ap), .int (pt), .ref (nA), .long (hs)]) dX9_holds_2 RM_0 rfl (by decide) kX9_19F rfl rfl rfl (Nat.le_of_ble_eq_true rfl) rfl ?_
  refine r_mem RM_put ?_
  refine r_iload_n dX9_holds_5 rfl ?_
  refine r_if_ne (tgt := 13) dX9_holds_6 (by decide) (fun c1 => ?_) (fun c1 => ?_)
  · skip
    refine r_iconst (v := nI 0) dX9_holds_13 (by decide) ?_
    exact fR_zret dX9_holds_14 rfl rfl (isI_of (by first | (rw [decide_eq_true (by assumption)]; rfl) | (rw [decide_eq_false (by assumption)]; rfl)))
  · skip
    refine r_iconst (v := nI 1) dX9_holds_9 (by decide) ?_
    refine r_goto (tgt := 14) dX9_holds_10 (by decide) ?_
    exact fR_zret dX9_holds_14 rfl rfl (isI_of (by first | (rw [decide_eq_true (by assumption)]; rfl) | (rw [decide_eq_false (by assumption)]; rfl)))
theorem tX9_of {l : Launch} {κ : KP} {M : Mem} {m sA tA nA : Nat} {th sv kp ln ap pt : Int32} {hs : Int64} {g tx nu : Nat → Int32} (hD : rDis m sA tA nA) {k w : Nat} (hk : 40 + 42 * k + w < 3008) : fM l κ mX9_of [.ref (m), .int (nI (k)), .int (nI (w))] (RM M m sA tA nA (th) (sv) (kp) (ln) (ap) (pt) (hs) (g) (tx) (nu)) (isI (pOf g k w) (RM M m sA tA nA (th) (sv) (kp) (ln) (ap) (pt) (hs) (g) (tx) (nu))) := by
  refine fM_of rfl (by decide +kernel) (Nat.le_of_ble_eq_true rfl) ?_
  show fR l κ mX9_of 0 [(0, .ref (m)), (1, .int (nI (k))), (2, .int (nI (w)))] [] (RM M m sA tA nA (th) (sv) (kp) (ln) (ap) (pt) (hs) (g) (tx) (nu)) 0 0 _
  refine r_aload_n dX9_of_0 rfl ?_
  refine r_get (k := 1) dX9_of_1 RM_0 rfl rfl (by decide) kX9_7F ?_
  refine r_bipush (v := nI 40) dX9_of_4 (by decide) ?_
  refine r_bipush (v := nI 42) dX9_of_6 (by decide) ?_
  refine r_iload_n dX9_of_8 rfl ?_
  refine r_imulN dX9_of_9 ?_
  refine r_iaddN dX9_of_10 ?_
  refine r_iload_n dX9_of_11 rfl ?_
  refine r_iaddN dX9_of_12 ?_
  refine r_ialdN dX9_of_13 (RM_1 hD) (by omega) (by decide) rfl ?_
  exact fR_iret dX9_of_14 rfl (isI_of (by rfl))
theorem tX9_lay {l : Launch} {κ : KP} {M : Mem} {m sA tA nA : Nat} {th sv kp ln ap pt : Int32} {hs : Int64} {g tx nu : Nat → Int32} (hD : rDis m sA tA nA) {k w : Nat} {v : Int32} (hk : 40 + 42 * k + w < 3008) : fM l κ mX9_lay [.ref (m), .int (nI (k)), .int (nI (w)), .int (v)] (RM M m sA tA nA (th) (sv) (kp) (ln) (ap) (pt) (hs) (g) (tx) (nu)) (isR none (RM M m sA tA nA (th) (sv) (kp) (ln) (ap) (pt) (hs) (upd g (40 + 42 * k + w) v) (tx) (nu))) := by
  refine fM_of rfl (by decide +kernel) (Nat.le_of_ble_eq_true rfl) ?_
  show fR l κ mX9_lay 0 [(0, .ref (m)), (1, .int (nI (k))), (2, .int (nI (w))), (3, .int (v))] [] (RM M m sA tA nA (th) (sv) (kp) (ln) (ap) (pt) (hs) (g) (tx) (nu)) 0 0 _
  refine r_aload_n dX9_lay_0 rfl ?_
  refine r_get (k := 1) dX9_lay_1 RM_0 rfl rfl (by decide) kX9_7F ?_
  refine r_bipush (v := nI 40) dX9_lay_4 (by decide) ?_
  refine r_bipush (v := nI 42) dX9_lay_6 (by decide) ?_
  refine r_iload_n dX9_lay_8 rfl ?_
  refine r_imulN dX9_lay_9 ?_
  refine r_iaddN dX9_lay_10 ?_
  refine r_iload_n dX9_lay_11 rfl ?_
  refine r_iaddN dX9_lay_12 ?_
  refine r_iload_n dX9_lay_13 rfl ?_
  refine r_iastN dX9_lay_14 (RM_1 hD) (by omega) (by decide) ?_
  refine r_mem (RM_s1 hD) ?_
  exact fR_vret dX9_lay_15 rfl isR_of
theorem tX9_drumAt {l : Launch} {κ : KP} {M : Mem} {m sA tA nA : Nat} {th sv kp ln ap pt : Int32} {hs : Int64} {g tx nu : Nat → Int32} (hD : rDis m sA tA nA) {d w : Nat} (hk : 10 + 3 * d + w < 3008) : fM l κ mX9_drumAt [.ref (m), .int (nI (d)), .int (nI (w))] (RM M m sA tA nA (th) (sv) (kp) (ln) (ap) (pt) (hs) (g) (tx) (nu)) (isI (g (10 + 3 * d + w)) (RM M m sA tA nA (th) (sv) (kp) (ln) (ap) (pt) (hs) (g) (tx) (nu))) := by
  refine fM_of rfl (by decide +kernel) (Nat.le_of_ble_eq_true rfl) ?_
  show fR l κ mX9_drumAt 0 [(0, .ref (m)), (1, .int (nI (d))), (2, .int (nI (w)))] [] (RM M m sA tA nA (th) (sv) (kp) (ln) (ap) (pt) (hs) (g) (tx) (nu)) 0 0 _
  refine r_aload_n dX9_drumAt_0 rfl ?_
  refine r_get (k := 1) dX9_drumAt_1 RM_0 rfl rfl (by decide) kX9_7F ?_
  refine r_bipush (v := nI 10) dX9_drumAt_4 (by decide) ?_
  refine r_iconst (v := nI 3) dX9_drumAt_6 (by decide) ?_
  refine r_iload_n dX9_drumAt_7 rfl ?_
  refine r_imulN dX9_drumAt_8 ?_
  refine r_iaddN dX9_drumAt_9 ?_
  refine r_iload_n dX9_drumAt_10 rfl ?_
  refine r_iaddN dX9_drumAt_11 ?_
  refine r_ialdN dX9_drumAt_12 (RM_1 hD) (by omega) (by decide) rfl ?_
  exact fR_iret dX9_drumAt_13 rfl (isI_of (by rfl))
theorem tX9_needleAt {l : Launch} {κ : KP} {M : Mem} {m sA tA nA : Nat} {th sv kp ln ap pt : Int32} {hs : Int64} {g tx nu : Nat → Int32} (hD : rDis m sA tA nA) {d w : Nat} (hk : 31 + 3 * d + w < 3008) : fM l κ mX9_needleAt [.ref (m), .int (nI (d)), .int (nI (w))] (RM M m sA tA nA (th) (sv) (kp) (ln) (ap) (pt) (hs) (g) (tx) (nu)) (isI (g (31 + 3 * d + w)) (RM M m sA tA nA (th) (sv) (kp) (ln) (ap) (pt) (hs) (g) (tx) (nu))) := by
  refine fM_of rfl (by decide +kernel) (Nat.le_of_ble_eq_true rfl) ?_
  show fR l κ mX9_needleAt 0 [(0, .ref (m)), (1, .int (nI (d))), (2, .int (nI (w)))] [] (RM M m sA tA nA (th) (sv) (kp) (ln) (ap) (pt) (hs) (g) (tx) (nu)) 0 0 _
  refine r_aload_n dX9_needleAt_0 rfl ?_
  refine r_get (k := 1) dX9_needleAt_1 RM_0 rfl rfl (by decide) kX9_7F ?_
  refine r_bipush (v := nI 31) dX9_needleAt_4 (by decide) ?_
  refine r_iconst (v := nI 3) dX9_needleAt_6 (by decide) ?_
  refine r_iload_n dX9_needleAt_7 rfl ?_
  refine r_imulN dX9_needleAt_8 ?_
  refine r_iaddN dX9_needleAt_9 ?_
  refine r_iload_n dX9_needleAt_10 rfl ?_
  refine r_iaddN dX9_needleAt_11 ?_
  refine r_ialdN dX9_needleAt_12 (RM_1 hD) (by omega) (by decide) rfl ?_
  exact fR_iret dX9_needleAt_13 rfl (isI_of (by rfl))
theorem tX9_warmed {l : Launch} {κ : KP} {M : Mem} {v w : Int32} : fM l κ mX9_warmed [.int (v), .int (w)] M (isI (pWarm v w) M) := by
  refine fM_of rfl (by decide +kernel) (Nat.le_of_ble_eq_true rfl) ?_
  show fR l κ mX9_warmed 0 [(0, .int (v)), (1, .int (w))] [] M 0 0 _
  refine r_iload_n dX9_warmed_0 rfl ?_
  refine r_iload_n dX9_warmed_1 rfl ?_
  refine r_isub dX9_warmed_2 ?_
  refine r_iconst (v := nI 4) dX9_warmed_3 (by decide) ?_
  refine r_callS (As := [.int (((w) - (v))), .int (nI (4))]) dX9_warmed_4 (tX9_div (by decide)) rfl oX9_div rfl kX9_27M sX9_div (by unfold fRoom; decide) (Nat.le_of_ble_eq_true rfl) rfl (bc' := 0) (bs' := 0) rfl rfl ?_
  show fR _ _ _ 7 _ (.int (pDiv (((w) - (v))) (nI (4))) :: _) _ _ _ _
  refine r_istore_n (lv' := [(2, .int (pDiv (((w) - (v))) (nI (4)))), (0, .int (v)), (1, .int (w))]) dX9_warmed_7 (by decide) rfl ?_
  refine r_iload_n dX9_warmed_8 rfl ?_
  refine r_iload_n dX9_warmed_9 rfl ?_
  refine r_iadd dX9_warmed_10 ?_
  refine r_iload_n dX9_warmed_11 rfl ?_
  refine r_if_ne (tgt := 24) dX9_warmed_12 (by decide) (fun c1 => ?_) (fun c1 => ?_)
  · skip
    refine r_iconst (v := nI 0) dX9_warmed_24 (by decide) ?_
    refine r_iadd dX9_warmed_25 ?_
    exact fR_iret dX9_warmed_26 rfl (isI_of (by unfold pWarm; (repeat (first | rw [if_pos (by first | assumption | exact Int32.not_le.mp (by assumption) | exact Int32.not_lt.mp (by assumption) | omega)] | rw [if_neg (by first | assumption | exact Int32.not_lt.mpr (by assumption) | exact Int32.not_le.mpr (by assumption) | omega)])); first | done | rfl))
  · skip
    refine r_iload_n dX9_warmed_15 rfl ?_
    refine r_iload_n dX9_warmed_16 rfl ?_
    refine r_icmp_le (tgt := 24) dX9_warmed_17 (by decide) (fun c2 => ?_) (fun c2 => ?_)
    · skip
      refine r_iconst (v := nI 0) dX9_warmed_24 (by decide) ?_
      refine r_iadd dX9_warmed_25 ?_
      exact fR_iret dX9_warmed_26 rfl (isI_of (by unfold pWarm; (repeat (first | rw [if_pos (by first | assumption | exact Int32.not_le.mp (by assumption) | exact Int32.not_lt.mp (by assumption) | omega)] | rw [if_neg (by first | assumption | exact Int32.not_lt.mpr (by assumption) | exact Int32.not_le.mpr (by assumption) | omega)])); first | done | rfl))
    · skip
      refine r_iconst (v := nI 1) dX9_warmed_20 (by decide) ?_
      refine r_goto (tgt := 25) dX9_warmed_21 (by decide) ?_
      refine r_iadd dX9_warmed_25 ?_
      exact fR_iret dX9_warmed_26 rfl (isI_of (by unfold pWarm; (repeat (first | rw [if_pos (by first | assumption | exact Int32.not_le.mp (by assumption) | exact Int32.not_lt.mp (by assumption) | omega)] | rw [if_neg (by first | assumption | exact Int32.not_lt.mpr (by assumption) | exact Int32.not_le.mpr (by assumption) | omega)])); first | done | rfl))
theorem lX9_inBath {l : Launch} {κ : KP} {M : Mem} {m sA tA nA : Nat} {th sv kp ln ap pt : Int32} {hs : Int64} {g tx nu : Nat → Int32} (hD : rDis m sA tA nA) {n : Nat} (hn : n ≤ 8) (hg : g 1 = nI n) {b : Int32} : ∀ (N k : Nat), n < N + k → k ≤ n → fR l κ mX9_inBath 4 [(3, .int (nI (k))), (2, .int (nI (pInBath g k b))), (0, .ref (m)), (1, .int (b))] [] (RM M m sA tA nA (th) (sv) (kp) (ln) (ap) (pt) (hs) (g) (tx) (nu)) 0 0 (isI (nI (pInBath g n b)) (RM M m sA tA nA (th) (sv) (kp) (ln) (ap) (pt) (hs) (g) (tx) (nu))) := by
  intro N
  induction N with
  | zero => intro k h1 h2; omega
  | succ N ih =>
    intro k h1 h2
    have hle := pCnt_le (fun k => pOf g k 3 = b) k
    have hle2 : pInBath g k b ≤ k := hle
    refine r_iload_n dX9_inBath_4 rfl ?_
    refine r_aload_n dX9_inBath_5 rfl ?_
    refine r_get (k := 1) dX9_inBath_6 RM_0 rfl rfl (by decide) kX9_7F ?_
    refine r_iconst (v := nI 1) dX9_inBath_9 (by decide) ?_
    refine r_ialdN dX9_inBath_10 (RM_1 hD) (by omega) (by decide) rfl ?_
    refine r_top hg ?_
    refine r_icmp_geN (tgt := 38) dX9_inBath_11 (by decide) (by omega) (by omega) (fun c1 => ?_) (fun c1 => ?_)
    · have e : k = n := by omega
      subst e
      refine r_iload_n dX9_inBath_38 rfl ?_
      exact fR_iret dX9_inBath_39 rfl (isI_of (by rfl))
    · skip
      refine r_iload_n dX9_inBath_14 rfl ?_
      refine r_aload_n dX9_inBath_15 rfl ?_
      refine r_iload_n dX9_inBath_16 rfl ?_
      refine r_iconst (v := nI 3) dX9_inBath_17 (by decide) ?_
      refine r_callV (As := [.int (nI (k)), .int (nI (3))]) dX9_inBath_18 (tX9_of hD (by omega)) rfl RM_0 rfl rfl oX9_of rfl kX9_31M nX9_of eX9_of (by unfold fRoom; decide) (Nat.le_of_ble_eq_true rfl) rfl (bc' := 0) (bs' := 0) rfl rfl ?_
      show fR _ _ _ 21 _ (.int (pOf (g) (k) (3)) :: _) _ _ _ _
      refine r_iload_n dX9_inBath_21 rfl ?_
      refine r_icmp_ne (tgt := 29) dX9_inBath_22 (by decide) (fun c2 => ?_) (fun c2 => ?_)
      · skip
        refine r_iconst (v := nI 0) dX9_inBath_29 (by decide) ?_
        refine r_iaddN dX9_inBath_30 ?_
        refine r_istore_n (lv' := [(2, .int (nI ((pInBath g k b + 0)))), (3, .int (nI (k))), (0, .ref (m)), (1, .int (b))]) dX9_inBath_31 (by decide) rfl ?_
        refine r_iinc (v := (nI (k + 1))) (lv' := [(3, .int (nI (k + 1))), (2, .int (nI ((pInBath g k b + 0)))), (0, .ref (m)), (1, .int (b))]) dX9_inBath_32 rfl (nI_inc _) (by decide) rfl ?_
        refine r_goto (tgt := 4) dX9_inBath_35 (by decide) ?_
        first | rw [show pInBath g k b + 1 = pInBath g (k + 1) b from pCnt_t c2] | rw [show pInBath g k b + 0 = pInBath g (k + 1) b from pCnt_f c2]
        exact ih (k + 1) (by omega) (by omega)
      · skip
        refine r_iconst (v := nI 1) dX9_inBath_25 (by decide) ?_
        refine r_goto (tgt := 30) dX9_inBath_26 (by decide) ?_
        refine r_iaddN dX9_inBath_30 ?_
        refine r_istore_n (lv' := [(2, .int (nI ((pInBath g k b + 1)))), (3, .int (nI (k))), (0, .ref (m)), (1, .int (b))]) dX9_inBath_31 (by decide) rfl ?_
        refine r_iinc (v := (nI (k + 1))) (lv' := [(3, .int (nI (k + 1))), (2, .int (nI ((pInBath g k b + 1)))), (0, .ref (m)), (1, .int (b))]) dX9_inBath_32 rfl (nI_inc _) (by decide) rfl ?_
        refine r_goto (tgt := 4) dX9_inBath_35 (by decide) ?_
        first | rw [show pInBath g k b + 1 = pInBath g (k + 1) b from pCnt_t c2] | rw [show pInBath g k b + 0 = pInBath g (k + 1) b from pCnt_f c2]
        exact ih (k + 1) (by omega) (by omega)
theorem tX9_inBath {l : Launch} {κ : KP} {M : Mem} {m sA tA nA : Nat} {th sv kp ln ap pt : Int32} {hs : Int64} {g tx nu : Nat → Int32} (hD : rDis m sA tA nA) {n : Nat} (hn : n ≤ 8) (hg : g 1 = nI n) {b : Int32} : fM l κ mX9_inBath [.ref (m), .int (b)] (RM M m sA tA nA (th) (sv) (kp) (ln) (ap) (pt) (hs) (g) (tx) (nu)) (isI (nI (pInBath g n b)) (RM M m sA tA nA (th) (sv) (kp) (ln) (ap) (pt) (hs) (g) (tx) (nu))) := by
  refine fM_of rfl (by decide +kernel) (Nat.le_of_ble_eq_true rfl) ?_
  show fR l κ mX9_inBath 0 [(0, .ref (m)), (1, .int (b))] [] (RM M m sA tA nA (th) (sv) (kp) (ln) (ap) (pt) (hs) (g) (tx) (nu)) 0 0 _
  refine r_iconst (v := nI 0) dX9_inBath_0 (by decide) ?_
  refine r_istore_n (lv' := [(2, .int (nI (0))), (0, .ref (m)), (1, .int (b))]) dX9_inBath_1 (by decide) rfl ?_
  refine r_iconst (v := nI 0) dX9_inBath_2 (by decide) ?_
  refine r_istore_n (lv' := [(3, .int (nI (0))), (2, .int (nI (0))), (0, .ref (m)), (1, .int (b))]) dX9_inBath_3 (by decide) rfl ?_
  exact lX9_inBath hD hn hg (n + 1) 0 (by omega) (by omega)
theorem tX9_hasRoom {l : Launch} {κ : KP} {M : Mem} {m sA tA nA : Nat} {th sv kp ln ap pt : Int32} {hs : Int64} {g tx nu : Nat → Int32} (hD : rDis m sA tA nA) {n : Nat} (hn : n ≤ 8) (hg : g 1 = nI n) {k : Nat} {b : Int32} (hk : k < 8) : fM l κ mX9_hasRoom [.ref (m), .int (nI (k)), .int (b)] (RM M m sA tA nA (th) (sv) (kp) (ln) (ap) (pt) (hs) (g) (tx) (nu)) (isI (bI (decide (pOf g k 3 = b ∨ pInBath g n b < 3))) (RM M m sA tA nA (th) (sv) (kp) (ln) (ap) (pt) (hs) (g) (tx) (nu))) := by
  refine fM_of rfl (by decide +kernel) (Nat.le_of_ble_eq_true rfl) ?_
  have hle2 : pInBath g n b ≤ n := pCnt_le (fun k => pOf g k 3 = b) n
  show fR l κ mX9_hasRoom 0 [(0, .ref (m)), (1, .int (nI (k))), (2, .int (b))] [] (RM M m sA tA nA (th) (sv) (kp) (ln) (ap) (pt) (hs) (g) (tx) (nu)) 0 0 _
  refine r_aload_n dX9_hasRoom_0 rfl ?_
  refine r_iload_n dX9_hasRoom_1 rfl ?_
  refine r_iconst (v := nI 3) dX9_hasRoom_2 (by decide) ?_
  refine r_callV (As := [.int (nI (k)), .int (nI (3))]) dX9_hasRoom_3 (tX9_of hD (by omega)) rfl RM_0 rfl rfl oX9_of rfl kX9_31M nX9_of eX9_of (by unfold fRoom; decide) (Nat.le_of_ble_eq_true rfl) rfl (bc' := 0) (bs' := 0) rfl rfl ?_
  show fR _ _ _ 6 _ (.int (pOf (g) (k) (3)) :: _) _ _ _ _
  refine r_iload_n dX9_hasRoom_6 rfl ?_
  refine r_icmp_eq (tgt := 19) dX9_hasRoom_7 (by decide) (fun c1 => ?_) (fun c1 => ?_)
  · skip
    refine r_iconst (v := nI 1) dX9_hasRoom_19 (by decide) ?_
    refine r_goto (tgt := 24) dX9_hasRoom_20 (by decide) ?_
    exact fR_zret dX9_hasRoom_24 rfl rfl (isI_of (by first | (rw [decide_eq_true (Or.inl ‹_›)]; rfl) | (rw [decide_eq_true (Or.inr (by omega))]; rfl) | (rw [decide_eq_false (by rintro (h | h); exact absurd h (by assumption); omega)]; rfl)))
  · skip
    refine r_aload_n dX9_hasRoom_10 rfl ?_
    refine r_iload_n dX9_hasRoom_11 rfl ?_
    refine r_callV (As := [.int (b)]) dX9_hasRoom_12 (tX9_inBath hD hn hg) rfl RM_0 rfl rfl oX9_inBath rfl kX9_34M nX9_inBath eX9_inBath (by unfold fRoom; decide) (Nat.le_of_ble_eq_true rfl) rfl (bc' := 0) (bs' := 0) rfl rfl ?_
    show fR _ _ _ 15 _ (.int (nI (pInBath g n (b))) :: _) _ _ _ _
    refine r_iconst (v := nI 3) dX9_hasRoom_15 (by decide) ?_
    refine r_icmp_geN (tgt := 23) dX9_hasRoom_16 (by decide) (by omega) (by omega) (fun c2 => ?_) (fun c2 => ?_)
    · skip
      refine r_iconst (v := nI 0) dX9_hasRoom_23 (by decide) ?_
      exact fR_zret dX9_hasRoom_24 rfl rfl (isI_of (by first | (rw [decide_eq_true (Or.inl ‹_›)]; rfl) | (rw [decide_eq_true (Or.inr (by omega))]; rfl) | (rw [decide_eq_false (by rintro (h | h); exact absurd h (by assumption); omega)]; rfl)))
    · skip
      refine r_iconst (v := nI 1) dX9_hasRoom_19 (by decide) ?_
      refine r_goto (tgt := 24) dX9_hasRoom_20 (by decide) ?_
      exact fR_zret dX9_hasRoom_24 rfl rfl (isI_of (by first | (rw [decide_eq_true (Or.inl ‹_›)]; rfl) | (rw [decide_eq_true (Or.inr (by omega))]; rfl) | (rw [decide_eq_false (by rintro (h | h); exact absurd h (by assumption); omega)]; rfl)))
