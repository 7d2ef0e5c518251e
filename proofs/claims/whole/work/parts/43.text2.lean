theorem rq_of {M : Mem} {m sA tA nA : Nat} {th sv kp ln pt : Int32} {hs : Int64} {g tx : Nat → Int32} {R : Bool × Nat × (Nat → Int32)} {b : Bool} {a : Nat} {u : Nat → Int32} (h : R = (b, a, u)) : isI (bI R.1) (RM M m sA tA nA th sv kp ln (nI R.2.1) pt hs g tx R.2.2) (.inl (some (.int (bI b)))) (RM M m sA tA nA th sv kp ln (nI a) pt hs g tx u) := by
  subst h; exact isI_of rfl
theorem rq2_of {M : Mem} {m sA tA nA : Nat} {th sv kp ln : Int32} {hs : Int64} {g tx : Nat → Int32} {A : (Bool × Nat × (Nat → Int32)) × Nat} {b : Bool} {a p : Nat} {u : Nat → Int32} (h : A = ((b, a, u), p)) : isI (bI A.1.1) (RM M m sA tA nA th sv kp ln (nI A.1.2.1) (nI A.2) hs g tx A.1.2.2) (.inl (some (.int (bI b)))) (RM M m sA tA nA th sv kp ln (nI a) (nI p) hs g tx u) := by
  subst h; exact isI_of rfl
theorem pr_t {p : Prop} [Decidable p] {α : Type} {x : α} (h : p) : (decide p, x) = (true, x) := by rw [decide_eq_true h]
theorem pr_f {p : Prop} [Decidable p] {α : Type} {x : α} (h : ¬ p) : (decide p, x) = (false, x) := by rw [decide_eq_false h]
theorem pr_b {β : Type} {R : Bool × β} {b : Bool} (h : R.1 = b) : R = (b, R.2) := by
  cases R; cases h; rfl
theorem rDig_le {ch : Nat → Nat} {tx nu : Nat → Int32} {ln p most i : Nat} (hT : TX tx ln ch) (hi : i ≤ ln) : i ≤ (rDig ch nu p most i).2.1 ∧ (rDig ch nu p most i).2.1 ≤ ln := by
  unfold rDig
  split
  · rename_i h
    have := hT.in (i := i) (by have := h.1; omega)
    exact ⟨by show i ≤ i + 1; omega, this⟩
  · exact ⟨Nat.le_refl _, hi⟩
theorem rNum_le {ch : Nat → Nat} {tx nu : Nat → Int32} {ln p least most i : Nat} (hT : TX tx ln ch) (hi : i ≤ ln) : i ≤ (rNum ch nu p least most i).2.1 ∧ (rNum ch nu p least most i).2.1 ≤ ln := rnum_le hT hi
theorem rBath_le {ch : Nat → Nat} {tx nu : Nat → Int32} {ln i : Nat} (hT : TX tx ln ch) (hi : i ≤ ln) : i ≤ (rBath ch nu i).2.1 ∧ (rBath ch nu i).2.1 ≤ ln := by
  unfold rBath
  split
  · rename_i h
    have h1 := hT.in (i := i) (by have := h.1; omega)
    split
    · rename_i h2
      have := hT.in (i := i + 1) (by have := h2.1; omega)
      exact ⟨by show i ≤ i + 1 + 1; omega, this⟩
    · split
      · rename_i h2
        have := hT.in (i := i + 1) (by omega)
        exact ⟨by show i ≤ i + 1 + 1; omega, this⟩
      · exact ⟨by show i ≤ i + 1; omega, h1⟩
  · exact ⟨Nat.le_refl _, hi⟩
theorem rLoad_le {ch : Nat → Nat} {tx nu : Nat → Int32} {ln i : Nat} (hT : TX tx ln ch) (hi : i ≤ ln) : i ≤ (rLoad ch nu i).2.1 ∧ (rLoad ch nu i).2.1 ≤ ln := by
  have h1 := rnum_le (least := 50) (most := 200) hT hi
  unfold rLoad
  split
  · split
    · rename_i h2
      have h3 := hT.in (i := (rnum ch 50 200 i).2) (by omega)
      have h4 := rNum_le (nu := upd nu 2 (nI (rnum ch 50 200 i).1)) (p := 3) (least := 1) (most := 60) hT (i := (rnum ch 50 200 i).2 + 1) h3
      omega
    · exact h1
  · exact h1
theorem rSink_le {ch : Nat → Nat} {tx nu : Nat → Int32} {ln i : Nat} (hT : TX tx ln ch) (hi : i ≤ ln) : i ≤ (rSink ch nu i).2.1 ∧ (rSink ch nu i).2.1 ≤ ln := by
  unfold rSink
  split
  · rename_i h
    have h1 := hT.in (i := i) (by have := h.1; omega)
    split
    · rename_i h2
      have h3 := hT.in (i := i + 1) (by have := h2.1; omega)
      split
      · rename_i h4
        have h5 := hT.in (i := i + 1 + 1) (by omega)
        have h6 := rLoad_le (nu := dgN (dgN nu ch 0 i) ch 1 (i + 1)) hT (i := i + 1 + 1 + 1) h5
        omega
      · exact ⟨by show i ≤ i + 1 + 1; omega, h3⟩
    · exact ⟨by show i ≤ i + 1; omega, h1⟩
  · exact ⟨Nat.le_refl _, hi⟩
theorem rPart_le {ch : Nat → Nat} {tx nu : Nat → Int32} {ln i : Nat} (hT : TX tx ln ch) (hi : i ≤ ln) : i ≤ (rPart ch nu i).2.1 ∧ (rPart ch nu i).2.1 ≤ ln ∧ ((rPart ch nu i).1 = true → i < (rPart ch nu i).2.1) := by
  have hin : 0 < ch i → i + 1 ≤ ln := fun h => hT.in h
  unfold rPart
  split
  · have := rDig_le (nu := nu) (p := 0) (most := 5) hT (hin (by omega)); exact ⟨by omega, this.2, fun _ => by omega⟩
  split
  · have := rNum_le (nu := nu) (p := 0) (least := 1) (most := 99) hT (hin (by omega)); exact ⟨by omega, this.2, fun _ => by omega⟩
  split
  · have := rBath_le (nu := nu) hT (hin (by omega)); exact ⟨by omega, this.2, fun _ => by omega⟩
  split
  · have := rSink_le (nu := nu) hT (hin (by omega)); exact ⟨by omega, this.2, fun _ => by omega⟩
  split
  · have := rDig_le (nu := nu) (p := 0) (most := 7) hT (hin (by omega)); exact ⟨by omega, this.2, fun _ => by omega⟩
  split
  · have := rDig_le (nu := nu) (p := 0) (most := 5) hT (hin (by omega)); exact ⟨by omega, this.2, fun _ => by omega⟩
  · exact ⟨Nat.le_refl _, hi, fun h => by cases h⟩
theorem lk_part_all : ((List.range 127).all fun c => c == 36 || c == 43 || c == 98 || c == 110 || c == 111 || c == 115 || decide (Op.lookupswitch.offset [(36, 59), (43, 108), (98, 74), (110, 117), (111, 66), (115, 59)] 184 (nI c).toInt = 184)) = true := by decide +kernel
theorem lk_part (c : Nat) (hc : c < 127) : ¬ c = 36 → ¬ c = 43 → ¬ c = 98 → ¬ c = 110 → ¬ c = 111 → ¬ c = 115 → Op.lookupswitch.offset [(36, 59), (43, 108), (98, 74), (110, 117), (111, 66), (115, 59)] 184 (nI c).toInt = 184 := by
  intro h36 h43 h98 h110 h111 h115
  have h := List.all_eq_true.mp lk_part_all c (List.mem_range.mpr hc)
  simp only [Bool.or_eq_true, beq_iff_eq, decide_eq_true_eq] at h
  omega
theorem tX9_readsPart_1 {l : Launch} {κ : KP} {M : Mem} {m sA tA nA : Nat} {th sv kp pt : Int32} {hs : Int64} {g tx nu : Nat → Int32} {ch : Nat → Nat} {ln i : Nat} (hD : rDis m sA tA nA) (hT : TX tx ln ch) (hi : i ≤ ln) (hz : ¬ ch i = 0) : fM l κ mX9_readsPart [.ref (m)] (RM M m sA tA nA (th) (sv) (kp) (nI (ln)) (nI (i)) (pt) (hs) (g) (tx) (nu)) ((isI (bI (rPart ch nu i).1) (RM M m sA tA nA (th) (sv) (kp) (nI (ln)) (nI ((rPart ch nu i).2.1)) (nI (ch i)) (hs) (g) (tx) ((rPart ch nu i).2.2)))) := by
  refine fM_of rfl (by decide +kernel) (Nat.le_of_ble_eq_true rfl) ?_
  have hl := hT.1
  have hx := hT.lt i
  have hin := hT.in (i := i) (by omega)
  show fR l κ mX9_readsPart 0 [(0, .ref (m))] [] (RM M m sA tA nA (th) (sv) (kp) (nI (ln)) (nI (i)) (pt) (hs) (g) (tx) (nu)) 0 0 _
  refine r_aload_n dX9_readsPart_0 rfl ?_
  refine r_aload_n dX9_readsPart_1 rfl ?_
  refine r_callV (As := []) dX9_readsPart_2 (tX9_sign hD hT (by omega)) rfl RM_0 rfl rfl oX9_sign rfl kX9_141M nX9_sign eX9_sign (by unfold fRoom; decide) (Nat.le_of_ble_eq_true rfl) rfl (bc' := 0) (bs' := 0) rfl rfl ?_
  show fR _ _ _ 5 _ (.int (nI (ch i)) :: _) _ _ _ _
  refine r_put (k := 7) (fs' := [.int (th), .ref (sA), .int (sv), .int (kp), .ref (tA), .int (nI (ln)), .int (nI (i)), .int (nI (ch i)), .ref (nA), .long (hs)]) dX9_readsPart_5 RM_0 rfl (by decide) kX9_148F rfl rfl rfl (Nat.le_of_ble_eq_true rfl) rfl ?_
  refine r_mem RM_put ?_
  refine r_aload_n dX9_readsPart_8 rfl ?_
  refine r_dup dX9_readsPart_9 rfl ?_
  refine r_get (k := 6) dX9_readsPart_10 RM_0 rfl rfl (by decide) kX9_138F ?_
  refine r_aload_n dX9_readsPart_13 rfl ?_
  refine r_get (k := 7) dX9_readsPart_14 RM_0 rfl rfl (by decide) kX9_148F ?_
  refine r_if_neN (tgt := 24) dX9_readsPart_17 (by decide) (by omega) (fun c1 => ?_) (fun c1 => ?_)
  · skip
    refine r_iconst (v := nI 1) dX9_readsPart_24 (by decide) ?_
    refine r_iaddN dX9_readsPart_25 ?_
    refine r_put (k := 6) (fs' := [.int (th), .ref (sA), .int (sv), .int (kp), .ref (tA), .int (nI (ln)), .int (nI ((i + 1))), .int (nI (ch i)), .ref (nA), .long (hs)]) dX9_readsPart_26 RM_0 rfl (by decide) kX9_138F rfl rfl rfl (Nat.le_of_ble_eq_true rfl) rfl ?_
    refine r_mem RM_put ?_
    refine r_aload_n dX9_readsPart_29 rfl ?_
    refine r_get (k := 7) dX9_readsPart_30 RM_0 rfl rfl (by decide) kX9_148F ?_
    by_cases c2 : ch i = 36
    · skip
      refine r_top (y := nI 36) (by rw [c2]) ?_
      refine r_lookup (off := 59) (tgt := 92) dX9_readsPart_33 (by decide) (by decide) (by decide) ?_
      refine r_aload_n dX9_readsPart_92 rfl ?_
      refine r_iconst (v := nI 0) dX9_readsPart_93 (by decide) ?_
      refine r_iconst (v := nI 5) dX9_readsPart_94 (by decide) ?_
      by_cases c3 : pDg ch 5 ((i + 1))
      · skip
        refine r_callV (As := [.int (nI (0)), .int (nI (5))]) dX9_readsPart_95 (tX9_readsDigit_t hD hT (by omega) (by omega) (by omega) c3) rfl RM_0 rfl rfl oX9_readsDigit rfl kX9_151M nX9_readsDigit eX9_readsDigit (by unfold fRoom; decide) (Nat.le_of_ble_eq_true rfl) rfl (bc' := 0) (bs' := 0) rfl rfl ?_
        show fR _ _ _ 98 _ (.int (bI (true)) :: _) _ _ _ _
        have qc3 := hT.in (i := (i + 1)) (by have := c3.1; omega)
        exact r_zretB dX9_readsPart_98 rfl (rq_of (b := true) (a := (i + 1) + 1) (u := dgN (nu) ch 0 ((i + 1))) (by unfold rPart; (repeat (first | rw [if_pos (by first | assumption | exact Int32.not_le.mp (by assumption) | exact Int32.not_lt.mp (by assumption) | omega)] | rw [if_neg (by first | assumption | exact Int32.not_lt.mpr (by assumption) | exact Int32.not_le.mpr (by assumption) | exact bne_of (by assumption) | exact not_not_intro (by assumption) | omega)])); (first | unfold rDig | unfold rNum | unfold rBath | unfold rSink | skip); (repeat (first | rw [if_pos (by first | assumption | exact Int32.not_le.mp (by assumption) | exact Int32.not_lt.mp (by assumption) | omega)] | rw [if_neg (by first | assumption | exact Int32.not_lt.mpr (by assumption) | exact Int32.not_le.mpr (by assumption) | exact bne_of (by assumption) | exact not_not_intro (by assumption) | omega)])); (first | unfold rLoad | skip); (repeat (first | rw [if_pos (by first | assumption | exact Int32.not_le.mp (by assumption) | exact Int32.not_lt.mp (by assumption) | omega)] | rw [if_neg (by first | assumption | exact Int32.not_lt.mpr (by assumption) | exact Int32.not_le.mpr (by assumption) | exact bne_of (by assumption) | exact not_not_intro (by assumption) | omega)])); (first | unfold rNum | skip); first | done | rfl | exact pr_t (by assumption) | exact pr_f (by assumption)))
      · skip
        refine r_callV (As := [.int (nI (0)), .int (nI (5))]) dX9_readsPart_95 (tX9_readsDigit_f hD hT (by omega) (by omega) (by omega) c3) rfl RM_0 rfl rfl oX9_readsDigit rfl kX9_151M nX9_readsDigit eX9_readsDigit (by unfold fRoom; decide) (Nat.le_of_ble_eq_true rfl) rfl (bc' := 0) (bs' := 0) rfl rfl ?_
        show fR _ _ _ 98 _ (.int (bI (false)) :: _) _ _ _ _
        exact r_zretB dX9_readsPart_98 rfl (rq_of (b := false) (a := (i + 1)) (u := upd (nu) 0 (-1)) (by unfold rPart; (repeat (first | rw [if_pos (by first | assumption | exact Int32.not_le.mp (by assumption) | exact Int32.not_lt.mp (by assumption) | omega)] | rw [if_neg (by first | assumption | exact Int32.not_lt.mpr (by assumption) | exact Int32.not_le.mpr (by assumption) | exact bne_of (by assumption) | exact not_not_intro (by assumption) | omega)])); (first | unfold rDig | unfold rNum | unfold rBath | unfold rSink | skip); (repeat (first | rw [if_pos (by first | assumption | exact Int32.not_le.mp (by assumption) | exact Int32.not_lt.mp (by assumption) | omega)] | rw [if_neg (by first | assumption | exact Int32.not_lt.mpr (by assumption) | exact Int32.not_le.mpr (by assumption) | exact bne_of (by assumption) | exact not_not_intro (by assumption) | omega)])); (first | unfold rLoad | skip); (repeat (first | rw [if_pos (by first | assumption | exact Int32.not_le.mp (by assumption) | exact Int32.not_lt.mp (by assumption) | omega)] | rw [if_neg (by first | assumption | exact Int32.not_lt.mpr (by assumption) | exact Int32.not_le.mpr (by assumption) | exact bne_of (by assumption) | exact not_not_intro (by assumption) | omega)])); (first | unfold rNum | skip); first | done | rfl | exact pr_t (by assumption) | exact pr_f (by assumption)))
    · skip
      by_cases c4 : ch i = 43
      · skip
        refine r_top (y := nI 43) (by rw [c4]) ?_
        refine r_lookup (off := 108) (tgt := 141) dX9_readsPart_33 (by decide) (by decide) (by decide) ?_
        refine r_aload_n dX9_readsPart_141 rfl ?_
        refine r_iconst (v := nI 0) dX9_readsPart_142 (by decide) ?_
        refine r_iconst (v := nI 1) dX9_readsPart_143 (by decide) ?_
        refine r_bipush (v := nI 99) dX9_readsPart_144 (by decide) ?_
        refine r_callV (As := [.int (nI (0)), .int (nI (1)), .int (nI (99))]) dX9_readsPart_146 (tX9_readsNumber hD hT (by omega) (by omega) (by omega) (by omega)) rfl RM_0 rfl rfl oX9_readsNumber rfl kX9_157M nX9_readsNumber eX9_readsNumber (by unfold fRoom; decide) (Nat.le_of_ble_eq_true rfl) rfl (bc' := 0) (bs' := 0) rfl rfl ?_
        show fR _ _ _ 149 _ (.int (bI (decide (1 ≤ (rnum ch 1 99 ((i + 1))).1))) :: _) _ _ _ _
        have hr5 := rnum_le (least := 1) (most := 99) hT (i := (i + 1)) (by omega)
        exact r_zretB dX9_readsPart_149 rfl (rq_of (b := decide (1 ≤ (rnum ch 1 99 ((i + 1))).1)) (a := (rnum ch 1 99 ((i + 1))).2) (u := upd (nu) 0 (nI (rnum ch 1 99 ((i + 1))).1)) (by unfold rPart; (repeat (first | rw [if_pos (by first | assumption | exact Int32.not_le.mp (by assumption) | exact Int32.not_lt.mp (by assumption) | omega)] | rw [if_neg (by first | assumption | exact Int32.not_lt.mpr (by assumption) | exact Int32.not_le.mpr (by assumption) | exact bne_of (by assumption) | exact not_not_intro (by assumption) | omega)])); (first | unfold rDig | unfold rNum | unfold rBath | unfold rSink | skip); (repeat (first | rw [if_pos (by first | assumption | exact Int32.not_le.mp (by assumption) | exact Int32.not_lt.mp (by assumption) | omega)] | rw [if_neg (by first | assumption | exact Int32.not_lt.mpr (by assumption) | exact Int32.not_le.mpr (by assumption) | exact bne_of (by assumption) | exact not_not_intro (by assumption) | omega)])); (first | unfold rLoad | skip); (repeat (first | rw [if_pos (by first | assumption | exact Int32.not_le.mp (by assumption) | exact Int32.not_lt.mp (by assumption) | omega)] | rw [if_neg (by first | assumption | exact Int32.not_lt.mpr (by assumption) | exact Int32.not_le.mpr (by assumption) | exact bne_of (by assumption) | exact not_not_intro (by assumption) | omega)])); (first | unfold rNum | skip); first | done | rfl | exact pr_t (by assumption) | exact pr_f (by assumption)))
      · skip
        by_cases c6 : ch i = 98
        · skip
          refine r_top (y := nI 98) (by rw [c6]) ?_
          refine r_lookup (off := 74) (tgt := 107) dX9_readsPart_33 (by decide) (by decide) (by decide) ?_
          refine r_aload_n dX9_readsPart_107 rfl ?_
          refine r_iconst (v := nI 0) dX9_readsPart_108 (by decide) ?_
          refine r_bipush (v := nI 7) dX9_readsPart_109 (by decide) ?_
          by_cases c7 : pDg ch 7 ((i + 1))
          · skip
            refine r_callV (As := [.int (nI (0)), .int (nI (7))]) dX9_readsPart_111 (tX9_readsDigit_t hD hT (by omega) (by omega) (by omega) c7) rfl RM_0 rfl rfl oX9_readsDigit rfl kX9_151M nX9_readsDigit eX9_readsDigit (by unfold fRoom; decide) (Nat.le_of_ble_eq_true rfl) rfl (bc' := 0) (bs' := 0) rfl rfl ?_
            show fR _ _ _ 114 _ (.int (bI (true)) :: _) _ _ _ _
            have qc7 := hT.in (i := (i + 1)) (by have := c7.1; omega)
            refine r_if_eqB (tgt := 139) dX9_readsPart_114 (by decide) (fun c8 => absurd c8 (by decide)) (fun c8 => ?_)
            refine r_aload_n dX9_readsPart_117 rfl ?_
            refine r_iconst (v := nI 1) dX9_readsPart_118 (by decide) ?_
            refine r_iconst (v := nI 2) dX9_readsPart_119 (by decide) ?_
            by_cases c9 : pDg ch 2 ((i + 1) + 1)
            · skip
              refine r_callV (As := [.int (nI (1)), .int (nI (2))]) dX9_readsPart_120 (tX9_readsDigit_t hD hT (by omega) (by omega) (by omega) c9) rfl RM_0 rfl rfl oX9_readsDigit rfl kX9_151M nX9_readsDigit eX9_readsDigit (by unfold fRoom; decide) (Nat.le_of_ble_eq_true rfl) rfl (bc' := 0) (bs' := 0) rfl rfl ?_
              show fR _ _ _ 123 _ (.int (bI (true)) :: _) _ _ _ _
              have qc9 := hT.in (i := (i + 1) + 1) (by have := c9.1; omega)
              refine r_if_neB (tgt := 135) dX9_readsPart_123 (by decide) (fun c10 => ?_) (fun c10 => absurd c10 (by decide))
              refine r_iconst (v := nI 1) dX9_readsPart_135 (by decide) ?_
              refine r_goto (tgt := 140) dX9_readsPart_136 (by decide) ?_
              exact fR_zret dX9_readsPart_140 rfl rfl (rq_of (b := true) (a := (i + 1) + 1 + 1) (u := dgN (dgN (nu) ch 0 ((i + 1))) ch 1 ((i + 1) + 1)) (by unfold rPart; (repeat (first | rw [if_pos (by first | assumption | exact Int32.not_le.mp (by assumption) | exact Int32.not_lt.mp (by assumption) | omega)] | rw [if_neg (by first | assumption | exact Int32.not_lt.mpr (by assumption) | exact Int32.not_le.mpr (by assumption) | exact bne_of (by assumption) | exact not_not_intro (by assumption) | omega)])); (first | unfold rDig | unfold rNum | unfold rBath | unfold rSink | skip); (repeat (first | rw [if_pos (by first | assumption | exact Int32.not_le.mp (by assumption) | exact Int32.not_lt.mp (by assumption) | omega)] | rw [if_neg (by first | assumption | exact Int32.not_lt.mpr (by assumption) | exact Int32.not_le.mpr (by assumption) | exact bne_of (by assumption) | exact not_not_intro (by assumption) | omega)])); (first | unfold rLoad | skip); (repeat (first | rw [if_pos (by first | assumption | exact Int32.not_le.mp (by assumption) | exact Int32.not_lt.mp (by assumption) | omega)] | rw [if_neg (by first | assumption | exact Int32.not_lt.mpr (by assumption) | exact Int32.not_le.mpr (by assumption) | exact bne_of (by assumption) | exact not_not_intro (by assumption) | omega)])); (first | unfold rNum | skip); first | done | rfl | exact pr_t (by assumption) | exact pr_f (by assumption)))
            · skip
              refine r_callV (As := [.int (nI (1)), .int (nI (2))]) dX9_readsPart_120 (tX9_readsDigit_f hD hT (by omega) (by omega) (by omega) c9) rfl RM_0 rfl rfl oX9_readsDigit rfl kX9_151M nX9_readsDigit eX9_readsDigit (by unfold fRoom; decide) (Nat.le_of_ble_eq_true rfl) rfl (bc' := 0) (bs' := 0) rfl rfl ?_
              show fR _ _ _ 123 _ (.int (bI (false)) :: _) _ _ _ _
              refine r_if_neB (tgt := 135) dX9_readsPart_123 (by decide) (fun c11 => absurd c11 (by decide)) (fun c11 => ?_)
              refine r_aload_n dX9_readsPart_126 rfl ?_
              refine r_bipush (v := nI 45) dX9_readsPart_127 (by decide) ?_
              by_cases c12 : ch ((i + 1) + 1) = 45
              · skip
                refine r_callV (As := [.int (nI (45))]) dX9_readsPart_129 (tX9_takesSign_t hD hT (by omega) (by omega) c12) rfl RM_0 rfl rfl oX9_takesSign rfl kX9_154M nX9_takesSign eX9_takesSign (by unfold fRoom; decide) (Nat.le_of_ble_eq_true rfl) rfl (bc' := 0) (bs' := 0) rfl rfl ?_
                show fR _ _ _ 132 _ (.int (bI (true)) :: _) _ _ _ _
                have qc12 := hT.in (i := (i + 1) + 1) (by omega)
                refine r_if_eqB (tgt := 139) dX9_readsPart_132 (by decide) (fun c13 => absurd c13 (by decide)) (fun c13 => ?_)
                refine r_iconst (v := nI 1) dX9_readsPart_135 (by decide) ?_
                refine r_goto (tgt := 140) dX9_readsPart_136 (by decide) ?_
                exact fR_zret dX9_readsPart_140 rfl rfl (rq_of (b := true) (a := (i + 1) + 1 + 1) (u := upd (dgN (nu) ch 0 ((i + 1))) 1 (-1)) (by unfold rPart; (repeat (first | rw [if_pos (by first | assumption | exact Int32.not_le.mp (by assumption) | exact Int32.not_lt.mp (by assumption) | omega)] | rw [if_neg (by first | assumption | exact Int32.not_lt.mpr (by assumption) | exact Int32.not_le.mpr (by assumption) | exact bne_of (by assumption) | exact not_not_intro (by assumption) | omega)])); (first | unfold rDig | unfold rNum | unfold rBath | unfold rSink | skip); (repeat (first | rw [if_pos (by first | assumption | exact Int32.not_le.mp (by assumption) | exact Int32.not_lt.mp (by assumption) | omega)] | rw [if_neg (by first | assumption | exact Int32.not_lt.mpr (by assumption) | exact Int32.not_le.mpr (by assumption) | exact bne_of (by assumption) | exact not_not_intro (by assumption) | omega)])); (first | unfold rLoad | skip); (repeat (first | rw [if_pos (by first | assumption | exact Int32.not_le.mp (by assumption) | exact Int32.not_lt.mp (by assumption) | omega)] | rw [if_neg (by first | assumption | exact Int32.not_lt.mpr (by assumption) | exact Int32.not_le.mpr (by assumption) | exact bne_of (by assumption) | exact not_not_intro (by assumption) | omega)])); (first | unfold rNum | skip); first | done | rfl | exact pr_t (by assumption) | exact pr_f (by assumption)))
              · skip
                refine r_callV (As := [.int (nI (45))]) dX9_readsPart_129 (tX9_takesSign_f hD hT (by omega) (by omega) c12) rfl RM_0 rfl rfl oX9_takesSign rfl kX9_154M nX9_takesSign eX9_takesSign (by unfold fRoom; decide) (Nat.le_of_ble_eq_true rfl) rfl (bc' := 0) (bs' := 0) rfl rfl ?_
                show fR _ _ _ 132 _ (.int (bI (false)) :: _) _ _ _ _
                refine r_if_eqB (tgt := 139) dX9_readsPart_132 (by decide) (fun c14 => ?_) (fun c14 => absurd c14 (by decide))
                refine r_iconst (v := nI 0) dX9_readsPart_139 (by decide) ?_
                exact fR_zret dX9_readsPart_140 rfl rfl (rq_of (b := false) (a := (i + 1) + 1) (u := upd (dgN (nu) ch 0 ((i + 1))) 1 (-1)) (by unfold rPart; (repeat (first | rw [if_pos (by first | assumption | exact Int32.not_le.mp (by assumption) | exact Int32.not_lt.mp (by assumption) | omega)] | rw [if_neg (by first | assumption | exact Int32.not_lt.mpr (by assumption) | exact Int32.not_le.mpr (by assumption) | exact bne_of (by assumption) | exact not_not_intro (by assumption) | omega)])); (first | unfold rDig | unfold rNum | unfold rBath | unfold rSink | skip); (repeat (first | rw [if_pos (by first | assumption | exact Int32.not_le.mp (by assumption) | exact Int32.not_lt.mp (by assumption) | omega)] | rw [if_neg (by first | assumption | exact Int32.not_lt.mpr (by assumption) | exact Int32.not_le.mpr (by assumption) | exact bne_of (by assumption) | exact not_not_intro (by assumption) | omega)])); (first | unfold rLoad | skip); (repeat (first | rw [if_pos (by first | assumption | exact Int32.not_le.mp (by assumption) | exact Int32.not_lt.mp (by assumption) | omega)] | rw [if_neg (by first | assumption | exact Int32.not_lt.mpr (by assumption) | exact Int32.not_le.mpr (by assumption) | exact bne_of (by assumption) | exact not_not_intro (by assumption) | omega)])); (first | unfold rNum | skip); first | done | rfl | exact pr_t (by assumption) | exact pr_f (by assumption)))
          · skip
            refine r_callV (As := [.int (nI (0)), .int (nI (7))]) dX9_readsPart_111 (tX9_readsDigit_f hD hT (by omega) (by omega) (by omega) c7) rfl RM_0 rfl rfl oX9_readsDigit rfl kX9_151M nX9_readsDigit eX9_readsDigit (by unfold fRoom; decide) (Nat.le_of_ble_eq_true rfl) rfl (bc' := 0) (bs' := 0) rfl rfl ?_
            show fR _ _ _ 114 _ (.int (bI (false)) :: _) _ _ _ _
            refine r_if_eqB (tgt := 139) dX9_readsPart_114 (by decide) (fun c15 => ?_) (fun c15 => absurd c15 (by decide))
            refine r_iconst (v := nI 0) dX9_readsPart_139 (by decide) ?_
            exact fR_zret dX9_readsPart_140 rfl rfl (rq_of (b := false) (a := (i + 1)) (u := upd (nu) 0 (-1)) (by unfold rPart; (repeat (first | rw [if_pos (by first | assumption | exact Int32.not_le.mp (by assumption) | exact Int32.not_lt.mp (by assumption) | omega)] | rw [if_neg (by first | assumption | exact Int32.not_lt.mpr (by assumption) | exact Int32.not_le.mpr (by assumption) | exact bne_of (by assumption) | exact not_not_intro (by assumption) | omega)])); (first | unfold rDig | unfold rNum | unfold rBath | unfold rSink | skip); (repeat (first | rw [if_pos (by first | assumption | exact Int32.not_le.mp (by assumption) | exact Int32.not_lt.mp (by assumption) | omega)] | rw [if_neg (by first | assumption | exact Int32.not_lt.mpr (by assumption) | exact Int32.not_le.mpr (by assumption) | exact bne_of (by assumption) | exact not_not_intro (by assumption) | omega)])); (first | unfold rLoad | skip); (repeat (first | rw [if_pos (by first | assumption | exact Int32.not_le.mp (by assumption) | exact Int32.not_lt.mp (by assumption) | omega)] | rw [if_neg (by first | assumption | exact Int32.not_lt.mpr (by assumption) | exact Int32.not_le.mpr (by assumption) | exact bne_of (by assumption) | exact not_not_intro (by assumption) | omega)])); (first | unfold rNum | skip); first | done | rfl | exact pr_t (by assumption) | exact pr_f (by assumption)))
        · skip
          by_cases c16 : ch i = 110
          · skip
            refine r_top (y := nI 110) (by rw [c16]) ?_
            refine r_lookup (off := 117) (tgt := 150) dX9_readsPart_33 (by decide) (by decide) (by decide) ?_
            refine r_aload_n dX9_readsPart_150 rfl ?_
            refine r_iconst (v := nI 0) dX9_readsPart_151 (by decide) ?_
            refine r_iconst (v := nI 2) dX9_readsPart_152 (by decide) ?_
            by_cases c17 : pDg ch 2 ((i + 1))
            · skip
              refine r_callV (As := [.int (nI (0)), .int (nI (2))]) dX9_readsPart_153 (tX9_readsDigit_t hD hT (by omega) (by omega) (by omega) c17) rfl RM_0 rfl rfl oX9_readsDigit rfl kX9_151M nX9_readsDigit eX9_readsDigit (by unfold fRoom; decide) (Nat.le_of_ble_eq_true rfl) rfl (bc' := 0) (bs' := 0) rfl rfl ?_
              show fR _ _ _ 156 _ (.int (bI (true)) :: _) _ _ _ _
              have qc17 := hT.in (i := (i + 1)) (by have := c17.1; omega)
              refine r_if_eqB (tgt := 215) dX9_readsPart_156 (by decide) (fun c18 => absurd c18 (by decide)) (fun c18 => ?_)
              refine r_aload_n dX9_readsPart_159 rfl ?_
              refine r_iconst (v := nI 1) dX9_readsPart_160 (by decide) ?_
              refine r_bipush (v := nI 7) dX9_readsPart_161 (by decide) ?_
              by_cases c19 : pDg ch 7 ((i + 1) + 1)
              · skip
                refine r_callV (As := [.int (nI (1)), .int (nI (7))]) dX9_readsPart_163 (tX9_readsDigit_t hD hT (by omega) (by omega) (by omega) c19) rfl RM_0 rfl rfl oX9_readsDigit rfl kX9_151M nX9_readsDigit eX9_readsDigit (by unfold fRoom; decide) (Nat.le_of_ble_eq_true rfl) rfl (bc' := 0) (bs' := 0) rfl rfl ?_
                show fR _ _ _ 166 _ (.int (bI (true)) :: _) _ _ _ _
                have qc19 := hT.in (i := (i + 1) + 1) (by have := c19.1; omega)
                refine r_if_eqB (tgt := 215) dX9_readsPart_166 (by decide) (fun c20 => absurd c20 (by decide)) (fun c20 => ?_)
                refine r_aload_n dX9_readsPart_169 rfl ?_
                refine r_bipush (v := nI 42) dX9_readsPart_170 (by decide) ?_
                by_cases c21 : ch ((i + 1) + 1 + 1) = 42
                · skip
                  refine r_callV (As := [.int (nI (42))]) dX9_readsPart_172 (tX9_takesSign_t hD hT (by omega) (by omega) c21) rfl RM_0 rfl rfl oX9_takesSign rfl kX9_154M nX9_takesSign eX9_takesSign (by unfold fRoom; decide) (Nat.le_of_ble_eq_true rfl) rfl (bc' := 0) (bs' := 0) rfl rfl ?_
                  show fR _ _ _ 175 _ (.int (bI (true)) :: _) _ _ _ _
                  have qc21 := hT.in (i := (i + 1) + 1 + 1) (by omega)
                  refine r_if_eqB (tgt := 215) dX9_readsPart_175 (by decide) (fun c22 => absurd c22 (by decide)) (fun c22 => ?_)
                  refine r_aload_n dX9_readsPart_178 rfl ?_
                  refine r_iconst (v := nI 2) dX9_readsPart_179 (by decide) ?_
                  refine r_bipush (v := nI 50) dX9_readsPart_180 (by decide) ?_
                  refine r_sipush (v := nI 200) dX9_readsPart_182 (by decide) ?_
                  refine r_callV (As := [.int (nI (2)), .int (nI (50)), .int (nI (200))]) dX9_readsPart_185 (tX9_readsNumber hD hT (by omega) (by omega) (by omega) (by omega)) rfl RM_0 rfl rfl oX9_readsNumber rfl kX9_157M nX9_readsNumber eX9_readsNumber (by unfold fRoom; decide) (Nat.le_of_ble_eq_true rfl) rfl (bc' := 0) (bs' := 0) rfl rfl ?_
                  show fR _ _ _ 188 _ (.int (bI (decide (50 ≤ (rnum ch 50 200 ((i + 1) + 1 + 1 + 1)).1))) :: _) _ _ _ _
                  have hr23 := rnum_le (least := 50) (most := 200) hT (i := (i + 1) + 1 + 1 + 1) (by omega)
                  refine r_if_eqB (tgt := 215) dX9_readsPart_188 (by decide) (fun c24 => ?_) (fun c24 => ?_)
                  · skip
                    have hc24 := of_decide_eq_false c24
                    refine r_iconst (v := nI 0) dX9_readsPart_215 (by decide) ?_
                    exact fR_zret dX9_readsPart_216 rfl rfl (rq_of (b := false) (a := (rnum ch 50 200 ((i + 1) + 1 + 1 + 1)).2) (u := upd (dgN (dgN (nu) ch 0 ((i + 1))) ch 1 ((i + 1) + 1)) 2 (nI (rnum ch 50 200 ((i + 1) + 1 + 1 + 1)).1)) (by unfold rPart; (repeat (first | rw [if_pos (by first | assumption | exact Int32.not_le.mp (by assumption) | exact Int32.not_lt.mp (by assumption) | omega)] | rw [if_neg (by first | assumption | exact Int32.not_lt.mpr (by assumption) | exact Int32.not_le.mpr (by assumption) | exact bne_of (by assumption) | exact not_not_intro (by assumption) | omega)])); (first | unfold rDig | unfold rNum | unfold rBath | unfold rSink | skip); (repeat (first | rw [if_pos (by first | assumption | exact Int32.not_le.mp (by assumption) | exact Int32.not_lt.mp (by assumption) | omega)] | rw [if_neg (by first | assumption | exact Int32.not_lt.mpr (by assumption) | exact Int32.not_le.mpr (by assumption) | exact bne_of (by assumption) | exact not_not_intro (by assumption) | omega)])); (first | unfold rLoad | skip); (repeat (first | rw [if_pos (by first | assumption | exact Int32.not_le.mp (by assumption) | exact Int32.not_lt.mp (by assumption) | omega)] | rw [if_neg (by first | assumption | exact Int32.not_lt.mpr (by assumption) | exact Int32.not_le.mpr (by assumption) | exact bne_of (by assumption) | exact not_not_intro (by assumption) | omega)])); (first | unfold rNum | skip); first | done | rfl | exact pr_t (by assumption) | exact pr_f (by assumption)))
                  · skip
                    have hc24 := of_decide_eq_true c24
                    refine r_aload_n dX9_readsPart_191 rfl ?_
                    refine r_bipush (v := nI 47) dX9_readsPart_192 (by decide) ?_
                    by_cases c25 : ch ((rnum ch 50 200 ((i + 1) + 1 + 1 + 1)).2) = 47
                    · skip
                      refine r_callV (As := [.int (nI (47))]) dX9_readsPart_194 (tX9_takesSign_t hD hT (by omega) (by omega) c25) rfl RM_0 rfl rfl oX9_takesSign rfl kX9_154M nX9_takesSign eX9_takesSign (by unfold fRoom; decide) (Nat.le_of_ble_eq_true rfl) rfl (bc' := 0) (bs' := 0) rfl rfl ?_
                      show fR _ _ _ 197 _ (.int (bI (true)) :: _) _ _ _ _
                      have qc25 := hT.in (i := (rnum ch 50 200 ((i + 1) + 1 + 1 + 1)).2) (by omega)
                      refine r_if_eqB (tgt := 215) dX9_readsPart_197 (by decide) (fun c26 => absurd c26 (by decide)) (fun c26 => ?_)
                      refine r_aload_n dX9_readsPart_200 rfl ?_
                      refine r_iconst (v := nI 3) dX9_readsPart_201 (by decide) ?_
                      refine r_iconst (v := nI 1) dX9_readsPart_202 (by decide) ?_
                      refine r_bipush (v := nI 60) dX9_readsPart_203 (by decide) ?_
                      refine r_callV (As := [.int (nI (3)), .int (nI (1)), .int (nI (60))]) dX9_readsPart_205 (tX9_readsNumber hD hT (by omega) (by omega) (by omega) (by omega)) rfl RM_0 rfl rfl oX9_readsNumber rfl kX9_157M nX9_readsNumber eX9_readsNumber (by unfold fRoom; decide) (Nat.le_of_ble_eq_true rfl) rfl (bc' := 0) (bs' := 0) rfl rfl ?_
                      show fR _ _ _ 208 _ (.int (bI (decide (1 ≤ (rnum ch 1 60 ((rnum ch 50 200 ((i + 1) + 1 + 1 + 1)).2 + 1)).1))) :: _) _ _ _ _
                      have hr27 := rnum_le (least := 1) (most := 60) hT (i := (rnum ch 50 200 ((i + 1) + 1 + 1 + 1)).2 + 1) (by omega)
                      refine r_if_eqB (tgt := 215) dX9_readsPart_208 (by decide) (fun c28 => ?_) (fun c28 => ?_)
                      · skip
                        have hc28 := of_decide_eq_false c28
                        refine r_iconst (v := nI 0) dX9_readsPart_215 (by decide) ?_
                        exact fR_zret dX9_readsPart_216 rfl rfl (rq_of (b := false) (a := (rnum ch 1 60 ((rnum ch 50 200 ((i + 1) + 1 + 1 + 1)).2 + 1)).2) (u := upd (upd (dgN (dgN (nu) ch 0 ((i + 1))) ch 1 ((i + 1) + 1)) 2 (nI (rnum ch 50 200 ((i + 1) + 1 + 1 + 1)).1)) 3 (nI (rnum ch 1 60 ((rnum ch 50 200 ((i + 1) + 1 + 1 + 1)).2 + 1)).1)) (by unfold rPart; (repeat (first | rw [if_pos (by first | assumption | exact Int32.not_le.mp (by assumption) | exact Int32.not_lt.mp (by assumption) | omega)] | rw [if_neg (by first | assumption | exact Int32.not_lt.mpr (by assumption) | exact Int32.not_le.mpr (by assumption) | exact bne_of (by assumption) | exact not_not_intro (by assumption) | omega)])); (first | unfold rDig | unfold rNum | unfold rBath | unfold rSink | skip); (repeat (first | rw [if_pos (by first | assumption | exact Int32.not_le.mp (by assumption) | exact Int32.not_lt.mp (by assumption) | omega)] | rw [if_neg (by first | assumption | exact Int32.not_lt.mpr (by assumption) | exact Int32.not_le.mpr (by assumption) | exact bne_of (by assumption) | exact not_not_intro (by assumption) | omega)])); (first | unfold rLoad | skip); (repeat (first | rw [if_pos (by first | assumption | exact Int32.not_le.mp (by assumption) | exact Int32.not_lt.mp (by assumption) | omega)] | rw [if_neg (by first | assumption | exact Int32.not_lt.mpr (by assumption) | exact Int32.not_le.mpr (by assumption) | exact bne_of (by assumption) | exact not_not_intro (by assumption) | omega)])); (first | unfold rNum | skip); first | done | rfl | exact pr_t (by assumption) | exact pr_f (by assumption)))
                      · skip
                        have hc28 := of_decide_eq_true c28
                        refine r_iconst (v := nI 1) dX9_readsPart_211 (by decide) ?_
                        refine r_goto (tgt := 216) dX9_readsPart_212 (by decide) ?_
                        exact fR_zret dX9_readsPart_216 rfl rfl (rq_of (b := true) (a := (rnum ch 1 60 ((rnum ch 50 200 ((i + 1) + 1 + 1 + 1)).2 + 1)).2) (u := upd (upd (dgN (dgN (nu) ch 0 ((i + 1))) ch 1 ((i + 1) + 1)) 2 (nI (rnum ch 50 200 ((i + 1) + 1 + 1 + 1)).1)) 3 (nI (rnum ch 1 60 ((rnum ch 50 200 ((i + 1) + 1 + 1 + 1)).2 + 1)).1)) (by unfold rPart; (repeat (first | rw [if_pos (by first | assumption | exact Int32.not_le.mp (by assumption) | exact Int32.not_lt.mp (by assumption) | omega)] | rw [if_neg (by first | assumption | exact Int32.not_lt.mpr (by assumption) | exact Int32.not_le.mpr (by assumption) | exact bne_of (by assumption) | exact not_not_intro (by assumption) | omega)])); (first | unfold rDig | unfold rNum | unfold rBath | unfold rSink | skip); (repeat (first | rw [if_pos (by first | assumption | exact Int32.not_le.mp (by assumption) | exact Int32.not_lt.mp (by assumption) | omega)] | rw [if_neg (by first | assumption | exact Int32.not_lt.mpr (by assumption) | exact Int32.not_le.mpr (by assumption) | exact bne_of (by assumption) | exact not_not_intro (by assumption) | omega)])); (first | unfold rLoad | skip); (repeat (first | rw [if_pos (by first | assumption | exact Int32.not_le.mp (by assumption) | exact Int32.not_lt.mp (by assumption) | omega)] | rw [if_neg (by first | assumption | exact Int32.not_lt.mpr (by assumption) | exact Int32.not_le.mpr (by assumption) | exact bne_of (by assumption) | exact not_not_intro (by assumption) | omega)])); (first | unfold rNum | skip); first | done | rfl | exact pr_t (by assumption) | exact pr_f (by assumption)))
                    · skip
                      refine r_callV (As := [.int (nI (47))]) dX9_readsPart_194 (tX9_takesSign_f hD hT (by omega) (by omega) c25) rfl RM_0 rfl rfl oX9_takesSign rfl kX9_154M nX9_takesSign eX9_takesSign (by unfold fRoom; decide) (Nat.le_of_ble_eq_true rfl) rfl (bc' := 0) (bs' := 0) rfl rfl ?_
                      show fR _ _ _ 197 _ (.int (bI (false)) :: _) _ _ _ _
                      refine r_if_eqB (tgt := 215) dX9_readsPart_197 (by decide) (fun c29 => ?_) (fun c29 => absurd c29 (by decide))
                      refine r_iconst (v := nI 0) dX9_readsPart_215 (by decide) ?_
                      exact fR_zret dX9_readsPart_216 rfl rfl (rq_of (b := false) (a := (rnum ch 50 200 ((i + 1) + 1 + 1 + 1)).2) (u := upd (dgN (dgN (nu) ch 0 ((i + 1))) ch 1 ((i + 1) + 1)) 2 (nI (rnum ch 50 200 ((i + 1) + 1 + 1 + 1)).1)) (by unfold rPart; (repeat (first | rw [if_pos (by first | assumption | exact Int32.not_le.mp (by assumption) | exact Int32.not_lt.mp (by assumption) | omega)] | rw [if_neg (by first | assumption | exact Int32.not_lt.mpr (by assumption) | exact Int32.not_le.mpr (by assumption) | exact bne_of (by assumption) | exact not_not_intro (by assumption) | omega)])); (first | unfold rDig | unfold rNum | unfold rBath | unfold rSink | skip); (repeat (first | rw [if_pos (by first | assumption | exact Int32.not_le.mp (by assumption) | exact Int32.not_lt.mp (by assumption) | omega)] | rw [if_neg (by first | assumption | exact Int32.not_lt.mpr (by assumption) | exact Int32.not_le.mpr (by assumption) | exact bne_of (by assumption) | exact not_not_intro (by assumption) | omega)])); (first | unfold rLoad | skip); (repeat (first | rw [if_pos (by first | assumption | exact Int32.not_le.mp (by assumption) | exact Int32.not_lt.mp (by assumption) | omega)] | rw [if_neg (by first | assumption | exact Int32.not_lt.mpr (by assumption) | exact Int32.not_le.mpr (by assumption) | exact bne_of (by assumption) | exact not_not_intro (by assumption) | omega)])); (first | unfold rNum | skip); first | done | rfl | exact pr_t (by assumption) | exact pr_f (by assumption)))
                · skip
                  refine r_callV (As := [.int (nI (42))]) dX9_readsPart_172 (tX9_takesSign_f hD hT (by omega) (by omega) c21) rfl RM_0 rfl rfl oX9_takesSign rfl kX9_154M nX9_takesSign eX9_takesSign (by unfold fRoom; decide) (Nat.le_of_ble_eq_true rfl) rfl (bc' := 0) (bs' := 0) rfl rfl ?_
                  show fR _ _ _ 175 _ (.int (bI (false)) :: _) _ _ _ _
                  refine r_if_eqB (tgt := 215) dX9_readsPart_175 (by decide) (fun c30 => ?_) (fun c30 => absurd c30 (by decide))
                  refine r_iconst (v := nI 0) dX9_readsPart_215 (by decide) ?_
                  exact fR_zret dX9_readsPart_216 rfl rfl (rq_of (b := false) (a := (i + 1) + 1 + 1) (u := dgN (dgN (nu) ch 0 ((i + 1))) ch 1 ((i + 1) + 1)) (by unfold rPart; (repeat (first | rw [if_pos (by first | assumption | exact Int32.not_le.mp (by assumption) | exact Int32.not_lt.mp (by assumption) | omega)] | rw [if_neg (by first | assumption | exact Int32.not_lt.mpr (by assumption) | exact Int32.not_le.mpr (by assumption) | exact bne_of (by assumption) | exact not_not_intro (by assumption) | omega)])); (first | unfold rDig | unfold rNum | unfold rBath | unfold rSink | skip); (repeat (first | rw [if_pos (by first | assumption | exact Int32.not_le.mp (by assumption) | exact Int32.not_lt.mp (by assumption) | omega)] | rw [if_neg (by first | assumption | exact Int32.not_lt.mpr (by assumption) | exact Int32.not_le.mpr (by assumption) | exact bne_of (by assumption) | exact not_not_intro (by assumption) | omega)])); (first | unfold rLoad | skip); (repeat (first | rw [if_pos (by first | assumption | exact Int32.not_le.mp (by assumption) | exact Int32.not_lt.mp (by assumption) | omega)] | rw [if_neg (by first | assumption | exact Int32.not_lt.mpr (by assumption) | exact Int32.not_le.mpr (by assumption) | exact bne_of (by assumption) | exact not_not_intro (by assumption) | omega)])); (first | unfold rNum | skip); first | done | rfl | exact pr_t (by assumption) | exact pr_f (by assumption)))
              · skip
                refine r_callV (As := [.int (nI (1)), .int (nI (7))]) dX9_readsPart_163 (tX9_readsDigit_f hD hT (by omega) (by omega) (by omega) c19) rfl RM_0 rfl rfl oX9_readsDigit rfl kX9_151M nX9_readsDigit eX9_readsDigit (by unfold fRoom; decide) (Nat.le_of_ble_eq_true rfl) rfl (bc' := 0) (bs' := 0) rfl rfl ?_
                show fR _ _ _ 166 _ (.int (bI (false)) :: _) _ _ _ _
                refine r_if_eqB (tgt := 215) dX9_readsPart_166 (by decide) (fun c31 => ?_) (fun c31 => absurd c31 (by decide))
                refine r_iconst (v := nI 0) dX9_readsPart_215 (by decide) ?_
                exact fR_zret dX9_readsPart_216 rfl rfl (rq_of (b := false) (a := (i + 1) + 1) (u := upd (dgN (nu) ch 0 ((i + 1))) 1 (-1)) (by unfold rPart; (repeat (first | rw [if_pos (by first | assumption | exact Int32.not_le.mp (by assumption) | exact Int32.not_lt.mp (by assumption) | omega)] | rw [if_neg (by first | assumption | exact Int32.not_lt.mpr (by assumption) | exact Int32.not_le.mpr (by assumption) | exact bne_of (by assumption) | exact not_not_intro (by assumption) | omega)])); (first | unfold rDig | unfold rNum | unfold rBath | unfold rSink | skip); (repeat (first | rw [if_pos (by first | assumption | exact Int32.not_le.mp (by assumption) | exact Int32.not_lt.mp (by assumption) | omega)] | rw [if_neg (by first | assumption | exact Int32.not_lt.mpr (by assumption) | exact Int32.not_le.mpr (by assumption) | exact bne_of (by assumption) | exact not_not_intro (by assumption) | omega)])); (first | unfold rLoad | skip); (repeat (first | rw [if_pos (by first | assumption | exact Int32.not_le.mp (by assumption) | exact Int32.not_lt.mp (by assumption) | omega)] | rw [if_neg (by first | assumption | exact Int32.not_lt.mpr (by assumption) | exact Int32.not_le.mpr (by assumption) | exact bne_of (by assumption) | exact not_not_intro (by assumption) | omega)])); (first | unfold rNum | skip); first | done | rfl | exact pr_t (by assumption) | exact pr_f (by assumption)))
            · skip
              refine r_callV (As := [.int (nI (0)), .int (nI (2))]) dX9_readsPart_153 (tX9_readsDigit_f hD hT (by omega) (by omega) (by omega) c17) rfl RM_0 rfl rfl oX9_readsDigit rfl kX9_151M nX9_readsDigit eX9_readsDigit (by unfold fRoom; decide) (Nat.le_of_ble_eq_true rfl) rfl (bc' := 0) (bs' := 0) rfl rfl ?_
              show fR _ _ _ 156 _ (.int (bI (false)) :: _) _ _ _ _
              refine r_if_eqB (tgt := 215) dX9_readsPart_156 (by decide) (fun c32 => ?_) (fun c32 => absurd c32 (by decide))
              refine r_iconst (v := nI 0) dX9_readsPart_215 (by decide) ?_
              exact fR_zret dX9_readsPart_216 rfl rfl (rq_of (b := false) (a := (i + 1)) (u := upd (nu) 0 (-1)) (by unfold rPart; (repeat (first | rw [if_pos (by first | assumption | exact Int32.not_le.mp (by assumption) | exact Int32.not_lt.mp (by assumption) | omega)] | rw [if_neg (by first | assumption | exact Int32.not_lt.mpr (by assumption) | exact Int32.not_le.mpr (by assumption) | exact bne_of (by assumption) | exact not_not_intro (by assumption) | omega)])); (first | unfold rDig | unfold rNum | unfold rBath | unfold rSink | skip); (repeat (first | rw [if_pos (by first | assumption | exact Int32.not_le.mp (by assumption) | exact Int32.not_lt.mp (by assumption) | omega)] | rw [if_neg (by first | assumption | exact Int32.not_lt.mpr (by assumption) | exact Int32.not_le.mpr (by assumption) | exact bne_of (by assumption) | exact not_not_intro (by assumption) | omega)])); (first | unfold rLoad | skip); (repeat (first | rw [if_pos (by first | assumption | exact Int32.not_le.mp (by assumption) | exact Int32.not_lt.mp (by assumption) | omega)] | rw [if_neg (by first | assumption | exact Int32.not_lt.mpr (by assumption) | exact Int32.not_le.mpr (by assumption) | exact bne_of (by assumption) | exact not_not_intro (by assumption) | omega)])); (first | unfold rNum | skip); first | done | rfl | exact pr_t (by assumption) | exact pr_f (by assumption)))
          · skip
            by_cases c33 : ch i = 111
            · skip
              refine r_top (y := nI 111) (by rw [c33]) ?_
              refine r_lookup (off := 66) (tgt := 99) dX9_readsPart_33 (by decide) (by decide) (by decide) ?_
              refine r_aload_n dX9_readsPart_99 rfl ?_
              refine r_iconst (v := nI 0) dX9_readsPart_100 (by decide) ?_
              refine r_bipush (v := nI 7) dX9_readsPart_101 (by decide) ?_
              by_cases c34 : pDg ch 7 ((i + 1))
              · skip
                refine r_callV (As := [.int (nI (0)), .int (nI (7))]) dX9_readsPart_103 (tX9_readsDigit_t hD hT (by omega) (by omega) (by omega) c34) rfl RM_0 rfl rfl oX9_readsDigit rfl kX9_151M nX9_readsDigit eX9_readsDigit (by unfold fRoom; decide) (Nat.le_of_ble_eq_true rfl) rfl (bc' := 0) (bs' := 0) rfl rfl ?_
                show fR _ _ _ 106 _ (.int (bI (true)) :: _) _ _ _ _
                have qc34 := hT.in (i := (i + 1)) (by have := c34.1; omega)
                exact r_zretB dX9_readsPart_106 rfl (rq_of (b := true) (a := (i + 1) + 1) (u := dgN (nu) ch 0 ((i + 1))) (by unfold rPart; (repeat (first | rw [if_pos (by first | assumption | exact Int32.not_le.mp (by assumption) | exact Int32.not_lt.mp (by assumption) | omega)] | rw [if_neg (by first | assumption | exact Int32.not_lt.mpr (by assumption) | exact Int32.not_le.mpr (by assumption) | exact bne_of (by assumption) | exact not_not_intro (by assumption) | omega)])); (first | unfold rDig | unfold rNum | unfold rBath | unfold rSink | skip); (repeat (first | rw [if_pos (by first | assumption | exact Int32.not_le.mp (by assumption) | exact Int32.not_lt.mp (by assumption) | omega)] | rw [if_neg (by first | assumption | exact Int32.not_lt.mpr (by assumption) | exact Int32.not_le.mpr (by assumption) | exact bne_of (by assumption) | exact not_not_intro (by assumption) | omega)])); (first | unfold rLoad | skip); (repeat (first | rw [if_pos (by first | assumption | exact Int32.not_le.mp (by assumption) | exact Int32.not_lt.mp (by assumption) | omega)] | rw [if_neg (by first | assumption | exact Int32.not_lt.mpr (by assumption) | exact Int32.not_le.mpr (by assumption) | exact bne_of (by assumption) | exact not_not_intro (by assumption) | omega)])); (first | unfold rNum | skip); first | done | rfl | exact pr_t (by assumption) | exact pr_f (by assumption)))
              · skip
                refine r_callV (As := [.int (nI (0)), .int (nI (7))]) dX9_readsPart_103 (tX9_readsDigit_f hD hT (by omega) (by omega) (by omega) c34) rfl RM_0 rfl rfl oX9_readsDigit rfl kX9_151M nX9_readsDigit eX9_readsDigit (by unfold fRoom; decide) (Nat.le_of_ble_eq_true rfl) rfl (bc' := 0) (bs' := 0) rfl rfl ?_
                show fR _ _ _ 106 _ (.int (bI (false)) :: _) _ _ _ _
                exact r_zretB dX9_readsPart_106 rfl (rq_of (b := false) (a := (i + 1)) (u := upd (nu) 0 (-1)) (by unfold rPart; (repeat (first | rw [if_pos (by first | assumption | exact Int32.not_le.mp (by assumption) | exact Int32.not_lt.mp (by assumption) | omega)] | rw [if_neg (by first | assumption | exact Int32.not_lt.mpr (by assumption) | exact Int32.not_le.mpr (by assumption) | exact bne_of (by assumption) | exact not_not_intro (by assumption) | omega)])); (first | unfold rDig | unfold rNum | unfold rBath | unfold rSink | skip); (repeat (first | rw [if_pos (by first | assumption | exact Int32.not_le.mp (by assumption) | exact Int32.not_lt.mp (by assumption) | omega)] | rw [if_neg (by first | assumption | exact Int32.not_lt.mpr (by assumption) | exact Int32.not_le.mpr (by assumption) | exact bne_of (by assumption) | exact not_not_intro (by assumption) | omega)])); (first | unfold rLoad | skip); (repeat (first | rw [if_pos (by first | assumption | exact Int32.not_le.mp (by assumption) | exact Int32.not_lt.mp (by assumption) | omega)] | rw [if_neg (by first | assumption | exact Int32.not_lt.mpr (by assumption) | exact Int32.not_le.mpr (by assumption) | exact bne_of (by assumption) | exact not_not_intro (by assumption) | omega)])); (first | unfold rNum | skip); first | done | rfl | exact pr_t (by assumption) | exact pr_f (by assumption)))
            · skip
              by_cases c35 : ch i = 115
              · skip
                refine r_top (y := nI 115) (by rw [c35]) ?_
                refine r_lookup (off := 59) (tgt := 92) dX9_readsPart_33 (by decide) (by decide) (by decide) ?_
                refine r_aload_n dX9_readsPart_92 rfl ?_
                refine r_iconst (v := nI 0) dX9_readsPart_93 (by decide) ?_
                refine r_iconst (v := nI 5) dX9_readsPart_94 (by decide) ?_
                by_cases c36 : pDg ch 5 ((i + 1))
                · skip
                  refine r_callV (As := [.int (nI (0)), .int (nI (5))]) dX9_readsPart_95 (tX9_readsDigit_t hD hT (by omega) (by omega) (by omega) c36) rfl RM_0 rfl rfl oX9_readsDigit rfl kX9_151M nX9_readsDigit eX9_readsDigit (by unfold fRoom; decide) (Nat.le_of_ble_eq_true rfl) rfl (bc' := 0) (bs' := 0) rfl rfl ?_
                  show fR _ _ _ 98 _ (.int (bI (true)) :: _) _ _ _ _
                  have qc36 := hT.in (i := (i + 1)) (by have := c36.1; omega)
                  exact r_zretB dX9_readsPart_98 rfl (rq_of (b := true) (a := (i + 1) + 1) (u := dgN (nu) ch 0 ((i + 1))) (by unfold rPart; (repeat (first | rw [if_pos (by first | assumption | exact Int32.not_le.mp (by assumption) | exact Int32.not_lt.mp (by assumption) | omega)] | rw [if_neg (by first | assumption | exact Int32.not_lt.mpr (by assumption) | exact Int32.not_le.mpr (by assumption) | exact bne_of (by assumption) | exact not_not_intro (by assumption) | omega)])); (first | unfold rDig | unfold rNum | unfold rBath | unfold rSink | skip); (repeat (first | rw [if_pos (by first | assumption | exact Int32.not_le.mp (by assumption) | exact Int32.not_lt.mp (by assumption) | omega)] | rw [if_neg (by first | assumption | exact Int32.not_lt.mpr (by assumption) | exact Int32.not_le.mpr (by assumption) | exact bne_of (by assumption) | exact not_not_intro (by assumption) | omega)])); (first | unfold rLoad | skip); (repeat (first | rw [if_pos (by first | assumption | exact Int32.not_le.mp (by assumption) | exact Int32.not_lt.mp (by assumption) | omega)] | rw [if_neg (by first | assumption | exact Int32.not_lt.mpr (by assumption) | exact Int32.not_le.mpr (by assumption) | exact bne_of (by assumption) | exact not_not_intro (by assumption) | omega)])); (first | unfold rNum | skip); first | done | rfl | exact pr_t (by assumption) | exact pr_f (by assumption)))
                · skip
                  refine r_callV (As := [.int (nI (0)), .int (nI (5))]) dX9_readsPart_95 (tX9_readsDigit_f hD hT (by omega) (by omega) (by omega) c36) rfl RM_0 rfl rfl oX9_readsDigit rfl kX9_151M nX9_readsDigit eX9_readsDigit (by unfold fRoom; decide) (Nat.le_of_ble_eq_true rfl) rfl (bc' := 0) (bs' := 0) rfl rfl ?_
                  show fR _ _ _ 98 _ (.int (bI (false)) :: _) _ _ _ _
                  exact r_zretB dX9_readsPart_98 rfl (rq_of (b := false) (a := (i + 1)) (u := upd (nu) 0 (-1)) (by unfold rPart; (repeat (first | rw [if_pos (by first | assumption | exact Int32.not_le.mp (by assumption) | exact Int32.not_lt.mp (by assumption) | omega)] | rw [if_neg (by first | assumption | exact Int32.not_lt.mpr (by assumption) | exact Int32.not_le.mpr (by assumption) | exact bne_of (by assumption) | exact not_not_intro (by assumption) | omega)])); (first | unfold rDig | unfold rNum | unfold rBath | unfold rSink | skip); (repeat (first | rw [if_pos (by first | assumption | exact Int32.not_le.mp (by assumption) | exact Int32.not_lt.mp (by assumption) | omega)] | rw [if_neg (by first | assumption | exact Int32.not_lt.mpr (by assumption) | exact Int32.not_le.mpr (by assumption) | exact bne_of (by assumption) | exact not_not_intro (by assumption) | omega)])); (first | unfold rLoad | skip); (repeat (first | rw [if_pos (by first | assumption | exact Int32.not_le.mp (by assumption) | exact Int32.not_lt.mp (by assumption) | omega)] | rw [if_neg (by first | assumption | exact Int32.not_lt.mpr (by assumption) | exact Int32.not_le.mpr (by assumption) | exact bne_of (by assumption) | exact not_not_intro (by assumption) | omega)])); (first | unfold rNum | skip); first | done | rfl | exact pr_t (by assumption) | exact pr_f (by assumption)))
              · skip
                refine r_lookup (off := 184) (tgt := 217) dX9_readsPart_33 (by decide) (lk_part _ (by omega) (by assumption) (by assumption) (by assumption) (by assumption) (by assumption) (by assumption)) (by decide) ?_
                refine r_aload_n dX9_readsPart_217 rfl ?_
                refine r_dup dX9_readsPart_218 rfl ?_
                refine r_get (k := 6) dX9_readsPart_219 RM_0 rfl rfl (by decide) kX9_138F ?_
                refine r_aload_n dX9_readsPart_222 rfl ?_
                refine r_get (k := 7) dX9_readsPart_223 RM_0 rfl rfl (by decide) kX9_148F ?_
                refine r_if_neN (tgt := 233) dX9_readsPart_226 (by decide) (by omega) (fun c37 => ?_) (fun c37 => by first | exact absurd c37 (by assumption) | exact absurd (by assumption) c37 | exact absurd (c37.symm.trans (by assumption)) (by decide))
                refine r_iconst (v := nI 1) dX9_readsPart_233 (by decide) ?_
                refine r_isubN dX9_readsPart_234 (by omega) ?_
                refine r_put (k := 6) (fs' := [.int (th), .ref (sA), .int (sv), .int (kp), .ref (tA), .int (nI (ln)), .int (nI (((i + 1) - 1))), .int (nI (ch i)), .ref (nA), .long (hs)]) dX9_readsPart_235 RM_0 rfl (by decide) kX9_138F rfl rfl rfl (Nat.le_of_ble_eq_true rfl) rfl ?_
                refine r_mem RM_put ?_
                refine r_iconst (v := nI 0) dX9_readsPart_238 (by decide) ?_
                exact fR_zret dX9_readsPart_239 rfl rfl (rq_of (b := false) (a := ((i + 1) - 1)) (u := nu) (by unfold rPart; (repeat (first | rw [if_pos (by first | assumption | exact Int32.not_le.mp (by assumption) | exact Int32.not_lt.mp (by assumption) | omega)] | rw [if_neg (by first | assumption | exact Int32.not_lt.mpr (by assumption) | exact Int32.not_le.mpr (by assumption) | exact bne_of (by assumption) | exact not_not_intro (by assumption) | omega)])); (first | unfold rDig | unfold rNum | unfold rBath | unfold rSink | skip); (repeat (first | rw [if_pos (by first | assumption | exact Int32.not_le.mp (by assumption) | exact Int32.not_lt.mp (by assumption) | omega)] | rw [if_neg (by first | assumption | exact Int32.not_lt.mpr (by assumption) | exact Int32.not_le.mpr (by assumption) | exact bne_of (by assumption) | exact not_not_intro (by assumption) | omega)])); (first | unfold rLoad | skip); (repeat (first | rw [if_pos (by first | assumption | exact Int32.not_le.mp (by assumption) | exact Int32.not_lt.mp (by assumption) | omega)] | rw [if_neg (by first | assumption | exact Int32.not_lt.mpr (by assumption) | exact Int32.not_le.mpr (by assumption) | exact bne_of (by assumption) | exact not_not_intro (by assumption) | omega)])); (first | unfold rNum | skip); first | done | rfl | exact pr_t (by assumption) | exact pr_f (by assumption)))
  · skip
    exact absurd hz (by omega)
theorem tX9_readsPart_0 {l : Launch} {κ : KP} {M : Mem} {m sA tA nA : Nat} {th sv kp pt : Int32} {hs : Int64} {g tx nu : Nat → Int32} {ch : Nat → Nat} {ln i : Nat} (hD : rDis m sA tA nA) (hT : TX tx ln ch) (hi : i ≤ ln) (hz : ch i = 0) : fM l κ mX9_readsPart [.ref (m)] (RM M m sA tA nA (th) (sv) (kp) (nI (ln)) (nI (i)) (pt) (hs) (g) (tx) (nu)) ((isI (bI (rPart ch nu i).1) (RM M m sA tA nA (th) (sv) (kp) (nI (ln)) (nI ((rPart ch nu i).2.1)) (nI (0)) (hs) (g) (tx) ((rPart ch nu i).2.2)))) := by
  refine fM_of rfl (by decide +kernel) (Nat.le_of_ble_eq_true rfl) ?_
  have hl := hT.1
  have hx := hT.lt i
  show fR l κ mX9_readsPart 0 [(0, .ref (m))] [] (RM M m sA tA nA (th) (sv) (kp) (nI (ln)) (nI (i)) (pt) (hs) (g) (tx) (nu)) 0 0 _
  refine r_aload_n dX9_readsPart_0 rfl ?_
  refine r_aload_n dX9_readsPart_1 rfl ?_
  have hs0 := tX9_sign (l := l) (κ := κ) (M := M) (th := th) (sv := sv) (kp := kp) (pt := pt) (hs := hs) (g := g) (nu := nu) hD hT hi
  rw [hz] at hs0
  refine r_callV (As := []) dX9_readsPart_2 hs0 rfl RM_0 rfl rfl oX9_sign rfl kX9_141M nX9_sign eX9_sign (by unfold fRoom; decide) (Nat.le_of_ble_eq_true rfl) rfl (bc' := 0) (bs' := 0) rfl rfl ?_
  show fR _ _ _ 5 _ (.int (nI (0)) :: _) _ _ _ _
  refine r_put (k := 7) (fs' := [.int (th), .ref (sA), .int (sv), .int (kp), .ref (tA), .int (nI (ln)), .int (nI (i)), .int (nI (0)), .ref (nA), .long (hs)]) dX9_readsPart_5 RM_0 rfl (by decide) kX9_148F rfl rfl rfl (Nat.le_of_ble_eq_true rfl) rfl ?_
  refine r_mem RM_put ?_
  refine r_aload_n dX9_readsPart_8 rfl ?_
  refine r_dup dX9_readsPart_9 rfl ?_
  refine r_get (k := 6) dX9_readsPart_10 RM_0 rfl rfl (by decide) kX9_138F ?_
  refine r_aload_n dX9_readsPart_13 rfl ?_
  refine r_get (k := 7) dX9_readsPart_14 RM_0 rfl rfl (by decide) kX9_148F ?_
  refine r_if_neN (tgt := 24) dX9_readsPart_17 (by decide) (by omega) (fun c1 => absurd c1 (by omega)) (fun c1 => ?_)
  refine r_iconst (v := nI 0) dX9_readsPart_20 (by decide) ?_
  refine r_goto (tgt := 25) dX9_readsPart_21 (by decide) ?_
  refine r_iaddN dX9_readsPart_25 ?_
  refine r_put (k := 6) (fs' := [.int (th), .ref (sA), .int (sv), .int (kp), .ref (tA), .int (nI (ln)), .int (nI ((i + 0))), .int (nI (0)), .ref (nA), .long (hs)]) dX9_readsPart_26 RM_0 rfl (by decide) kX9_138F rfl rfl rfl (Nat.le_of_ble_eq_true rfl) rfl ?_
  refine r_mem RM_put ?_
  refine r_aload_n dX9_readsPart_29 rfl ?_
  refine r_get (k := 7) dX9_readsPart_30 RM_0 rfl rfl (by decide) kX9_148F ?_
  refine r_lookup (off := 184) (tgt := 217) dX9_readsPart_33 (by decide) (by decide) (by decide) ?_
  refine r_aload_n dX9_readsPart_217 rfl ?_
  refine r_dup dX9_readsPart_218 rfl ?_
  refine r_get (k := 6) dX9_readsPart_219 RM_0 rfl rfl (by decide) kX9_138F ?_
  refine r_aload_n dX9_readsPart_222 rfl ?_
  refine r_get (k := 7) dX9_readsPart_223 RM_0 rfl rfl (by decide) kX9_148F ?_
  refine r_if_neN (tgt := 233) dX9_readsPart_226 (by decide) (by omega) (fun c2 => absurd c2 (by omega)) (fun c2 => ?_)
  refine r_iconst (v := nI 0) dX9_readsPart_229 (by decide) ?_
  refine r_goto (tgt := 234) dX9_readsPart_230 (by decide) ?_
  refine r_isubN dX9_readsPart_234 (by omega) ?_
  refine r_put (k := 6) (fs' := [.int (th), .ref (sA), .int (sv), .int (kp), .ref (tA), .int (nI (ln)), .int (nI (((i + 0) - 0))), .int (nI (0)), .ref (nA), .long (hs)]) dX9_readsPart_235 RM_0 rfl (by decide) kX9_138F rfl rfl rfl (Nat.le_of_ble_eq_true rfl) rfl ?_
  refine r_mem RM_put ?_
  refine r_iconst (v := nI 0) dX9_readsPart_238 (by decide) ?_
  exact fR_zret dX9_readsPart_239 rfl rfl (rq_of (b := false) (a := ((i + 0) - 0)) (u := nu) (by unfold rPart; (repeat (first | rw [if_pos (by first | assumption | exact Int32.not_le.mp (by assumption) | exact Int32.not_lt.mp (by assumption) | omega)] | rw [if_neg (by first | assumption | exact Int32.not_lt.mpr (by assumption) | exact Int32.not_le.mpr (by assumption) | exact bne_of (by assumption) | exact not_not_intro (by assumption) | omega)])); (first | unfold rDig | unfold rNum | unfold rBath | unfold rSink | skip); (repeat (first | rw [if_pos (by first | assumption | exact Int32.not_le.mp (by assumption) | exact Int32.not_lt.mp (by assumption) | omega)] | rw [if_neg (by first | assumption | exact Int32.not_lt.mpr (by assumption) | exact Int32.not_le.mpr (by assumption) | exact bne_of (by assumption) | exact not_not_intro (by assumption) | omega)])); (first | unfold rLoad | skip); (repeat (first | rw [if_pos (by first | assumption | exact Int32.not_le.mp (by assumption) | exact Int32.not_lt.mp (by assumption) | omega)] | rw [if_neg (by first | assumption | exact Int32.not_lt.mpr (by assumption) | exact Int32.not_le.mpr (by assumption) | exact bne_of (by assumption) | exact not_not_intro (by assumption) | omega)])); (first | unfold rNum | skip); first | done | rfl | exact pr_t (by assumption) | exact pr_f (by assumption)))
theorem tX9_readsPart {l : Launch} {κ : KP} {M : Mem} {m sA tA nA : Nat} {th sv kp pt : Int32} {hs : Int64} {g tx nu : Nat → Int32} {ch : Nat → Nat} {ln i : Nat} (hD : rDis m sA tA nA) (hT : TX tx ln ch) (hi : i ≤ ln) : fM l κ mX9_readsPart [.ref m] (RM M m sA tA nA (th) (sv) (kp) (nI (ln)) (nI (i)) (pt) (hs) (g) (tx) (nu)) (isI (bI (rPart ch nu i).1) (RM M m sA tA nA (th) (sv) (kp) (nI (ln)) (nI ((rPart ch nu i).2.1)) (nI (ch i)) (hs) (g) (tx) ((rPart ch nu i).2.2))) := by
  by_cases hz : ch i = 0
  · have := tX9_readsPart_0 (l := l) (κ := κ) (M := M) (th := th) (sv := sv) (kp := kp) (pt := pt) (hs := hs) (g := g) (nu := nu) hD hT hi hz
    rw [← hz] at this; exact this
  · exact tX9_readsPart_1 hD hT hi hz
theorem lX9_areOrders {l : Launch} {κ : KP} {M : Mem} {m sA tA nA : Nat} {th sv kp : Int32} {hs : Int64} {g tx : Nat → Int32} {ch : Nat → Nat} {ln : Nat} (hD : rDis m sA tA nA) (hT : TX tx ln ch) : ∀ (N i : Nat) (nu : Nat → Int32) (pt : Int32), ln < N + i → i ≤ ln → fR l κ mX9_areOrders 5 [(0, .ref (m))] [] (RM M m sA tA nA (th) (sv) (kp) (nI (ln)) (nI (i)) (pt) (hs) (g) (tx) (nu)) 0 0 (isI (bI (rAll ch ln N nu i).1.1) (RM M m sA tA nA (th) (sv) (kp) (nI (ln)) (nI ((rAll ch ln N nu i).1.2.1)) (nI ((rAll ch ln N nu i).2)) (hs) (g) (tx) ((rAll ch ln N nu i).1.2.2))) := by
  intro N
  induction N with
  | zero => intro i nu pt h1 h2; omega
  | succ N ih =>
    intro i nu pt h1 h2
    have hl := hT.1
    have hx := hT.lt i
    refine r_aload_n dX9_areOrders_5 rfl ?_
    refine r_callV (As := []) dX9_areOrders_6 (tX9_readsPart hD hT (by omega)) rfl RM_0 rfl rfl oX9_readsPart rfl kX9_160M nX9_readsPart eX9_readsPart (by unfold fRoom; decide) (Nat.le_of_ble_eq_true rfl) rfl (bc' := 0) (bs' := 0) rfl rfl ?_
    show fR _ _ _ 9 _ (.int (bI ((rPart ch (nu) (i)).1)) :: _) _ _ _ _
    have hp1 := rPart_le (nu := nu) hT (i := i) (by omega)
    refine r_if_eqB (tgt := 36) dX9_areOrders_9 (by decide) (fun c2 => ?_) (fun c2 => ?_)
    · skip
      refine r_iconst (v := nI 0) dX9_areOrders_36 (by decide) ?_
      exact fR_zret dX9_areOrders_37 rfl rfl (rq2_of (b := false) (a := (rPart ch (nu) (i)).2.1) (p := ch (i)) (u := (rPart ch (nu) (i)).2.2) (by unfold rAll; (repeat (first | rw [if_pos (by first | assumption | exact Int32.not_le.mp (by assumption) | exact Int32.not_lt.mp (by assumption) | omega)] | rw [if_neg (by first | assumption | exact Int32.not_lt.mpr (by assumption) | exact Int32.not_le.mpr (by assumption) | exact bne_of (by assumption) | exact not_not_intro (by assumption) | omega)])); first | done | rfl | exact congrArg (fun z => (z, ch i)) (pr_b (by assumption))))
    · skip
      have hlt := hp1.2.2 c2
      refine r_aload_n dX9_areOrders_12 rfl ?_
      refine r_get (k := 6) dX9_areOrders_13 RM_0 rfl rfl (by decide) kX9_138F ?_
      refine r_aload_n dX9_areOrders_16 rfl ?_
      refine r_get (k := 5) dX9_areOrders_17 RM_0 rfl rfl (by decide) kX9_135F ?_
      refine r_icmp_neN (tgt := 25) dX9_areOrders_20 (by decide) (by omega) (by omega) (fun c3 => ?_) (fun c3 => ?_)
      · skip
        refine r_aload_n dX9_areOrders_25 rfl ?_
        refine r_bipush (v := nI 59) dX9_areOrders_26 (by decide) ?_
        by_cases c4 : ch ((rPart ch (nu) (i)).2.1) = 59
        · skip
          refine r_callV (As := [.int (nI (59))]) dX9_areOrders_28 (tX9_takesSign_t hD hT (by omega) (by omega) c4) rfl RM_0 rfl rfl oX9_takesSign rfl kX9_154M nX9_takesSign eX9_takesSign (by unfold fRoom; decide) (Nat.le_of_ble_eq_true rfl) rfl (bc' := 0) (bs' := 0) rfl rfl ?_
          show fR _ _ _ 31 _ (.int (bI (true)) :: _) _ _ _ _
          have qc4 := hT.in (i := (rPart ch (nu) (i)).2.1) (by omega)
          refine r_if_neB (tgt := 5) dX9_areOrders_31 (by decide) (fun c5 => ?_) (fun c5 => absurd c5 (by decide))
          have e : rAll ch ln (N + 1) nu i = rAll ch ln N (rPart ch nu i).2.2 ((rPart ch nu i).2.1 + 1) := (if_pos (by assumption)).trans ((if_neg (by assumption)).trans (if_pos (by assumption)))
          rw [e]
          exact ih _ _ _ (by have := hp1.2.2 (by assumption); omega) (by omega)
        · skip
          refine r_callV (As := [.int (nI (59))]) dX9_areOrders_28 (tX9_takesSign_f hD hT (by omega) (by omega) c4) rfl RM_0 rfl rfl oX9_takesSign rfl kX9_154M nX9_takesSign eX9_takesSign (by unfold fRoom; decide) (Nat.le_of_ble_eq_true rfl) rfl (bc' := 0) (bs' := 0) rfl rfl ?_
          show fR _ _ _ 31 _ (.int (bI (false)) :: _) _ _ _ _
          refine r_if_neB (tgt := 5) dX9_areOrders_31 (by decide) (fun c6 => absurd c6 (by decide)) (fun c6 => ?_)
          refine r_iconst (v := nI 0) dX9_areOrders_34 (by decide) ?_
          exact fR_zret dX9_areOrders_35 rfl rfl (rq2_of (b := false) (a := (rPart ch (nu) (i)).2.1) (p := ch (i)) (u := (rPart ch (nu) (i)).2.2) (by unfold rAll; (repeat (first | rw [if_pos (by first | assumption | exact Int32.not_le.mp (by assumption) | exact Int32.not_lt.mp (by assumption) | omega)] | rw [if_neg (by first | assumption | exact Int32.not_lt.mpr (by assumption) | exact Int32.not_le.mpr (by assumption) | exact bne_of (by assumption) | exact not_not_intro (by assumption) | omega)])); first | done | rfl | exact congrArg (fun z => (z, ch i)) (pr_b (by assumption))))
      · skip
        refine r_iconst (v := nI 1) dX9_areOrders_23 (by decide) ?_
        exact fR_zret dX9_areOrders_24 rfl rfl (rq2_of (b := true) (a := (rPart ch (nu) (i)).2.1) (p := ch (i)) (u := (rPart ch (nu) (i)).2.2) (by unfold rAll; (repeat (first | rw [if_pos (by first | assumption | exact Int32.not_le.mp (by assumption) | exact Int32.not_lt.mp (by assumption) | omega)] | rw [if_neg (by first | assumption | exact Int32.not_lt.mpr (by assumption) | exact Int32.not_le.mpr (by assumption) | exact bne_of (by assumption) | exact not_not_intro (by assumption) | omega)])); first | done | rfl | exact congrArg (fun z => (z, ch i)) (pr_b (by assumption))))
theorem tX9_areOrders {l : Launch} {κ : KP} {M : Mem} {m sA tA nA : Nat} {th sv kp ln ap pt : Int32} {hs : Int64} {g tx nu : Nat → Int32} (hD : rDis m sA tA nA) {tx : Nat → Int32} {ln : Nat} {ch : Nat → Nat} (hT : TX tx ln ch) : fM l κ mX9_areOrders [.ref (m)] (RM M m sA tA nA (th) (sv) (kp) (nI (ln)) (ap) (pt) (hs) (g) (tx) (nu)) ((isI (bI (rAll ch ln 61 nu 0).1.1) (RM M m sA tA nA (th) (sv) (kp) (nI (ln)) (nI ((rAll ch ln 61 nu 0).1.2.1)) (nI ((rAll ch ln 61 nu 0).2)) (hs) (g) (tx) ((rAll ch ln 61 nu 0).1.2.2)))) := by
  refine fM_of rfl (by decide +kernel) (Nat.le_of_ble_eq_true rfl) ?_
  show fR l κ mX9_areOrders 0 [(0, .ref (m))] [] (RM M m sA tA nA (th) (sv) (kp) (nI (ln)) (ap) (pt) (hs) (g) (tx) (nu)) 0 0 _
  refine r_aload_n dX9_areOrders_0 rfl ?_
  refine r_iconst (v := nI 0) dX9_areOrders_1 (by decide) ?_
  refine r_put (k := 6) (fs' := [.int (th), .ref (sA), .int (sv), .int (kp), .ref (tA), .int (nI (ln)), .int (nI (0)), .int (pt), .ref (nA), .long (hs)]) dX9_areOrders_2 RM_0 rfl (by decide) kX9_138F rfl rfl rfl (Nat.le_of_ble_eq_true rfl) rfl ?_
  refine r_mem RM_put ?_
  exact lX9_areOrders hD hT 61 0 nu pt (by have := hT.1; omega) (by omega)
