theorem tX9_mean {l : Launch} {κ : KP} {M : Mem} {m sA tA nA : Nat} {th sv kp ln ap pt : Int32} {hs : Int64} {g tx nu : Nat → Int32} (hD : rDis m sA tA nA) {n : Nat} (hn : n ≤ 8) (hg : g 1 = nI n) (hM : ∀ k, k < n → pOf g k 5 = nI (pMany g k) ∧ pMany g k ≤ 9) {d : Nat} {q : Bool} (hd : d < 6) : fM l κ mX9_mean [.ref (m), .int (nI (d)), .int (bI (q))] (RM M m sA tA nA (th) (sv) (kp) (ln) (ap) (pt) (hs) (g) (tx) (nu)) (isI (pMean g n d q) (RM M m sA tA nA (th) (sv) (kp) (ln) (ap) (pt) (hs) (g) (tx) (nu))) := by
  refine fM_of rfl (by decide +kernel) (Nat.le_of_ble_eq_true rfl) ?_
  show fR l κ mX9_mean 0 [(0, .ref (m)), (1, .int (nI (d))), (2, .int (bI (q)))] [] (RM M m sA tA nA (th) (sv) (kp) (ln) (ap) (pt) (hs) (g) (tx) (nu)) 0 0 _
  refine r_iconst (v := nI 0) dX9_mean_0 (by decide) ?_
  refine r_istore_n (lv' := [(3, .int (nI (0))), (0, .ref (m)), (1, .int (nI (d))), (2, .int (bI (q)))]) dX9_mean_1 (by decide) rfl ?_
  refine r_iconst (v := nI 0) dX9_mean_2 (by decide) ?_
  refine r_istore (lv' := [(4, .int (nI (0))), (3, .int (nI (0))), (0, .ref (m)), (1, .int (nI (d))), (2, .int (bI (q)))]) dX9_mean_3 (by decide) rfl ?_
  refine r_iconst (v := nI 0) dX9_mean_5 (by decide) ?_
  refine r_istore (lv' := [(5, .int (nI (0))), (4, .int (nI (0))), (3, .int (nI (0))), (0, .ref (m)), (1, .int (nI (d))), (2, .int (bI (q)))]) dX9_mean_6 (by decide) rfl ?_
  exact lX9_mean hD hn hg hM hd (n + 1) 0 (by omega) (by omega)
theorem tX9_index {l : Launch} {κ : KP} {M : Mem} {m sA tA nA : Nat} {th sv kp ln ap pt : Int32} {hs : Int64} {g tx nu : Nat → Int32} (hD : rDis m sA tA nA) {n : Nat} (hn : n ≤ 8) (hg : g 1 = nI n) (hM : ∀ k, k < n → pOf g k 5 = nI (pMany g k) ∧ pMany g k ≤ 9) {d : Nat} (hd : d < 6) : fM l κ mX9_index [.ref (m), .int (nI (d))] (RM M m sA tA nA (th) (sv) (kp) (ln) (ap) (pt) (hs) (g) (tx) (nu)) (isI (pIndex g n d) (RM M m sA tA nA (th) (sv) (kp) (ln) (ap) (pt) (hs) (g) (tx) (nu))) := by
  refine fM_of rfl (by decide +kernel) (Nat.le_of_ble_eq_true rfl) ?_
  show fR l κ mX9_index 0 [(0, .ref (m)), (1, .int (nI (d)))] [] (RM M m sA tA nA (th) (sv) (kp) (ln) (ap) (pt) (hs) (g) (tx) (nu)) 0 0 _
  refine r_aload_n dX9_index_0 rfl ?_
  refine r_iload_n dX9_index_1 rfl ?_
  refine r_iconst (v := nI 1) dX9_index_2 (by decide) ?_
  refine r_callV (As := [.int (nI (d)), .int (nI (1))]) dX9_index_3 (tX9_mean (q := true) hD hn hg hM hd) rfl RM_0 rfl rfl oX9_mean rfl kX9_72M nX9_mean eX9_mean (by unfold fRoom; decide) (Nat.le_of_ble_eq_true rfl) rfl (bc' := 0) (bs' := 0) rfl rfl ?_
  show fR _ _ _ 6 _ (.int (pMean (g) n d true) :: _) _ _ _ _
  refine r_istore_n (lv' := [(2, .int (pMean (g) n d true)), (0, .ref (m)), (1, .int (nI (d)))]) dX9_index_6 (by decide) rfl ?_
  refine r_aload_n dX9_index_7 rfl ?_
  refine r_iload_n dX9_index_8 rfl ?_
  refine r_iconst (v := nI 0) dX9_index_9 (by decide) ?_
  refine r_callV (As := [.int (nI (d)), .int (nI (0))]) dX9_index_10 (tX9_mean (q := false) hD hn hg hM hd) rfl RM_0 rfl rfl oX9_mean rfl kX9_72M nX9_mean eX9_mean (by unfold fRoom; decide) (Nat.le_of_ble_eq_true rfl) rfl (bc' := 0) (bs' := 0) rfl rfl ?_
  show fR _ _ _ 13 _ (.int (pMean (g) n d false) :: _) _ _ _ _
  refine r_istore_n (lv' := [(3, .int (pMean (g) n d false)), (2, .int (pMean (g) n d true)), (0, .ref (m)), (1, .int (nI (d)))]) dX9_index_13 (by decide) rfl ?_
  refine r_iload_n dX9_index_14 rfl ?_
  refine r_iconst (v := (-1)) dX9_index_15 (by decide) ?_
  refine r_icmp_eq (tgt := 24) dX9_index_16 (by decide) (fun c1 => ?_) (fun c1 => ?_)
  · skip
    refine r_iconst (v := (-1)) dX9_index_24 (by decide) ?_
    refine r_goto (tgt := 55) dX9_index_25 (by decide) ?_
    exact fR_iret dX9_index_55 rfl (isI_of (by unfold pIndex; (repeat (first | rw [if_pos (by first | assumption | exact Int32.not_le.mp (by assumption) | exact Int32.not_lt.mp (by assumption) | omega)] | rw [if_neg (by first | assumption | exact Int32.not_lt.mpr (by assumption) | exact Int32.not_le.mpr (by assumption) | exact bne_of (by assumption) | exact not_not_intro (by assumption) | omega)])); first | done | rfl))
  · skip
    refine r_iload_n dX9_index_19 rfl ?_
    refine r_iconst (v := (-1)) dX9_index_20 (by decide) ?_
    refine r_icmp_ne (tgt := 28) dX9_index_21 (by decide) (fun c2 => ?_) (fun c2 => ?_)
    · skip
      refine r_sipush (v := nI 1000) dX9_index_28 (by decide) ?_
      refine r_iload_n dX9_index_31 rfl ?_
      refine r_bipush (v := nI 10) dX9_index_32 (by decide) ?_
      refine r_idiv dX9_index_34 (by decide) ?_
      refine r_iadd dX9_index_35 ?_
      refine r_iload_n dX9_index_36 rfl ?_
      refine r_sipush (v := nI 450) dX9_index_37 (by decide) ?_
      refine r_isub dX9_index_40 ?_
      refine r_bipush (v := nI 10) dX9_index_41 (by decide) ?_
      refine r_callS (As := [.int (((pMean (g) n d false) - (nI (450)))), .int (nI (10))]) dX9_index_43 (tX9_div (by decide)) rfl oX9_div rfl kX9_27M sX9_div (by unfold fRoom; decide) (Nat.le_of_ble_eq_true rfl) rfl (bc' := 0) (bs' := 0) rfl rfl ?_
      show fR _ _ _ 46 _ (.int (pDiv (((pMean (g) n d false) - (nI (450)))) (nI (10))) :: _) _ _ _ _
      refine r_iadd dX9_index_46 ?_
      refine r_aload_n dX9_index_47 rfl ?_
      refine r_get (k := 1) dX9_index_48 RM_0 rfl rfl (by decide) kX9_7F ?_
      refine r_bipush (v := nI 7) dX9_index_51 (by decide) ?_
      refine r_ialdN dX9_index_53 (RM_1 hD) (by omega) (by decide) rfl ?_
      refine r_isub dX9_index_54 ?_
      exact fR_iret dX9_index_55 rfl (isI_of (by unfold pIndex; (repeat (first | rw [if_pos (by first | assumption | exact Int32.not_le.mp (by assumption) | exact Int32.not_lt.mp (by assumption) | omega)] | rw [if_neg (by first | assumption | exact Int32.not_lt.mpr (by assumption) | exact Int32.not_le.mpr (by assumption) | exact bne_of (by assumption) | exact not_not_intro (by assumption) | omega)])); first | done | rfl))
    · skip
      refine r_iconst (v := (-1)) dX9_index_24 (by decide) ?_
      refine r_goto (tgt := 55) dX9_index_25 (by decide) ?_
      exact fR_iret dX9_index_55 rfl (isI_of (by unfold pIndex; (repeat (first | rw [if_pos (by first | assumption | exact Int32.not_le.mp (by assumption) | exact Int32.not_lt.mp (by assumption) | omega)] | rw [if_neg (by first | assumption | exact Int32.not_lt.mpr (by assumption) | exact Int32.not_le.mpr (by assumption) | exact bne_of (by assumption) | exact not_not_intro (by assumption) | omega)])); first | done | rfl))
theorem lX9_whyNotSold {l : Launch} {κ : KP} {M : Mem} {m sA tA nA : Nat} {th sv kp ln ap pt : Int32} {hs : Int64} {g tx nu : Nat → Int32} (hD : rDis m sA tA nA) {n : Nat} (hn : n ≤ 8) (hg : g 1 = nI n) (hM : ∀ k, k < n → pOf g k 5 = nI (pMany g k) ∧ pMany g k ≤ 9) {d : Nat} (hd : d < 6) : ∀ (N k : Nat), n < N + k → k ≤ n → fR l κ mX9_whyNotSold 7 [(4, .int (nI (k))), (3, .int (pDMask g d k)), (2, .int (nI (pNum g d true k))), (0, .ref (m)), (1, .int (nI (d)))] [] (RM M m sA tA nA (th) (sv) (kp) (ln) (ap) (pt) (hs) (g) (tx) (nu)) 0 0 (isI (pWhyS g n d) (RM M m sA tA nA (th) (sv) (kp) (ln) (ap) (pt) (hs) (g) (tx) (nu))) := by
  intro N
  induction N with
  | zero => intro k h1 h2; omega
  | succ N ih =>
    intro k h1 h2
    have hle : pNum g d true k ≤ k := pCnt_le _ k
    have hle2 : pNum g d true n ≤ n := pCnt_le _ n
    refine r_iload dX9_whyNotSold_7 rfl ?_
    refine r_aload_n dX9_whyNotSold_9 rfl ?_
    refine r_get (k := 1) dX9_whyNotSold_10 RM_0 rfl rfl (by decide) kX9_7F ?_
    refine r_iconst (v := nI 1) dX9_whyNotSold_13 (by decide) ?_
    refine r_ialdN dX9_whyNotSold_14 (RM_1 hD) (by omega) (by decide) rfl ?_
    refine r_top hg ?_
    refine r_icmp_geN (tgt := 83) dX9_whyNotSold_15 (by decide) (by omega) (by omega) (fun c1 => ?_) (fun c1 => ?_)
    · skip
      have e : k = n := by omega
      rw [e]
      refine r_aload_n dX9_whyNotSold_83 rfl ?_
      refine r_iload_n dX9_whyNotSold_84 rfl ?_
      refine r_iconst (v := nI 2) dX9_whyNotSold_85 (by decide) ?_
      refine r_callV (As := [.int (nI (d)), .int (nI (2))]) dX9_whyNotSold_86 (tX9_drumAt hD (by omega)) rfl RM_0 rfl rfl oX9_drumAt rfl kX9_62M nX9_drumAt eX9_drumAt (by unfold fRoom; decide) (Nat.le_of_ble_eq_true rfl) rfl (bc' := 0) (bs' := 0) rfl rfl ?_
      show fR _ _ _ 89 _ (.int ((g) (10 + 3 * d + 2)) :: _) _ _ _ _
      refine r_iconst (v := (-1)) dX9_whyNotSold_89 (by decide) ?_
      refine r_icmp_eq (tgt := 96) dX9_whyNotSold_90 (by decide) (fun c2 => ?_) (fun c2 => ?_)
      · skip
        refine r_iload_n dX9_whyNotSold_96 rfl ?_
        refine r_iconst (v := nI 2) dX9_whyNotSold_97 (by decide) ?_
        refine r_icmp_geN (tgt := 104) dX9_whyNotSold_98 (by decide) (by omega) (by omega) (fun c3 => ?_) (fun c3 => ?_)
        · skip
          refine r_iload_n dX9_whyNotSold_104 rfl ?_
          refine r_iconst (v := nI 1) dX9_whyNotSold_105 (by decide) ?_
          refine r_icmp_eq (tgt := 119) dX9_whyNotSold_106 (by decide) (fun c4 => ?_) (fun c4 => ?_)
          · skip
            refine r_bipush (v := nI 10) dX9_whyNotSold_119 (by decide) ?_
            exact fR_iret dX9_whyNotSold_121 rfl (isI_of (by unfold pWhyS; (repeat (first | rw [if_pos (by first | assumption | exact Int32.not_le.mp (by assumption) | exact Int32.not_lt.mp (by assumption) | omega)] | rw [if_neg (by first | assumption | exact Int32.not_lt.mpr (by assumption) | exact Int32.not_le.mpr (by assumption) | exact bne_of (by assumption) | exact not_not_intro (by assumption) | omega)])); first | done | rfl))
          · skip
            refine r_iload_n dX9_whyNotSold_109 rfl ?_
            refine r_iconst (v := nI 2) dX9_whyNotSold_110 (by decide) ?_
            refine r_icmp_eq (tgt := 119) dX9_whyNotSold_111 (by decide) (fun c5 => ?_) (fun c5 => ?_)
            · skip
              refine r_bipush (v := nI 10) dX9_whyNotSold_119 (by decide) ?_
              exact fR_iret dX9_whyNotSold_121 rfl (isI_of (by unfold pWhyS; (repeat (first | rw [if_pos (by first | assumption | exact Int32.not_le.mp (by assumption) | exact Int32.not_lt.mp (by assumption) | omega)] | rw [if_neg (by first | assumption | exact Int32.not_lt.mpr (by assumption) | exact Int32.not_le.mpr (by assumption) | exact bne_of (by assumption) | exact not_not_intro (by assumption) | omega)])); first | done | rfl))
            · skip
              refine r_iload_n dX9_whyNotSold_114 rfl ?_
              refine r_iconst (v := nI 4) dX9_whyNotSold_115 (by decide) ?_
              refine r_icmp_ne (tgt := 122) dX9_whyNotSold_116 (by decide) (fun c6 => ?_) (fun c6 => ?_)
              · skip
                refine r_aload_n dX9_whyNotSold_122 rfl ?_
                refine r_iload_n dX9_whyNotSold_123 rfl ?_
                refine r_iconst (v := nI 0) dX9_whyNotSold_124 (by decide) ?_
                refine r_callV (As := [.int (nI (d)), .int (nI (0))]) dX9_whyNotSold_125 (tX9_mean (q := false) hD hn hg hM hd) rfl RM_0 rfl rfl oX9_mean rfl kX9_72M nX9_mean eX9_mean (by unfold fRoom; decide) (Nat.le_of_ble_eq_true rfl) rfl (bc' := 0) (bs' := 0) rfl rfl ?_
                show fR _ _ _ 128 _ (.int (pMean (g) n d false) :: _) _ _ _ _
                refine r_iconst (v := (-1)) dX9_whyNotSold_128 (by decide) ?_
                refine r_icmp_ne (tgt := 137) dX9_whyNotSold_129 (by decide) (fun c7 => ?_) (fun c7 => ?_)
                · skip
                  refine r_aload_n dX9_whyNotSold_137 rfl ?_
                  refine r_iload_n dX9_whyNotSold_138 rfl ?_
                  refine r_callV (As := [.int (nI (d))]) dX9_whyNotSold_139 (tX9_index hD hn hg hM hd) rfl RM_0 rfl rfl oX9_index rfl kX9_78M nX9_index eX9_index (by unfold fRoom; decide) (Nat.le_of_ble_eq_true rfl) rfl (bc' := 0) (bs' := 0) rfl rfl ?_
                  show fR _ _ _ 142 _ (.int (pIndex (g) n d) :: _) _ _ _ _
                  refine r_sipush (v := nI 980) dX9_whyNotSold_142 (by decide) ?_
                  refine r_sipush (v := nI 1020) dX9_whyNotSold_145 (by decide) ?_
                  refine r_callS (As := [.int (pIndex (g) n d), .int (nI (980)), .int (nI (1020))]) dX9_whyNotSold_148 tX9_in rfl oX9_in rfl kX9_23M sX9_in (by unfold fRoom; decide) (Nat.le_of_ble_eq_true rfl) rfl (bc' := 0) (bs' := 0) rfl rfl ?_
                  show fR _ _ _ 151 _ (.int (bI (pIn (pIndex (g) n d) (nI (980)) (nI (1020)))) :: _) _ _ _ _
                  refine r_if_eqB (tgt := 158) dX9_whyNotSold_151 (by decide) (fun c8 => ?_) (fun c8 => ?_)
                  · skip
                    refine r_bipush (v := nI 12) dX9_whyNotSold_158 (by decide) ?_
                    exact fR_iret dX9_whyNotSold_160 rfl (isI_of (by unfold pWhyS; (repeat (first | rw [if_pos (by first | assumption | exact Int32.not_le.mp (by assumption) | exact Int32.not_lt.mp (by assumption) | omega)] | rw [if_neg (by first | assumption | exact Int32.not_lt.mpr (by assumption) | exact Int32.not_le.mpr (by assumption) | exact bne_of (by assumption) | exact not_not_intro (by assumption) | omega)])); first | done | rfl))
                  · skip
                    refine r_iconst (v := nI 0) dX9_whyNotSold_154 (by decide) ?_
                    refine r_goto (tgt := 160) dX9_whyNotSold_155 (by decide) ?_
                    exact fR_iret dX9_whyNotSold_160 rfl (isI_of (by unfold pWhyS; (repeat (first | rw [if_pos (by first | assumption | exact Int32.not_le.mp (by assumption) | exact Int32.not_lt.mp (by assumption) | omega)] | rw [if_neg (by first | assumption | exact Int32.not_lt.mpr (by assumption) | exact Int32.not_le.mpr (by assumption) | exact bne_of (by assumption) | exact not_not_intro (by assumption) | omega)])); first | done | rfl))
                · skip
                  refine r_bipush (v := nI 11) dX9_whyNotSold_132 (by decide) ?_
                  refine r_goto (tgt := 160) dX9_whyNotSold_134 (by decide) ?_
                  exact fR_iret dX9_whyNotSold_160 rfl (isI_of (by unfold pWhyS; (repeat (first | rw [if_pos (by first | assumption | exact Int32.not_le.mp (by assumption) | exact Int32.not_lt.mp (by assumption) | omega)] | rw [if_neg (by first | assumption | exact Int32.not_lt.mpr (by assumption) | exact Int32.not_le.mpr (by assumption) | exact bne_of (by assumption) | exact not_not_intro (by assumption) | omega)])); first | done | rfl))
              · skip
                refine r_bipush (v := nI 10) dX9_whyNotSold_119 (by decide) ?_
                exact fR_iret dX9_whyNotSold_121 rfl (isI_of (by unfold pWhyS; (repeat (first | rw [if_pos (by first | assumption | exact Int32.not_le.mp (by assumption) | exact Int32.not_lt.mp (by assumption) | omega)] | rw [if_neg (by first | assumption | exact Int32.not_lt.mpr (by assumption) | exact Int32.not_le.mpr (by assumption) | exact bne_of (by assumption) | exact not_not_intro (by assumption) | omega)])); first | done | rfl))
        · skip
          refine r_bipush (v := nI 9) dX9_whyNotSold_101 (by decide) ?_
          exact fR_iret dX9_whyNotSold_103 rfl (isI_of (by unfold pWhyS; (repeat (first | rw [if_pos (by first | assumption | exact Int32.not_le.mp (by assumption) | exact Int32.not_lt.mp (by assumption) | omega)] | rw [if_neg (by first | assumption | exact Int32.not_lt.mpr (by assumption) | exact Int32.not_le.mpr (by assumption) | exact bne_of (by assumption) | exact not_not_intro (by assumption) | omega)])); first | done | rfl))
      · skip
        refine r_bipush (v := nI 15) dX9_whyNotSold_93 (by decide) ?_
        exact fR_iret dX9_whyNotSold_95 rfl (isI_of (by unfold pWhyS; (repeat (first | rw [if_pos (by first | assumption | exact Int32.not_le.mp (by assumption) | exact Int32.not_lt.mp (by assumption) | omega)] | rw [if_neg (by first | assumption | exact Int32.not_lt.mpr (by assumption) | exact Int32.not_le.mpr (by assumption) | exact bne_of (by assumption) | exact not_not_intro (by assumption) | omega)])); first | done | rfl))
    · skip
      have hJ9 : fR l κ mX9_whyNotSold 44 [(4, .int (nI (k))), (3, .int (pDMask g d k)), (2, .int (nI (pNum g d true k))), (0, .ref (m)), (1, .int (nI (d)))] [.int (bI (decide (pIs g d true k)))] (RM M m sA tA nA (th) (sv) (kp) (ln) (ap) (pt) (hs) (g) (tx) (nu)) 0 0 (isI (pWhyS g n d) (RM M m sA tA nA (th) (sv) (kp) (ln) (ap) (pt) (hs) (g) (tx) (nu))) := by
        refine r_istore (lv' := [(5, .int (bI (decide (pIs g d true k)))), (4, .int (nI (k))), (3, .int (pDMask g d k)), (2, .int (nI (pNum g d true k))), (0, .ref (m)), (1, .int (nI (d)))]) dX9_whyNotSold_44 (by decide) rfl ?_
        have hJ10 : fR l κ mX9_whyNotSold 58 [(5, .int (bI (decide (pIs g d true k)))), (4, .int (nI (k))), (3, .int (pDMask g d k)), (2, .int (nI (pNum g d true k))), (0, .ref (m)), (1, .int (nI (d)))] [.int (nI (pNum g d true (k + 1)))] (RM M m sA tA nA (th) (sv) (kp) (ln) (ap) (pt) (hs) (g) (tx) (nu)) 0 0 (isI (pWhyS g n d) (RM M m sA tA nA (th) (sv) (kp) (ln) (ap) (pt) (hs) (g) (tx) (nu))) := by
          refine r_istore_n (lv' := [(2, .int (nI (pNum g d true (k + 1)))), (5, .int (bI (decide (pIs g d true k)))), (4, .int (nI (k))), (3, .int (pDMask g d k)), (0, .ref (m)), (1, .int (nI (d)))]) dX9_whyNotSold_58 (by decide) rfl ?_
          have hJ11 : fR l κ mX9_whyNotSold 76 [(2, .int (nI (pNum g d true (k + 1)))), (5, .int (bI (decide (pIs g d true k)))), (4, .int (nI (k))), (3, .int (pDMask g d k)), (0, .ref (m)), (1, .int (nI (d)))] [.int ((pDMask g d (k + 1)))] (RM M m sA tA nA (th) (sv) (kp) (ln) (ap) (pt) (hs) (g) (tx) (nu)) 0 0 (isI (pWhyS g n d) (RM M m sA tA nA (th) (sv) (kp) (ln) (ap) (pt) (hs) (g) (tx) (nu))) := by
            refine r_istore_n (lv' := [(3, .int ((pDMask g d (k + 1)))), (2, .int (nI (pNum g d true (k + 1)))), (5, .int (bI (decide (pIs g d true k)))), (4, .int (nI (k))), (0, .ref (m)), (1, .int (nI (d)))]) dX9_whyNotSold_76 (by decide) rfl ?_
            refine r_iinc (v := (nI (k + 1))) (lv' := [(4, .int (nI (k + 1))), (3, .int ((pDMask g d (k + 1)))), (2, .int (nI (pNum g d true (k + 1)))), (5, .int (bI (decide (pIs g d true k)))), (0, .ref (m)), (1, .int (nI (d)))]) dX9_whyNotSold_77 rfl (nI_inc _) (by decide) rfl ?_
            refine r_goto (tgt := 7) dX9_whyNotSold_80 (by decide) ?_
            refine r_lv (lv' := [(4, .int (nI (k + 1))), (3, .int ((pDMask g d (k + 1)))), (2, .int (nI (pNum g d true (k + 1)))), (0, .ref (m)), (1, .int (nI (d)))]) (by simp) ?_
            exact ih (k + 1) (by omega) (by omega)
          refine r_iload_n dX9_whyNotSold_59 rfl ?_
          refine r_iload dX9_whyNotSold_60 rfl ?_
          refine r_if_eqB (tgt := 74) dX9_whyNotSold_62 (by decide) (fun c12 => ?_) (fun c12 => ?_)
          · skip
            refine r_iconst (v := nI 0) dX9_whyNotSold_74 (by decide) ?_
            refine r_ior dX9_whyNotSold_75 ?_
            exact r_top (by (show _ = pDMask g d k ||| if _ then _ else _); first | rw [if_pos (of_decide_eq_true (by assumption))] | rw [if_neg (of_decide_eq_false (by assumption))]) hJ11
          · skip
            refine r_aload_n dX9_whyNotSold_65 rfl ?_
            refine r_iload dX9_whyNotSold_66 rfl ?_
            have hm := (hM k (by omega)).1
            have hm9 := (hM k (by omega)).2
            refine r_callV (As := [.int (nI (k))]) dX9_whyNotSold_68 (tX9_needles hD (by omega) hm hm9) rfl RM_0 rfl rfl oX9_needles rfl kX9_75M nX9_needles eX9_needles (by unfold fRoom; decide) (Nat.le_of_ble_eq_true rfl) rfl (bc' := 0) (bs' := 0) rfl rfl ?_
            show fR _ _ _ 71 _ (.int (pNeed (g) (k)) :: _) _ _ _ _
            refine r_goto (tgt := 75) dX9_whyNotSold_71 (by decide) ?_
            refine r_ior dX9_whyNotSold_75 ?_
            exact r_top (by (show _ = pDMask g d k ||| if _ then _ else _); first | rw [if_pos (of_decide_eq_true (by assumption))] | rw [if_neg (of_decide_eq_false (by assumption))]) hJ11
        refine r_iload_n dX9_whyNotSold_46 rfl ?_
        refine r_iload dX9_whyNotSold_47 rfl ?_
        refine r_if_eqB (tgt := 56) dX9_whyNotSold_49 (by decide) (fun c13 => ?_) (fun c13 => ?_)
        · skip
          refine r_iconst (v := nI 0) dX9_whyNotSold_56 (by decide) ?_
          refine r_iaddN dX9_whyNotSold_57 ?_
          exact r_top (by first | exact congrArg nI (pCnt_t (of_decide_eq_true (by assumption))) | exact congrArg nI (pCnt_f (of_decide_eq_false (by assumption)))) hJ10
        · skip
          refine r_iconst (v := nI 1) dX9_whyNotSold_52 (by decide) ?_
          refine r_goto (tgt := 57) dX9_whyNotSold_53 (by decide) ?_
          refine r_iaddN dX9_whyNotSold_57 ?_
          exact r_top (by first | exact congrArg nI (pCnt_t (of_decide_eq_true (by assumption))) | exact congrArg nI (pCnt_f (of_decide_eq_false (by assumption)))) hJ10
      refine r_aload_n dX9_whyNotSold_18 rfl ?_
      refine r_iload dX9_whyNotSold_19 rfl ?_
      refine r_iconst (v := nI 0) dX9_whyNotSold_21 (by decide) ?_
      refine r_callV (As := [.int (nI (k)), .int (nI (0))]) dX9_whyNotSold_22 (tX9_of hD (by omega)) rfl RM_0 rfl rfl oX9_of rfl kX9_31M nX9_of eX9_of (by unfold fRoom; decide) (Nat.le_of_ble_eq_true rfl) rfl (bc' := 0) (bs' := 0) rfl rfl ?_
      show fR _ _ _ 25 _ (.int (pOf (g) (k) (0)) :: _) _ _ _ _
      refine r_iload_n dX9_whyNotSold_25 rfl ?_
      refine r_icmp_ne (tgt := 43) dX9_whyNotSold_26 (by decide) (fun c14 => ?_) (fun c14 => ?_)
      · skip
        refine r_iconst (v := nI 0) dX9_whyNotSold_43 (by decide) ?_
        exact r_top (bJ_f (by first | exact decide_eq_true ⟨by assumption, by assumption⟩ | exact decide_eq_false (fun h => absurd h.1 (by assumption)) | exact decide_eq_false (fun h => absurd (by assumption) h.2))) hJ9
      · skip
        refine r_aload_n dX9_whyNotSold_29 rfl ?_
        refine r_iload dX9_whyNotSold_30 rfl ?_
        have hm := (hM k (by omega)).1
        have hm9 := (hM k (by omega)).2
        refine r_callV (As := [.int (nI (k))]) dX9_whyNotSold_32 (tX9_penetration hD (by omega) hm hm9) rfl RM_0 rfl rfl oX9_penetration rfl kX9_65M nX9_penetration eX9_penetration (by unfold fRoom; decide) (Nat.le_of_ble_eq_true rfl) rfl (bc' := 0) (bs' := 0) rfl rfl ?_
        show fR _ _ _ 35 _ (.int (pPen (g) (k)) :: _) _ _ _ _
        refine r_iconst (v := (-1)) dX9_whyNotSold_35 (by decide) ?_
        refine r_icmp_eq (tgt := 43) dX9_whyNotSold_36 (by decide) (fun c15 => ?_) (fun c15 => ?_)
        · skip
          refine r_iconst (v := nI 0) dX9_whyNotSold_43 (by decide) ?_
          exact r_top (bJ_f (by first | exact decide_eq_true ⟨by assumption, by assumption⟩ | exact decide_eq_false (fun h => absurd h.1 (by assumption)) | exact decide_eq_false (fun h => absurd (by assumption) h.2))) hJ9
        · skip
          refine r_iconst (v := nI 1) dX9_whyNotSold_39 (by decide) ?_
          refine r_goto (tgt := 44) dX9_whyNotSold_40 (by decide) ?_
          exact r_top (bJ_t (by first | exact decide_eq_true ⟨by assumption, by assumption⟩ | exact decide_eq_false (fun h => absurd h.1 (by assumption)) | exact decide_eq_false (fun h => absurd (by assumption) h.2))) hJ9
theorem tX9_whyNotSold {l : Launch} {κ : KP} {M : Mem} {m sA tA nA : Nat} {th sv kp ln ap pt : Int32} {hs : Int64} {g tx nu : Nat → Int32} (hD : rDis m sA tA nA) {n : Nat} (hn : n ≤ 8) (hg : g 1 = nI n) (hM : ∀ k, k < n → pOf g k 5 = nI (pMany g k) ∧ pMany g k ≤ 9) {d : Nat} (hd : d < 6) : fM l κ mX9_whyNotSold [.ref (m), .int (nI (d))] (RM M m sA tA nA (th) (sv) (kp) (ln) (ap) (pt) (hs) (g) (tx) (nu)) (isI (pWhyS g n d) (RM M m sA tA nA (th) (sv) (kp) (ln) (ap) (pt) (hs) (g) (tx) (nu))) := by
  refine fM_of rfl (by decide +kernel) (Nat.le_of_ble_eq_true rfl) ?_
  show fR l κ mX9_whyNotSold 0 [(0, .ref (m)), (1, .int (nI (d)))] [] (RM M m sA tA nA (th) (sv) (kp) (ln) (ap) (pt) (hs) (g) (tx) (nu)) 0 0 _
  refine r_iconst (v := nI 0) dX9_whyNotSold_0 (by decide) ?_
  refine r_istore_n (lv' := [(2, .int (nI (0))), (0, .ref (m)), (1, .int (nI (d)))]) dX9_whyNotSold_1 (by decide) rfl ?_
  refine r_iconst (v := nI 0) dX9_whyNotSold_2 (by decide) ?_
  refine r_istore_n (lv' := [(3, .int (nI (0))), (2, .int (nI (0))), (0, .ref (m)), (1, .int (nI (d)))]) dX9_whyNotSold_3 (by decide) rfl ?_
  refine r_iconst (v := nI 0) dX9_whyNotSold_4 (by decide) ?_
  refine r_istore (lv' := [(4, .int (nI (0))), (3, .int (nI (0))), (2, .int (nI (0))), (0, .ref (m)), (1, .int (nI (d)))]) dX9_whyNotSold_5 (by decide) rfl ?_
  exact lX9_whyNotSold hD hn hg hM hd (n + 1) 0 (by omega) (by omega)
def pReadyNow (f : Nat → Int32) (k : Nat) : Int32 := if pOf f k 3 = -1 then -1 else pReady f k (pOf f k 3).toNatClampNeg
def pFar (f : Nat → Int32) (b : Nat) : Nat → Int32
  | 0 => -1
  | k + 1 => if pOf f k 3 = nI b then (if pFar f b k < pAbs (pOf f k 2 - f (28 + b)) then pAbs (pOf f k 2 - f (28 + b)) else pFar f b k) else pFar f b k
def pOfBath (f : Nat → Int32) (n b w : Nat) : Int32 := if w = 0 then f (28 + b) else if w = 1 then nI (pInBath f n (nI b)) else pFar f b n
def pSoldD (f : Nat → Int32) (dn : Nat) : Nat := pCnt (fun d => ¬ f (10 + 3 * d + 2) = -1) dn
def pPend (f : Nat → Int32) (n : Nat) : Nat := pCnt (fun k => pWhy f k = 0) n
theorem tX9_readyNow {l : Launch} {κ : KP} {M : Mem} {m sA tA nA : Nat} {th sv kp ln ap pt : Int32} {hs : Int64} {g tx nu : Nat → Int32} (hD : rDis m sA tA nA) {k : Nat} (hk : k < 8) (hB : ¬ pOf g k 3 = -1 → ∃ b, b < 3 ∧ pOf g k 3 = nI b) : fM l κ mX9_readyNow [.ref (m), .int (nI (k))] (RM M m sA tA nA (th) (sv) (kp) (ln) (ap) (pt) (hs) (g) (tx) (nu)) (isI (pReadyNow g k) (RM M m sA tA nA (th) (sv) (kp) (ln) (ap) (pt) (hs) (g) (tx) (nu))) := by
  refine fM_of rfl (by decide +kernel) (Nat.le_of_ble_eq_true rfl) ?_
  show fR l κ mX9_readyNow 0 [(0, .ref (m)), (1, .int (nI (k)))] [] (RM M m sA tA nA (th) (sv) (kp) (ln) (ap) (pt) (hs) (g) (tx) (nu)) 0 0 _
  refine r_aload_n dX9_readyNow_0 rfl ?_
  refine r_iload_n dX9_readyNow_1 rfl ?_
  refine r_iconst (v := nI 3) dX9_readyNow_2 (by decide) ?_
  refine r_callV (As := [.int (nI (k)), .int (nI (3))]) dX9_readyNow_3 (tX9_of hD (by omega)) rfl RM_0 rfl rfl oX9_of rfl kX9_31M nX9_of eX9_of (by unfold fRoom; decide) (Nat.le_of_ble_eq_true rfl) rfl (bc' := 0) (bs' := 0) rfl rfl ?_
  show fR _ _ _ 6 _ (.int (pOf (g) (k) (3)) :: _) _ _ _ _
  refine r_iconst (v := (-1)) dX9_readyNow_6 (by decide) ?_
  refine r_icmp_ne (tgt := 14) dX9_readyNow_7 (by decide) (fun c1 => ?_) (fun c1 => ?_)
  · skip
    obtain ⟨bb, hbb, ebb⟩ := hB c1
    refine r_aload_n dX9_readyNow_14 rfl ?_
    refine r_iload_n dX9_readyNow_15 rfl ?_
    refine r_aload_n dX9_readyNow_16 rfl ?_
    refine r_iload_n dX9_readyNow_17 rfl ?_
    refine r_iconst (v := nI 3) dX9_readyNow_18 (by decide) ?_
    refine r_callV (As := [.int (nI (k)), .int (nI (3))]) dX9_readyNow_19 (tX9_of hD (by omega)) rfl RM_0 rfl rfl oX9_of rfl kX9_31M nX9_of eX9_of (by unfold fRoom; decide) (Nat.le_of_ble_eq_true rfl) rfl (bc' := 0) (bs' := 0) rfl rfl ?_
    show fR _ _ _ 22 _ (.int (pOf (g) (k) (3)) :: _) _ _ _ _
    refine r_top ebb ?_
    refine r_callV (As := [.int (nI (k)), .int (nI (bb))]) dX9_readyNow_22 (tX9_ready hD (by omega) (by omega)) rfl RM_0 rfl rfl oX9_ready rfl kX9_201M nX9_ready eX9_ready (by unfold fRoom; decide) (Nat.le_of_ble_eq_true rfl) rfl (bc' := 0) (bs' := 0) rfl rfl ?_
    show fR _ _ _ 25 _ (.int (pReady (g) (k) (bb)) :: _) _ _ _ _
    exact fR_iret dX9_readyNow_25 rfl (isI_of (by unfold pReadyNow; first | rw [if_pos c1] | (rw [if_neg c1, ebb, nI_clamp (by omega)])))
  · skip
    refine r_iconst (v := (-1)) dX9_readyNow_10 (by decide) ?_
    refine r_goto (tgt := 25) dX9_readyNow_11 (by decide) ?_
    exact fR_iret dX9_readyNow_25 rfl (isI_of (by unfold pReadyNow; first | rw [if_pos c1] | (rw [if_neg c1, ebb, nI_clamp (by omega)])))
theorem lX9_farthest {l : Launch} {κ : KP} {M : Mem} {m sA tA nA : Nat} {th sv kp ln ap pt : Int32} {hs : Int64} {g tx nu : Nat → Int32} (hD : rDis m sA tA nA) {n : Nat} (hn : n ≤ 8) (hg : g 1 = nI n) {b : Nat} (hb : b < 3) : ∀ (N k : Nat), n < N + k → k ≤ n → fR l κ mX9_farthest 4 [(3, .int (nI (k))), (2, .int (pFar g b k)), (0, .ref (m)), (1, .int (nI (b)))] [] (RM M m sA tA nA (th) (sv) (kp) (ln) (ap) (pt) (hs) (g) (tx) (nu)) 0 0 (isI (pFar g b n) (RM M m sA tA nA (th) (sv) (kp) (ln) (ap) (pt) (hs) (g) (tx) (nu))) := by
  intro N
  induction N with
  | zero => intro k h1 h2; omega
  | succ N ih =>
    intro k h1 h2
    refine r_iload_n dX9_farthest_4 rfl ?_
    refine r_aload_n dX9_farthest_5 rfl ?_
    refine r_get (k := 1) dX9_farthest_6 RM_0 rfl rfl (by decide) kX9_7F ?_
    refine r_iconst (v := nI 1) dX9_farthest_9 (by decide) ?_
    refine r_ialdN dX9_farthest_10 (RM_1 hD) (by omega) (by decide) rfl ?_
    refine r_top hg ?_
    refine r_icmp_geN (tgt := 64) dX9_farthest_11 (by decide) (by omega) (by omega) (fun c1 => ?_) (fun c1 => ?_)
    · skip
      have e : k = n := by omega
      rw [e]
      refine r_iload_n dX9_farthest_64 rfl ?_
      exact fR_iret dX9_farthest_65 rfl (isI_of (by rfl))
    · skip
      refine r_aload_n dX9_farthest_14 rfl ?_
      refine r_iload_n dX9_farthest_15 rfl ?_
      refine r_iconst (v := nI 2) dX9_farthest_16 (by decide) ?_
      refine r_callV (As := [.int (nI (k)), .int (nI (2))]) dX9_farthest_17 (tX9_of hD (by omega)) rfl RM_0 rfl rfl oX9_of rfl kX9_31M nX9_of eX9_of (by unfold fRoom; decide) (Nat.le_of_ble_eq_true rfl) rfl (bc' := 0) (bs' := 0) rfl rfl ?_
      show fR _ _ _ 20 _ (.int (pOf (g) (k) (2)) :: _) _ _ _ _
      refine r_aload_n dX9_farthest_20 rfl ?_
      refine r_get (k := 1) dX9_farthest_21 RM_0 rfl rfl (by decide) kX9_7F ?_
      refine r_bipush (v := nI 28) dX9_farthest_24 (by decide) ?_
      refine r_iload_n dX9_farthest_26 rfl ?_
      refine r_iaddN dX9_farthest_27 ?_
      refine r_ialdN dX9_farthest_28 (RM_1 hD) (by omega) (by decide) rfl ?_
      refine r_isub dX9_farthest_29 ?_
      refine r_callS (As := [.int (((pOf (g) (k) (2)) - ((g) ((28 + b)))))]) dX9_farthest_30 tX9_size rfl oX9_size rfl kX9_45M sX9_size (by unfold fRoom; decide) (Nat.le_of_ble_eq_true rfl) rfl (bc' := 0) (bs' := 0) rfl rfl ?_
      show fR _ _ _ 33 _ (.int (pAbs (((pOf (g) (k) (2)) - ((g) ((28 + b)))))) :: _) _ _ _ _
      refine r_istore (lv' := [(4, .int (pAbs (((pOf (g) (k) (2)) - ((g) ((28 + b))))))), (3, .int (nI (k))), (2, .int (pFar g b k)), (0, .ref (m)), (1, .int (nI (b)))]) dX9_farthest_33 (by decide) rfl ?_
      have hJ2 : fR l κ mX9_farthest 57 [(4, .int (pAbs (((pOf (g) (k) (2)) - ((g) ((28 + b))))))), (3, .int (nI (k))), (2, .int (pFar g b k)), (0, .ref (m)), (1, .int (nI (b)))] [.int ((pFar g b (k + 1)))] (RM M m sA tA nA (th) (sv) (kp) (ln) (ap) (pt) (hs) (g) (tx) (nu)) 0 0 (isI (pFar g b n) (RM M m sA tA nA (th) (sv) (kp) (ln) (ap) (pt) (hs) (g) (tx) (nu))) := by
        refine r_istore_n (lv' := [(2, .int ((pFar g b (k + 1)))), (4, .int (pAbs (((pOf (g) (k) (2)) - ((g) ((28 + b))))))), (3, .int (nI (k))), (0, .ref (m)), (1, .int (nI (b)))]) dX9_farthest_57 (by decide) rfl ?_
        refine r_iinc (v := (nI (k + 1))) (lv' := [(3, .int (nI (k + 1))), (2, .int ((pFar g b (k + 1)))), (4, .int (pAbs (((pOf (g) (k) (2)) - ((g) ((28 + b))))))), (0, .ref (m)), (1, .int (nI (b)))]) dX9_farthest_58 rfl (nI_inc _) (by decide) rfl ?_
        refine r_goto (tgt := 4) dX9_farthest_61 (by decide) ?_
        refine r_lv (lv' := [(3, .int (nI (k + 1))), (2, .int ((pFar g b (k + 1)))), (0, .ref (m)), (1, .int (nI (b)))]) (by simp) ?_
        exact ih (k + 1) (by omega) (by omega)
      refine r_aload_n dX9_farthest_35 rfl ?_
      refine r_iload_n dX9_farthest_36 rfl ?_
      refine r_iconst (v := nI 3) dX9_farthest_37 (by decide) ?_
      refine r_callV (As := [.int (nI (k)), .int (nI (3))]) dX9_farthest_38 (tX9_of hD (by omega)) rfl RM_0 rfl rfl oX9_of rfl kX9_31M nX9_of eX9_of (by unfold fRoom; decide) (Nat.le_of_ble_eq_true rfl) rfl (bc' := 0) (bs' := 0) rfl rfl ?_
      show fR _ _ _ 41 _ (.int (pOf (g) (k) (3)) :: _) _ _ _ _
      refine r_iload_n dX9_farthest_41 rfl ?_
      refine r_icmp_ne (tgt := 56) dX9_farthest_42 (by decide) (fun c3 => ?_) (fun c3 => ?_)
      · skip
        refine r_iload_n dX9_farthest_56 rfl ?_
        exact r_top (by (show _ = if _ then (if _ < _ then _ else _) else _); (repeat (first | rw [if_pos (by first | assumption | exact Int32.not_le.mp (by assumption) | exact Int32.not_lt.mp (by assumption) | omega)] | rw [if_neg (by first | assumption | exact Int32.not_lt.mpr (by assumption) | exact Int32.not_le.mpr (by assumption) | exact bne_of (by assumption) | exact not_not_intro (by assumption) | omega)])); first | done | rfl) hJ2
      · skip
        refine r_iload dX9_farthest_45 rfl ?_
        refine r_iload_n dX9_farthest_47 rfl ?_
        refine r_icmp_le (tgt := 56) dX9_farthest_48 (by decide) (fun c4 => ?_) (fun c4 => ?_)
        · skip
          refine r_iload_n dX9_farthest_56 rfl ?_
          exact r_top (by (show _ = if _ then (if _ < _ then _ else _) else _); (repeat (first | rw [if_pos (by first | assumption | exact Int32.not_le.mp (by assumption) | exact Int32.not_lt.mp (by assumption) | omega)] | rw [if_neg (by first | assumption | exact Int32.not_lt.mpr (by assumption) | exact Int32.not_le.mpr (by assumption) | exact bne_of (by assumption) | exact not_not_intro (by assumption) | omega)])); first | done | rfl) hJ2
        · skip
          refine r_iload dX9_farthest_51 rfl ?_
          refine r_goto (tgt := 57) dX9_farthest_53 (by decide) ?_
          exact r_top (by (show _ = if _ then (if _ < _ then _ else _) else _); (repeat (first | rw [if_pos (by first | assumption | exact Int32.not_le.mp (by assumption) | exact Int32.not_lt.mp (by assumption) | omega)] | rw [if_neg (by first | assumption | exact Int32.not_lt.mpr (by assumption) | exact Int32.not_le.mpr (by assumption) | exact bne_of (by assumption) | exact not_not_intro (by assumption) | omega)])); first | done | rfl) hJ2
theorem tX9_farthest {l : Launch} {κ : KP} {M : Mem} {m sA tA nA : Nat} {th sv kp ln ap pt : Int32} {hs : Int64} {g tx nu : Nat → Int32} (hD : rDis m sA tA nA) {n : Nat} (hn : n ≤ 8) (hg : g 1 = nI n) {b : Nat} (hb : b < 3) : fM l κ mX9_farthest [.ref (m), .int (nI (b))] (RM M m sA tA nA (th) (sv) (kp) (ln) (ap) (pt) (hs) (g) (tx) (nu)) (isI (pFar g b n) (RM M m sA tA nA (th) (sv) (kp) (ln) (ap) (pt) (hs) (g) (tx) (nu))) := by
  refine fM_of rfl (by decide +kernel) (Nat.le_of_ble_eq_true rfl) ?_
  show fR l κ mX9_farthest 0 [(0, .ref (m)), (1, .int (nI (b)))] [] (RM M m sA tA nA (th) (sv) (kp) (ln) (ap) (pt) (hs) (g) (tx) (nu)) 0 0 _
  refine r_iconst (v := (-1)) dX9_farthest_0 (by decide) ?_
  refine r_istore_n (lv' := [(2, .int (-1)), (0, .ref (m)), (1, .int (nI (b)))]) dX9_farthest_1 (by decide) rfl ?_
  refine r_iconst (v := nI 0) dX9_farthest_2 (by decide) ?_
  refine r_istore_n (lv' := [(3, .int (nI (0))), (2, .int (-1)), (0, .ref (m)), (1, .int (nI (b)))]) dX9_farthest_3 (by decide) rfl ?_
  exact lX9_farthest hD hn hg hb (n + 1) 0 (by omega) (by omega)
theorem tX9_ofBath {l : Launch} {κ : KP} {M : Mem} {m sA tA nA : Nat} {th sv kp ln ap pt : Int32} {hs : Int64} {g tx nu : Nat → Int32} (hD : rDis m sA tA nA) {n : Nat} (hn : n ≤ 8) (hg : g 1 = nI n) {b w : Nat} (hb : b < 3) (hw : w < 3) : fM l κ mX9_ofBath [.ref (m), .int (nI (b)), .int (nI (w))] (RM M m sA tA nA (th) (sv) (kp) (ln) (ap) (pt) (hs) (g) (tx) (nu)) (isI (pOfBath g n b w) (RM M m sA tA nA (th) (sv) (kp) (ln) (ap) (pt) (hs) (g) (tx) (nu))) := by
  refine fM_of rfl (by decide +kernel) (Nat.le_of_ble_eq_true rfl) ?_
  show fR l κ mX9_ofBath 0 [(0, .ref (m)), (1, .int (nI (b))), (2, .int (nI (w)))] [] (RM M m sA tA nA (th) (sv) (kp) (ln) (ap) (pt) (hs) (g) (tx) (nu)) 0 0 _
  refine r_iload_n dX9_ofBath_0 rfl ?_
  refine r_if_neN (tgt := 16) dX9_ofBath_1 (by decide) (by omega) (fun c1 => ?_) (fun c1 => ?_)
  · skip
    refine r_iload_n dX9_ofBath_16 rfl ?_
    refine r_iconst (v := nI 1) dX9_ofBath_17 (by decide) ?_
    refine r_icmp_neN (tgt := 29) dX9_ofBath_18 (by decide) (by omega) (by omega) (fun c2 => ?_) (fun c2 => ?_)
    · skip
      refine r_aload_n dX9_ofBath_29 rfl ?_
      refine r_iload_n dX9_ofBath_30 rfl ?_
      refine r_callV (As := [.int (nI (b))]) dX9_ofBath_31 (tX9_farthest hD hn hg (by omega)) rfl RM_0 rfl rfl oX9_farthest rfl kX9_186M nX9_farthest eX9_farthest (by unfold fRoom; decide) (Nat.le_of_ble_eq_true rfl) rfl (bc' := 0) (bs' := 0) rfl rfl ?_
      show fR _ _ _ 34 _ (.int (pFar g (b) n) :: _) _ _ _ _
      exact fR_iret dX9_ofBath_34 rfl (isI_of (by unfold pOfBath; (repeat (first | rw [if_pos (by first | assumption | exact Int32.not_le.mp (by assumption) | exact Int32.not_lt.mp (by assumption) | omega)] | rw [if_neg (by first | assumption | exact Int32.not_lt.mpr (by assumption) | exact Int32.not_le.mpr (by assumption) | exact bne_of (by assumption) | exact not_not_intro (by assumption) | omega)])); first | done | rfl))
    · skip
      refine r_aload_n dX9_ofBath_21 rfl ?_
      refine r_iload_n dX9_ofBath_22 rfl ?_
      refine r_callV (As := [.int (nI (b))]) dX9_ofBath_23 (tX9_inBath hD hn hg) rfl RM_0 rfl rfl oX9_inBath rfl kX9_34M nX9_inBath eX9_inBath (by unfold fRoom; decide) (Nat.le_of_ble_eq_true rfl) rfl (bc' := 0) (bs' := 0) rfl rfl ?_
      show fR _ _ _ 26 _ (.int (nI (pInBath g n (nI (b)))) :: _) _ _ _ _
      refine r_goto (tgt := 34) dX9_ofBath_26 (by decide) ?_
      exact fR_iret dX9_ofBath_34 rfl (isI_of (by unfold pOfBath; (repeat (first | rw [if_pos (by first | assumption | exact Int32.not_le.mp (by assumption) | exact Int32.not_lt.mp (by assumption) | omega)] | rw [if_neg (by first | assumption | exact Int32.not_lt.mpr (by assumption) | exact Int32.not_le.mpr (by assumption) | exact bne_of (by assumption) | exact not_not_intro (by assumption) | omega)])); first | done | rfl))
  · skip
    refine r_aload_n dX9_ofBath_4 rfl ?_
    refine r_get (k := 1) dX9_ofBath_5 RM_0 rfl rfl (by decide) kX9_7F ?_
    refine r_bipush (v := nI 28) dX9_ofBath_8 (by decide) ?_
    refine r_iload_n dX9_ofBath_10 rfl ?_
    refine r_iaddN dX9_ofBath_11 ?_
    refine r_ialdN dX9_ofBath_12 (RM_1 hD) (by omega) (by decide) rfl ?_
    refine r_goto (tgt := 34) dX9_ofBath_13 (by decide) ?_
    exact fR_iret dX9_ofBath_34 rfl (isI_of (by unfold pOfBath; (repeat (first | rw [if_pos (by first | assumption | exact Int32.not_le.mp (by assumption) | exact Int32.not_lt.mp (by assumption) | omega)] | rw [if_neg (by first | assumption | exact Int32.not_lt.mpr (by assumption) | exact Int32.not_le.mpr (by assumption) | exact bne_of (by assumption) | exact not_not_intro (by assumption) | omega)])); first | done | rfl))
theorem lX9_soldDrums {l : Launch} {κ : KP} {M : Mem} {m sA tA nA : Nat} {th sv kp ln ap pt : Int32} {hs : Int64} {g tx nu : Nat → Int32} (hD : rDis m sA tA nA) {dn : Nat} (hdn : dn ≤ 6) (hg0 : g 0 = nI dn) : ∀ (N d : Nat), dn < N + d → d ≤ dn → fR l κ mX9_soldDrums 4 [(2, .int (nI (d))), (1, .int (nI (pSoldD g d))), (0, .ref (m))] [] (RM M m sA tA nA (th) (sv) (kp) (ln) (ap) (pt) (hs) (g) (tx) (nu)) 0 0 (isI (nI (pSoldD g dn)) (RM M m sA tA nA (th) (sv) (kp) (ln) (ap) (pt) (hs) (g) (tx) (nu))) := by
  intro N
  induction N with
  | zero => intro d h1 h2; omega
  | succ N ih =>
    intro d h1 h2
    refine r_iload_n dX9_soldDrums_4 rfl ?_
    refine r_aload_n dX9_soldDrums_5 rfl ?_
    refine r_get (k := 1) dX9_soldDrums_6 RM_0 rfl rfl (by decide) kX9_7F ?_
    refine r_iconst (v := nI 0) dX9_soldDrums_9 (by decide) ?_
    refine r_ialdN dX9_soldDrums_10 (RM_1 hD) (by omega) (by decide) rfl ?_
    refine r_top hg0 ?_
    refine r_icmp_geN (tgt := 38) dX9_soldDrums_11 (by decide) (by omega) (by omega) (fun c1 => ?_) (fun c1 => ?_)
    · skip
      have e : d = dn := by omega
      rw [e]
      refine r_iload_n dX9_soldDrums_38 rfl ?_
      exact fR_iret dX9_soldDrums_39 rfl (isI_of (by rfl))
    · skip
      refine r_iload_n dX9_soldDrums_14 rfl ?_
      refine r_aload_n dX9_soldDrums_15 rfl ?_
      refine r_iload_n dX9_soldDrums_16 rfl ?_
      refine r_iconst (v := nI 2) dX9_soldDrums_17 (by decide) ?_
      refine r_callV (As := [.int (nI (d)), .int (nI (2))]) dX9_soldDrums_18 (tX9_drumAt hD (by omega)) rfl RM_0 rfl rfl oX9_drumAt rfl kX9_62M nX9_drumAt eX9_drumAt (by unfold fRoom; decide) (Nat.le_of_ble_eq_true rfl) rfl (bc' := 0) (bs' := 0) rfl rfl ?_
      show fR _ _ _ 21 _ (.int ((g) (10 + 3 * d + 2)) :: _) _ _ _ _
      refine r_iconst (v := (-1)) dX9_soldDrums_21 (by decide) ?_
      refine r_icmp_eq (tgt := 29) dX9_soldDrums_22 (by decide) (fun c2 => ?_) (fun c2 => ?_)
      · skip
        refine r_iconst (v := nI 0) dX9_soldDrums_29 (by decide) ?_
        refine r_iaddN dX9_soldDrums_30 ?_
        refine r_istore_n (lv' := [(1, .int (nI ((pSoldD g d + 0)))), (2, .int (nI (d))), (0, .ref (m))]) dX9_soldDrums_31 (by decide) rfl ?_
        refine r_iinc (v := (nI (d + 1))) (lv' := [(2, .int (nI (d + 1))), (1, .int (nI ((pSoldD g d + 0)))), (0, .ref (m))]) dX9_soldDrums_32 rfl (nI_inc _) (by decide) rfl ?_
        refine r_goto (tgt := 4) dX9_soldDrums_35 (by decide) ?_
        first | rw [show pSoldD g d + 1 = pSoldD g (d + 1) from pCnt_t c2] | rw [show pSoldD g d + 0 = pSoldD g (d + 1) from pCnt_f (not_not_intro c2)]
        exact ih (d + 1) (by omega) (by omega)
      · skip
        refine r_iconst (v := nI 1) dX9_soldDrums_25 (by decide) ?_
        refine r_goto (tgt := 30) dX9_soldDrums_26 (by decide) ?_
        refine r_iaddN dX9_soldDrums_30 ?_
        refine r_istore_n (lv' := [(1, .int (nI ((pSoldD g d + 1)))), (2, .int (nI (d))), (0, .ref (m))]) dX9_soldDrums_31 (by decide) rfl ?_
        refine r_iinc (v := (nI (d + 1))) (lv' := [(2, .int (nI (d + 1))), (1, .int (nI ((pSoldD g d + 1)))), (0, .ref (m))]) dX9_soldDrums_32 rfl (nI_inc _) (by decide) rfl ?_
        refine r_goto (tgt := 4) dX9_soldDrums_35 (by decide) ?_
        first | rw [show pSoldD g d + 1 = pSoldD g (d + 1) from pCnt_t c2] | rw [show pSoldD g d + 0 = pSoldD g (d + 1) from pCnt_f (not_not_intro c2)]
        exact ih (d + 1) (by omega) (by omega)
theorem tX9_soldDrums {l : Launch} {κ : KP} {M : Mem} {m sA tA nA : Nat} {th sv kp ln ap pt : Int32} {hs : Int64} {g tx nu : Nat → Int32} (hD : rDis m sA tA nA) {dn : Nat} (hdn : dn ≤ 6) (hg0 : g 0 = nI dn) : fM l κ mX9_soldDrums [.ref (m)] (RM M m sA tA nA (th) (sv) (kp) (ln) (ap) (pt) (hs) (g) (tx) (nu)) (isI (nI (pSoldD g dn)) (RM M m sA tA nA (th) (sv) (kp) (ln) (ap) (pt) (hs) (g) (tx) (nu))) := by
  refine fM_of rfl (by decide +kernel) (Nat.le_of_ble_eq_true rfl) ?_
  show fR l κ mX9_soldDrums 0 [(0, .ref (m))] [] (RM M m sA tA nA (th) (sv) (kp) (ln) (ap) (pt) (hs) (g) (tx) (nu)) 0 0 _
  refine r_iconst (v := nI 0) dX9_soldDrums_0 (by decide) ?_
  refine r_istore_n (lv' := [(1, .int (nI (0))), (0, .ref (m))]) dX9_soldDrums_1 (by decide) rfl ?_
  refine r_iconst (v := nI 0) dX9_soldDrums_2 (by decide) ?_
  refine r_istore_n (lv' := [(2, .int (nI (0))), (1, .int (nI (0))), (0, .ref (m))]) dX9_soldDrums_3 (by decide) rfl ?_
  exact lX9_soldDrums hD hdn hg0 (dn + 1) 0 (by omega) (by omega)
theorem lX9_penetrated {l : Launch} {κ : KP} {M : Mem} {m sA tA nA : Nat} {th sv kp ln ap pt : Int32} {hs : Int64} {g tx nu : Nat → Int32} (hD : rDis m sA tA nA) {n : Nat} (hn : n ≤ 8) (hg : g 1 = nI n) (hM : ∀ k, k < n → pOf g k 5 = nI (pMany g k) ∧ pMany g k ≤ 9) : ∀ (N k : Nat), n < N + k → k ≤ n → fR l κ mX9_penetrated 4 [(2, .int (nI (k))), (1, .int (nI (pPend g k))), (0, .ref (m))] [] (RM M m sA tA nA (th) (sv) (kp) (ln) (ap) (pt) (hs) (g) (tx) (nu)) 0 0 (isI (nI (pPend g n)) (RM M m sA tA nA (th) (sv) (kp) (ln) (ap) (pt) (hs) (g) (tx) (nu))) := by
  intro N
  induction N with
  | zero => intro k h1 h2; omega
  | succ N ih =>
    intro k h1 h2
    refine r_iload_n dX9_penetrated_4 rfl ?_
    refine r_aload_n dX9_penetrated_5 rfl ?_
    refine r_get (k := 1) dX9_penetrated_6 RM_0 rfl rfl (by decide) kX9_7F ?_
    refine r_iconst (v := nI 1) dX9_penetrated_9 (by decide) ?_
    refine r_ialdN dX9_penetrated_10 (RM_1 hD) (by omega) (by decide) rfl ?_
    refine r_top hg ?_
    refine r_icmp_geN (tgt := 36) dX9_penetrated_11 (by decide) (by omega) (by omega) (fun c1 => ?_) (fun c1 => ?_)
    · skip
      have e : k = n := by omega
      rw [e]
      refine r_iload_n dX9_penetrated_36 rfl ?_
      exact fR_iret dX9_penetrated_37 rfl (isI_of (by rfl))
    · skip
      refine r_iload_n dX9_penetrated_14 rfl ?_
      refine r_aload_n dX9_penetrated_15 rfl ?_
      refine r_iload_n dX9_penetrated_16 rfl ?_
      have hm := (hM k (by omega)).1
      have hm9 := (hM k (by omega)).2
      refine r_callV (As := [.int (nI (k))]) dX9_penetrated_17 (tX9_whyNone hD (by omega) hm hm9) rfl RM_0 rfl rfl oX9_whyNone rfl kX9_59M nX9_whyNone eX9_whyNone (by unfold fRoom; decide) (Nat.le_of_ble_eq_true rfl) rfl (bc' := 0) (bs' := 0) rfl rfl ?_
      show fR _ _ _ 20 _ (.int (pWhy (g) (k)) :: _) _ _ _ _
      refine r_if_ne (tgt := 27) dX9_penetrated_20 (by decide) (fun c2 => ?_) (fun c2 => ?_)
      · skip
        refine r_iconst (v := nI 0) dX9_penetrated_27 (by decide) ?_
        refine r_iaddN dX9_penetrated_28 ?_
        refine r_istore_n (lv' := [(1, .int (nI ((pPend g k + 0)))), (2, .int (nI (k))), (0, .ref (m))]) dX9_penetrated_29 (by decide) rfl ?_
        refine r_iinc (v := (nI (k + 1))) (lv' := [(2, .int (nI (k + 1))), (1, .int (nI ((pPend g k + 0)))), (0, .ref (m))]) dX9_penetrated_30 rfl (nI_inc _) (by decide) rfl ?_
        refine r_goto (tgt := 4) dX9_penetrated_33 (by decide) ?_
        first | rw [show pPend g k + 1 = pPend g (k + 1) from pCnt_t c2] | rw [show pPend g k + 0 = pPend g (k + 1) from pCnt_f c2]
        exact ih (k + 1) (by omega) (by omega)
      · skip
        refine r_iconst (v := nI 1) dX9_penetrated_23 (by decide) ?_
        refine r_goto (tgt := 28) dX9_penetrated_24 (by decide) ?_
        refine r_iaddN dX9_penetrated_28 ?_
        refine r_istore_n (lv' := [(1, .int (nI ((pPend g k + 1)))), (2, .int (nI (k))), (0, .ref (m))]) dX9_penetrated_29 (by decide) rfl ?_
        refine r_iinc (v := (nI (k + 1))) (lv' := [(2, .int (nI (k + 1))), (1, .int (nI ((pPend g k + 1)))), (0, .ref (m))]) dX9_penetrated_30 rfl (nI_inc _) (by decide) rfl ?_
        refine r_goto (tgt := 4) dX9_penetrated_33 (by decide) ?_
        first | rw [show pPend g k + 1 = pPend g (k + 1) from pCnt_t c2] | rw [show pPend g k + 0 = pPend g (k + 1) from pCnt_f c2]
        exact ih (k + 1) (by omega) (by omega)
theorem tX9_penetrated {l : Launch} {κ : KP} {M : Mem} {m sA tA nA : Nat} {th sv kp ln ap pt : Int32} {hs : Int64} {g tx nu : Nat → Int32} (hD : rDis m sA tA nA) {n : Nat} (hn : n ≤ 8) (hg : g 1 = nI n) (hM : ∀ k, k < n → pOf g k 5 = nI (pMany g k) ∧ pMany g k ≤ 9) : fM l κ mX9_penetrated [.ref (m)] (RM M m sA tA nA (th) (sv) (kp) (ln) (ap) (pt) (hs) (g) (tx) (nu)) (isI (nI (pPend g n)) (RM M m sA tA nA (th) (sv) (kp) (ln) (ap) (pt) (hs) (g) (tx) (nu))) := by
  refine fM_of rfl (by decide +kernel) (Nat.le_of_ble_eq_true rfl) ?_
  show fR l κ mX9_penetrated 0 [(0, .ref (m))] [] (RM M m sA tA nA (th) (sv) (kp) (ln) (ap) (pt) (hs) (g) (tx) (nu)) 0 0 _
  refine r_iconst (v := nI 0) dX9_penetrated_0 (by decide) ?_
  refine r_istore_n (lv' := [(1, .int (nI (0))), (0, .ref (m))]) dX9_penetrated_1 (by decide) rfl ?_
  refine r_iconst (v := nI 0) dX9_penetrated_2 (by decide) ?_
  refine r_istore_n (lv' := [(2, .int (nI (0))), (1, .int (nI (0))), (0, .ref (m))]) dX9_penetrated_3 (by decide) rfl ?_
  exact lX9_penetrated hD hn hg hM (n + 1) 0 (by omega) (by omega)
def pCounted (f : Nat → Int32) (sv : Int32) (n dn w : Nat) : Int32 :=
  if w = 3 then f (31 + 3 * 0 + 1) + f (31 + 3 * 1 + 1) + f (31 + 3 * 2 + 1) else if w = 4 then nI (pSoldD f dn) else if w = 5 then f 3 else if w = 6 then nI (pPend f n) else if w = 7 then f 4 else if w = 11 then sv else if w < 3 then f w else f (5 + w - 8)
theorem tX9_counted_0 {l : Launch} {κ : KP} {M : Mem} {m sA tA nA : Nat} {th sv kp ln ap pt : Int32} {hs : Int64} {g tx nu : Nat → Int32} (hD : rDis m sA tA nA) {n : Nat} (hn : n ≤ 8) (hg : g 1 = nI n) (hM : ∀ k, k < n → pOf g k 5 = nI (pMany g k) ∧ pMany g k ≤ 9) {dn : Nat} (hdn : dn ≤ 6) (hg0 : g 0 = nI dn) : fM l κ mX9_counted [.ref (m), .int (nI (0))] (RM M m sA tA nA (th) (sv) (kp) (ln) (ap) (pt) (hs) (g) (tx) (nu)) (isI (pCounted g sv n dn 0) (RM M m sA tA nA (th) (sv) (kp) (ln) (ap) (pt) (hs) (g) (tx) (nu))) := by
  refine fM_of rfl (by decide +kernel) (Nat.le_of_ble_eq_true rfl) ?_
  show fR l κ mX9_counted 0 [(0, .ref (m)), (1, .int (nI (0)))] [] (RM M m sA tA nA (th) (sv) (kp) (ln) (ap) (pt) (hs) (g) (tx) (nu)) 0 0 _
  refine r_iload_n dX9_counted_0 rfl ?_
  refine r_tableOut (tgt := 102) dX9_counted_1 (by decide) (by decide) ?_
  refine r_iload_n dX9_counted_102 rfl ?_
  refine r_iconst (v := nI 3) dX9_counted_103 (by decide) ?_
  refine r_icmp_geN (tgt := 116) dX9_counted_104 (by decide) (by omega) (by omega) (fun c1 => absurd c1 (by omega)) (fun c1 => ?_)
  refine r_aload_n dX9_counted_107 rfl ?_
  refine r_get (k := 1) dX9_counted_108 RM_0 rfl rfl (by decide) kX9_7F ?_
  refine r_iload_n dX9_counted_111 rfl ?_
  refine r_ialdN dX9_counted_112 (RM_1 hD) (by omega) (by decide) rfl ?_
  refine r_goto (tgt := 127) dX9_counted_113 (by decide) ?_
  exact fR_iret dX9_counted_127 rfl (isI_of (by rfl))
theorem tX9_counted_1 {l : Launch} {κ : KP} {M : Mem} {m sA tA nA : Nat} {th sv kp ln ap pt : Int32} {hs : Int64} {g tx nu : Nat → Int32} (hD : rDis m sA tA nA) {n : Nat} (hn : n ≤ 8) (hg : g 1 = nI n) (hM : ∀ k, k < n → pOf g k 5 = nI (pMany g k) ∧ pMany g k ≤ 9) {dn : Nat} (hdn : dn ≤ 6) (hg0 : g 0 = nI dn) : fM l κ mX9_counted [.ref (m), .int (nI (1))] (RM M m sA tA nA (th) (sv) (kp) (ln) (ap) (pt) (hs) (g) (tx) (nu)) (isI (pCounted g sv n dn 1) (RM M m sA tA nA (th) (sv) (kp) (ln) (ap) (pt) (hs) (g) (tx) (nu))) := by
  refine fM_of rfl (by decide +kernel) (Nat.le_of_ble_eq_true rfl) ?_
  show fR l κ mX9_counted 0 [(0, .ref (m)), (1, .int (nI (1)))] [] (RM M m sA tA nA (th) (sv) (kp) (ln) (ap) (pt) (hs) (g) (tx) (nu)) 0 0 _
  refine r_iload_n dX9_counted_0 rfl ?_
  refine r_tableOut (tgt := 102) dX9_counted_1 (by decide) (by decide) ?_
  refine r_iload_n dX9_counted_102 rfl ?_
  refine r_iconst (v := nI 3) dX9_counted_103 (by decide) ?_
  refine r_icmp_geN (tgt := 116) dX9_counted_104 (by decide) (by omega) (by omega) (fun c1 => absurd c1 (by omega)) (fun c1 => ?_)
  refine r_aload_n dX9_counted_107 rfl ?_
  refine r_get (k := 1) dX9_counted_108 RM_0 rfl rfl (by decide) kX9_7F ?_
  refine r_iload_n dX9_counted_111 rfl ?_
  refine r_ialdN dX9_counted_112 (RM_1 hD) (by omega) (by decide) rfl ?_
  refine r_goto (tgt := 127) dX9_counted_113 (by decide) ?_
  exact fR_iret dX9_counted_127 rfl (isI_of (by rfl))
theorem tX9_counted_2 {l : Launch} {κ : KP} {M : Mem} {m sA tA nA : Nat} {th sv kp ln ap pt : Int32} {hs : Int64} {g tx nu : Nat → Int32} (hD : rDis m sA tA nA) {n : Nat} (hn : n ≤ 8) (hg : g 1 = nI n) (hM : ∀ k, k < n → pOf g k 5 = nI (pMany g k) ∧ pMany g k ≤ 9) {dn : Nat} (hdn : dn ≤ 6) (hg0 : g 0 = nI dn) : fM l κ mX9_counted [.ref (m), .int (nI (2))] (RM M m sA tA nA (th) (sv) (kp) (ln) (ap) (pt) (hs) (g) (tx) (nu)) (isI (pCounted g sv n dn 2) (RM M m sA tA nA (th) (sv) (kp) (ln) (ap) (pt) (hs) (g) (tx) (nu))) := by
  refine fM_of rfl (by decide +kernel) (Nat.le_of_ble_eq_true rfl) ?_
  show fR l κ mX9_counted 0 [(0, .ref (m)), (1, .int (nI (2)))] [] (RM M m sA tA nA (th) (sv) (kp) (ln) (ap) (pt) (hs) (g) (tx) (nu)) 0 0 _
  refine r_iload_n dX9_counted_0 rfl ?_
  refine r_tableOut (tgt := 102) dX9_counted_1 (by decide) (by decide) ?_
  refine r_iload_n dX9_counted_102 rfl ?_
  refine r_iconst (v := nI 3) dX9_counted_103 (by decide) ?_
  refine r_icmp_geN (tgt := 116) dX9_counted_104 (by decide) (by omega) (by omega) (fun c1 => absurd c1 (by omega)) (fun c1 => ?_)
  refine r_aload_n dX9_counted_107 rfl ?_
  refine r_get (k := 1) dX9_counted_108 RM_0 rfl rfl (by decide) kX9_7F ?_
  refine r_iload_n dX9_counted_111 rfl ?_
  refine r_ialdN dX9_counted_112 (RM_1 hD) (by omega) (by decide) rfl ?_
  refine r_goto (tgt := 127) dX9_counted_113 (by decide) ?_
  exact fR_iret dX9_counted_127 rfl (isI_of (by rfl))
theorem tX9_counted_3 {l : Launch} {κ : KP} {M : Mem} {m sA tA nA : Nat} {th sv kp ln ap pt : Int32} {hs : Int64} {g tx nu : Nat → Int32} (hD : rDis m sA tA nA) {n : Nat} (hn : n ≤ 8) (hg : g 1 = nI n) (hM : ∀ k, k < n → pOf g k 5 = nI (pMany g k) ∧ pMany g k ≤ 9) {dn : Nat} (hdn : dn ≤ 6) (hg0 : g 0 = nI dn) : fM l κ mX9_counted [.ref (m), .int (nI (3))] (RM M m sA tA nA (th) (sv) (kp) (ln) (ap) (pt) (hs) (g) (tx) (nu)) (isI (pCounted g sv n dn 3) (RM M m sA tA nA (th) (sv) (kp) (ln) (ap) (pt) (hs) (g) (tx) (nu))) := by
  refine fM_of rfl (by decide +kernel) (Nat.le_of_ble_eq_true rfl) ?_
  show fR l κ mX9_counted 0 [(0, .ref (m)), (1, .int (nI (3)))] [] (RM M m sA tA nA (th) (sv) (kp) (ln) (ap) (pt) (hs) (g) (tx) (nu)) 0 0 _
  refine r_iload_n dX9_counted_0 rfl ?_
  refine r_tableIn (off := 51) (tgt := 52) dX9_counted_1 (by decide) (by decide) (by decide) (by decide) ?_
  refine r_aload_n dX9_counted_52 rfl ?_
  refine r_iconst (v := nI 0) dX9_counted_53 (by decide) ?_
  refine r_iconst (v := nI 1) dX9_counted_54 (by decide) ?_
  refine r_callV (As := [.int (nI (0)), .int (nI (1))]) dX9_counted_55 (tX9_needleAt hD (by omega)) rfl RM_0 rfl rfl oX9_needleAt rfl kX9_48M nX9_needleAt eX9_needleAt (by unfold fRoom; decide) (Nat.le_of_ble_eq_true rfl) rfl (bc' := 0) (bs' := 0) rfl rfl ?_
  show fR _ _ _ 58 _ (.int ((g) (31 + 3 * 0 + 1)) :: _) _ _ _ _
  refine r_aload_n dX9_counted_58 rfl ?_
  refine r_iconst (v := nI 1) dX9_counted_59 (by decide) ?_
  refine r_iconst (v := nI 1) dX9_counted_60 (by decide) ?_
  refine r_callV (As := [.int (nI (1)), .int (nI (1))]) dX9_counted_61 (tX9_needleAt hD (by omega)) rfl RM_0 rfl rfl oX9_needleAt rfl kX9_48M nX9_needleAt eX9_needleAt (by unfold fRoom; decide) (Nat.le_of_ble_eq_true rfl) rfl (bc' := 0) (bs' := 0) rfl rfl ?_
  show fR _ _ _ 64 _ (.int ((g) (31 + 3 * 1 + 1)) :: _) _ _ _ _
  refine r_iadd dX9_counted_64 ?_
  refine r_aload_n dX9_counted_65 rfl ?_
  refine r_iconst (v := nI 2) dX9_counted_66 (by decide) ?_
  refine r_iconst (v := nI 1) dX9_counted_67 (by decide) ?_
  refine r_callV (As := [.int (nI (2)), .int (nI (1))]) dX9_counted_68 (tX9_needleAt hD (by omega)) rfl RM_0 rfl rfl oX9_needleAt rfl kX9_48M nX9_needleAt eX9_needleAt (by unfold fRoom; decide) (Nat.le_of_ble_eq_true rfl) rfl (bc' := 0) (bs' := 0) rfl rfl ?_
  show fR _ _ _ 71 _ (.int ((g) (31 + 3 * 2 + 1)) :: _) _ _ _ _
  refine r_iadd dX9_counted_71 ?_
  exact fR_iret dX9_counted_72 rfl (isI_of (by rfl))
theorem tX9_counted_4 {l : Launch} {κ : KP} {M : Mem} {m sA tA nA : Nat} {th sv kp ln ap pt : Int32} {hs : Int64} {g tx nu : Nat → Int32} (hD : rDis m sA tA nA) {n : Nat} (hn : n ≤ 8) (hg : g 1 = nI n) (hM : ∀ k, k < n → pOf g k 5 = nI (pMany g k) ∧ pMany g k ≤ 9) {dn : Nat} (hdn : dn ≤ 6) (hg0 : g 0 = nI dn) : fM l κ mX9_counted [.ref (m), .int (nI (4))] (RM M m sA tA nA (th) (sv) (kp) (ln) (ap) (pt) (hs) (g) (tx) (nu)) (isI (pCounted g sv n dn 4) (RM M m sA tA nA (th) (sv) (kp) (ln) (ap) (pt) (hs) (g) (tx) (nu))) := by
  refine fM_of rfl (by decide +kernel) (Nat.le_of_ble_eq_true rfl) ?_
  show fR l κ mX9_counted 0 [(0, .ref (m)), (1, .int (nI (4)))] [] (RM M m sA tA nA (th) (sv) (kp) (ln) (ap) (pt) (hs) (g) (tx) (nu)) 0 0 _
  refine r_iload_n dX9_counted_0 rfl ?_
  refine r_tableIn (off := 72) (tgt := 73) dX9_counted_1 (by decide) (by decide) (by decide) (by decide) ?_
  refine r_aload_n dX9_counted_73 rfl ?_
  refine r_callV (As := []) dX9_counted_74 (tX9_soldDrums hD hdn hg0) rfl RM_0 rfl rfl oX9_soldDrums rfl kX9_192M nX9_soldDrums eX9_soldDrums (by unfold fRoom; decide) (Nat.le_of_ble_eq_true rfl) rfl (bc' := 0) (bs' := 0) rfl rfl ?_
  show fR _ _ _ 77 _ (.int (nI (pSoldD g dn)) :: _) _ _ _ _
  exact fR_iret dX9_counted_77 rfl (isI_of (by rfl))
theorem tX9_counted_5 {l : Launch} {κ : KP} {M : Mem} {m sA tA nA : Nat} {th sv kp ln ap pt : Int32} {hs : Int64} {g tx nu : Nat → Int32} (hD : rDis m sA tA nA) {n : Nat} (hn : n ≤ 8) (hg : g 1 = nI n) (hM : ∀ k, k < n → pOf g k 5 = nI (pMany g k) ∧ pMany g k ≤ 9) {dn : Nat} (hdn : dn ≤ 6) (hg0 : g 0 = nI dn) : fM l κ mX9_counted [.ref (m), .int (nI (5))] (RM M m sA tA nA (th) (sv) (kp) (ln) (ap) (pt) (hs) (g) (tx) (nu)) (isI (pCounted g sv n dn 5) (RM M m sA tA nA (th) (sv) (kp) (ln) (ap) (pt) (hs) (g) (tx) (nu))) := by
  refine fM_of rfl (by decide +kernel) (Nat.le_of_ble_eq_true rfl) ?_
  show fR l κ mX9_counted 0 [(0, .ref (m)), (1, .int (nI (5)))] [] (RM M m sA tA nA (th) (sv) (kp) (ln) (ap) (pt) (hs) (g) (tx) (nu)) 0 0 _
  refine r_iload_n dX9_counted_0 rfl ?_
  refine r_tableIn (off := 77) (tgt := 78) dX9_counted_1 (by decide) (by decide) (by decide) (by decide) ?_
  refine r_aload_n dX9_counted_78 rfl ?_
  refine r_get (k := 1) dX9_counted_79 RM_0 rfl rfl (by decide) kX9_7F ?_
  refine r_iconst (v := nI 3) dX9_counted_82 (by decide) ?_
  refine r_ialdN dX9_counted_83 (RM_1 hD) (by omega) (by decide) rfl ?_
  exact fR_iret dX9_counted_84 rfl (isI_of (by rfl))
theorem tX9_counted_6 {l : Launch} {κ : KP} {M : Mem} {m sA tA nA : Nat} {th sv kp ln ap pt : Int32} {hs : Int64} {g tx nu : Nat → Int32} (hD : rDis m sA tA nA) {n : Nat} (hn : n ≤ 8) (hg : g 1 = nI n) (hM : ∀ k, k < n → pOf g k 5 = nI (pMany g k) ∧ pMany g k ≤ 9) {dn : Nat} (hdn : dn ≤ 6) (hg0 : g 0 = nI dn) : fM l κ mX9_counted [.ref (m), .int (nI (6))] (RM M m sA tA nA (th) (sv) (kp) (ln) (ap) (pt) (hs) (g) (tx) (nu)) (isI (pCounted g sv n dn 6) (RM M m sA tA nA (th) (sv) (kp) (ln) (ap) (pt) (hs) (g) (tx) (nu))) := by
  refine fM_of rfl (by decide +kernel) (Nat.le_of_ble_eq_true rfl) ?_
  show fR l κ mX9_counted 0 [(0, .ref (m)), (1, .int (nI (6)))] [] (RM M m sA tA nA (th) (sv) (kp) (ln) (ap) (pt) (hs) (g) (tx) (nu)) 0 0 _
  refine r_iload_n dX9_counted_0 rfl ?_
  refine r_tableIn (off := 84) (tgt := 85) dX9_counted_1 (by decide) (by decide) (by decide) (by decide) ?_
  refine r_aload_n dX9_counted_85 rfl ?_
  refine r_callV (As := []) dX9_counted_86 (tX9_penetrated hD hn hg hM) rfl RM_0 rfl rfl oX9_penetrated rfl kX9_195M nX9_penetrated eX9_penetrated (by unfold fRoom; decide) (Nat.le_of_ble_eq_true rfl) rfl (bc' := 0) (bs' := 0) rfl rfl ?_
  show fR _ _ _ 89 _ (.int (nI (pPend g n)) :: _) _ _ _ _
  exact fR_iret dX9_counted_89 rfl (isI_of (by rfl))
theorem tX9_counted_7 {l : Launch} {κ : KP} {M : Mem} {m sA tA nA : Nat} {th sv kp ln ap pt : Int32} {hs : Int64} {g tx nu : Nat → Int32} (hD : rDis m sA tA nA) {n : Nat} (hn : n ≤ 8) (hg : g 1 = nI n) (hM : ∀ k, k < n → pOf g k 5 = nI (pMany g k) ∧ pMany g k ≤ 9) {dn : Nat} (hdn : dn ≤ 6) (hg0 : g 0 = nI dn) : fM l κ mX9_counted [.ref (m), .int (nI (7))] (RM M m sA tA nA (th) (sv) (kp) (ln) (ap) (pt) (hs) (g) (tx) (nu)) (isI (pCounted g sv n dn 7) (RM M m sA tA nA (th) (sv) (kp) (ln) (ap) (pt) (hs) (g) (tx) (nu))) := by
  refine fM_of rfl (by decide +kernel) (Nat.le_of_ble_eq_true rfl) ?_
  show fR l κ mX9_counted 0 [(0, .ref (m)), (1, .int (nI (7)))] [] (RM M m sA tA nA (th) (sv) (kp) (ln) (ap) (pt) (hs) (g) (tx) (nu)) 0 0 _
  refine r_iload_n dX9_counted_0 rfl ?_
  refine r_tableIn (off := 89) (tgt := 90) dX9_counted_1 (by decide) (by decide) (by decide) (by decide) ?_
  refine r_aload_n dX9_counted_90 rfl ?_
  refine r_get (k := 1) dX9_counted_91 RM_0 rfl rfl (by decide) kX9_7F ?_
  refine r_iconst (v := nI 4) dX9_counted_94 (by decide) ?_
  refine r_ialdN dX9_counted_95 (RM_1 hD) (by omega) (by decide) rfl ?_
  exact fR_iret dX9_counted_96 rfl (isI_of (by rfl))
theorem tX9_counted_8 {l : Launch} {κ : KP} {M : Mem} {m sA tA nA : Nat} {th sv kp ln ap pt : Int32} {hs : Int64} {g tx nu : Nat → Int32} (hD : rDis m sA tA nA) {n : Nat} (hn : n ≤ 8) (hg : g 1 = nI n) (hM : ∀ k, k < n → pOf g k 5 = nI (pMany g k) ∧ pMany g k ≤ 9) {dn : Nat} (hdn : dn ≤ 6) (hg0 : g 0 = nI dn) : fM l κ mX9_counted [.ref (m), .int (nI (8))] (RM M m sA tA nA (th) (sv) (kp) (ln) (ap) (pt) (hs) (g) (tx) (nu)) (isI (pCounted g sv n dn 8) (RM M m sA tA nA (th) (sv) (kp) (ln) (ap) (pt) (hs) (g) (tx) (nu))) := by
  refine fM_of rfl (by decide +kernel) (Nat.le_of_ble_eq_true rfl) ?_
  show fR l κ mX9_counted 0 [(0, .ref (m)), (1, .int (nI (8)))] [] (RM M m sA tA nA (th) (sv) (kp) (ln) (ap) (pt) (hs) (g) (tx) (nu)) 0 0 _
  refine r_iload_n dX9_counted_0 rfl ?_
  refine r_tableIn (off := 101) (tgt := 102) dX9_counted_1 (by decide) (by decide) (by decide) (by decide) ?_
  refine r_iload_n dX9_counted_102 rfl ?_
  refine r_iconst (v := nI 3) dX9_counted_103 (by decide) ?_
  refine r_icmp_geN (tgt := 116) dX9_counted_104 (by decide) (by omega) (by omega) (fun c1 => ?_) (fun c1 => absurd c1 (by omega))
  refine r_aload_n dX9_counted_116 rfl ?_
  refine r_get (k := 1) dX9_counted_117 RM_0 rfl rfl (by decide) kX9_7F ?_
  refine r_iconst (v := nI 5) dX9_counted_120 (by decide) ?_
  refine r_iload_n dX9_counted_121 rfl ?_
  refine r_iaddN dX9_counted_122 ?_
  refine r_bipush (v := nI 8) dX9_counted_123 (by decide) ?_
  refine r_isubN dX9_counted_125 (by omega) ?_
  refine r_ialdN dX9_counted_126 (RM_1 hD) (by omega) (by decide) rfl ?_
  exact fR_iret dX9_counted_127 rfl (isI_of (by rfl))
theorem tX9_counted_9 {l : Launch} {κ : KP} {M : Mem} {m sA tA nA : Nat} {th sv kp ln ap pt : Int32} {hs : Int64} {g tx nu : Nat → Int32} (hD : rDis m sA tA nA) {n : Nat} (hn : n ≤ 8) (hg : g 1 = nI n) (hM : ∀ k, k < n → pOf g k 5 = nI (pMany g k) ∧ pMany g k ≤ 9) {dn : Nat} (hdn : dn ≤ 6) (hg0 : g 0 = nI dn) : fM l κ mX9_counted [.ref (m), .int (nI (9))] (RM M m sA tA nA (th) (sv) (kp) (ln) (ap) (pt) (hs) (g) (tx) (nu)) (isI (pCounted g sv n dn 9) (RM M m sA tA nA (th) (sv) (kp) (ln) (ap) (pt) (hs) (g) (tx) (nu))) := by
  refine fM_of rfl (by decide +kernel) (Nat.le_of_ble_eq_true rfl) ?_
  show fR l κ mX9_counted 0 [(0, .ref (m)), (1, .int (nI (9)))] [] (RM M m sA tA nA (th) (sv) (kp) (ln) (ap) (pt) (hs) (g) (tx) (nu)) 0 0 _
  refine r_iload_n dX9_counted_0 rfl ?_
  refine r_tableIn (off := 101) (tgt := 102) dX9_counted_1 (by decide) (by decide) (by decide) (by decide) ?_
  refine r_iload_n dX9_counted_102 rfl ?_
  refine r_iconst (v := nI 3) dX9_counted_103 (by decide) ?_
  refine r_icmp_geN (tgt := 116) dX9_counted_104 (by decide) (by omega) (by omega) (fun c1 => ?_) (fun c1 => absurd c1 (by omega))
  refine r_aload_n dX9_counted_116 rfl ?_
  refine r_get (k := 1) dX9_counted_117 RM_0 rfl rfl (by decide) kX9_7F ?_
  refine r_iconst (v := nI 5) dX9_counted_120 (by decide) ?_
  refine r_iload_n dX9_counted_121 rfl ?_
  refine r_iaddN dX9_counted_122 ?_
  refine r_bipush (v := nI 8) dX9_counted_123 (by decide) ?_
  refine r_isubN dX9_counted_125 (by omega) ?_
  refine r_ialdN dX9_counted_126 (RM_1 hD) (by omega) (by decide) rfl ?_
  exact fR_iret dX9_counted_127 rfl (isI_of (by rfl))
theorem tX9_counted_10 {l : Launch} {κ : KP} {M : Mem} {m sA tA nA : Nat} {th sv kp ln ap pt : Int32} {hs : Int64} {g tx nu : Nat → Int32} (hD : rDis m sA tA nA) {n : Nat} (hn : n ≤ 8) (hg : g 1 = nI n) (hM : ∀ k, k < n → pOf g k 5 = nI (pMany g k) ∧ pMany g k ≤ 9) {dn : Nat} (hdn : dn ≤ 6) (hg0 : g 0 = nI dn) : fM l κ mX9_counted [.ref (m), .int (nI (10))] (RM M m sA tA nA (th) (sv) (kp) (ln) (ap) (pt) (hs) (g) (tx) (nu)) (isI (pCounted g sv n dn 10) (RM M m sA tA nA (th) (sv) (kp) (ln) (ap) (pt) (hs) (g) (tx) (nu))) := by
  refine fM_of rfl (by decide +kernel) (Nat.le_of_ble_eq_true rfl) ?_
  show fR l κ mX9_counted 0 [(0, .ref (m)), (1, .int (nI (10)))] [] (RM M m sA tA nA (th) (sv) (kp) (ln) (ap) (pt) (hs) (g) (tx) (nu)) 0 0 _
  refine r_iload_n dX9_counted_0 rfl ?_
  refine r_tableIn (off := 101) (tgt := 102) dX9_counted_1 (by decide) (by decide) (by decide) (by decide) ?_
  refine r_iload_n dX9_counted_102 rfl ?_
  refine r_iconst (v := nI 3) dX9_counted_103 (by decide) ?_
  refine r_icmp_geN (tgt := 116) dX9_counted_104 (by decide) (by omega) (by omega) (fun c1 => ?_) (fun c1 => absurd c1 (by omega))
  refine r_aload_n dX9_counted_116 rfl ?_
  refine r_get (k := 1) dX9_counted_117 RM_0 rfl rfl (by decide) kX9_7F ?_
  refine r_iconst (v := nI 5) dX9_counted_120 (by decide) ?_
  refine r_iload_n dX9_counted_121 rfl ?_
  refine r_iaddN dX9_counted_122 ?_
  refine r_bipush (v := nI 8) dX9_counted_123 (by decide) ?_
  refine r_isubN dX9_counted_125 (by omega) ?_
  refine r_ialdN dX9_counted_126 (RM_1 hD) (by omega) (by decide) rfl ?_
  exact fR_iret dX9_counted_127 rfl (isI_of (by rfl))
theorem tX9_counted_11 {l : Launch} {κ : KP} {M : Mem} {m sA tA nA : Nat} {th sv kp ln ap pt : Int32} {hs : Int64} {g tx nu : Nat → Int32} (hD : rDis m sA tA nA) {n : Nat} (hn : n ≤ 8) (hg : g 1 = nI n) (hM : ∀ k, k < n → pOf g k 5 = nI (pMany g k) ∧ pMany g k ≤ 9) {dn : Nat} (hdn : dn ≤ 6) (hg0 : g 0 = nI dn) : fM l κ mX9_counted [.ref (m), .int (nI (11))] (RM M m sA tA nA (th) (sv) (kp) (ln) (ap) (pt) (hs) (g) (tx) (nu)) (isI (pCounted g sv n dn 11) (RM M m sA tA nA (th) (sv) (kp) (ln) (ap) (pt) (hs) (g) (tx) (nu))) := by
  refine fM_of rfl (by decide +kernel) (Nat.le_of_ble_eq_true rfl) ?_
  show fR l κ mX9_counted 0 [(0, .ref (m)), (1, .int (nI (11)))] [] (RM M m sA tA nA (th) (sv) (kp) (ln) (ap) (pt) (hs) (g) (tx) (nu)) 0 0 _
  refine r_iload_n dX9_counted_0 rfl ?_
  refine r_tableIn (off := 96) (tgt := 97) dX9_counted_1 (by decide) (by decide) (by decide) (by decide) ?_
  refine r_aload_n dX9_counted_97 rfl ?_
  refine r_get (k := 2) dX9_counted_98 RM_0 rfl rfl (by decide) kX9_84F ?_
  exact fR_iret dX9_counted_101 rfl (isI_of (by rfl))
theorem tX9_counted {l : Launch} {κ : KP} {M : Mem} {m sA tA nA : Nat} {th sv kp ln ap pt : Int32} {hs : Int64} {g tx nu : Nat → Int32} (hD : rDis m sA tA nA) {n : Nat} (hn : n ≤ 8) (hg : g 1 = nI n) (hM : ∀ k, k < n → pOf g k 5 = nI (pMany g k) ∧ pMany g k ≤ 9) {dn : Nat} (hdn : dn ≤ 6) (hg0 : g 0 = nI dn) {w : Nat} (hw : w < 12) : fM l κ mX9_counted [.ref m, .int (nI w)] (RM M m sA tA nA th sv kp ln ap pt hs g tx nu) (isI (pCounted g sv n dn w) (RM M m sA tA nA th sv kp ln ap pt hs g tx nu)) := by
  match w, hw with
  | 0, _ => exact tX9_counted_0 hD hn hg hM hdn hg0
  | 1, _ => exact tX9_counted_1 hD hn hg hM hdn hg0
  | 2, _ => exact tX9_counted_2 hD hn hg hM hdn hg0
  | 3, _ => exact tX9_counted_3 hD hn hg hM hdn hg0
  | 4, _ => exact tX9_counted_4 hD hn hg hM hdn hg0
  | 5, _ => exact tX9_counted_5 hD hn hg hM hdn hg0
  | 6, _ => exact tX9_counted_6 hD hn hg hM hdn hg0
  | 7, _ => exact tX9_counted_7 hD hn hg hM hdn hg0
  | 8, _ => exact tX9_counted_8 hD hn hg hM hdn hg0
  | 9, _ => exact tX9_counted_9 hD hn hg hM hdn hg0
  | 10, _ => exact tX9_counted_10 hD hn hg hM hdn hg0
  | 11, _ => exact tX9_counted_11 hD hn hg hM hdn hg0
  | x + 12, h => omega
def pOfDrum (f : Nat → Int32) (n d w : Nat) : Int32 :=
  if w = 2 then pHard f d else if w = 3 then nI (pSamplesOf f d n) else if w = 4 then pMean f n d true else if w = 5 then pMean f n d false else if w = 6 then pIndex f n d else if w = 7 then pIndex f n d else if w = 8 then f (10 + 3 * d + 2) else f (10 + 3 * d + w)
def pOfSample (f : Nat → Int32) (k w : Nat) : Int32 :=
  if w = 4 then pOf f k 5 else if w = 5 then pPen f k else if w = 6 then pWhy f k else if w = 7 then pOf f k 4 else if w = 8 then pNeed f k else pOf f k w
def pBW (f : Nat → Int32) (n k b : Nat) : Int32 := if pOf f k 3 = nI b ∨ pInBath f n (nI b) < 3 then pReady f k b else -1
def pBL (f : Nat → Int32) (n k : Nat) : Nat → Int32
  | 0 => nI 201
  | b + 1 => if ¬ pBW f n k b = -1 ∧ pBW f n k b < pBL f n k b then pBW f n k b else pBL f n k b
def pBF (f : Nat → Int32) (n k : Nat) : Nat → Int32
  | 0 => -1
  | b + 1 => if ¬ pBW f n k b = -1 ∧ pBW f n k b < pBL f n k b then nI b else pBF f n k b
theorem tX9_ofDrum_0 {l : Launch} {κ : KP} {M : Mem} {m sA tA nA : Nat} {th sv kp ln ap pt : Int32} {hs : Int64} {g tx nu : Nat → Int32} (hD : rDis m sA tA nA) {n : Nat} (hn : n ≤ 8) (hg : g 1 = nI n) (hM : ∀ k, k < n → pOf g k 5 = nI (pMany g k) ∧ pMany g k ≤ 9) {d : Nat} (hd : d < 6) (h0 : ¬ g (10 + 3 * d + 0) = 0) : fM l κ mX9_ofDrum [.ref (m), .int (nI (d)), .int (nI (0))] (RM M m sA tA nA (th) (sv) (kp) (ln) (ap) (pt) (hs) (g) (tx) (nu)) (isI (pOfDrum g n d 0) (RM M m sA tA nA (th) (sv) (kp) (ln) (ap) (pt) (hs) (g) (tx) (nu))) := by
  refine fM_of rfl (by decide +kernel) (Nat.le_of_ble_eq_true rfl) ?_
  show fR l κ mX9_ofDrum 0 [(0, .ref (m)), (1, .int (nI (d))), (2, .int (nI (0)))] [] (RM M m sA tA nA (th) (sv) (kp) (ln) (ap) (pt) (hs) (g) (tx) (nu)) 0 0 _
  refine r_iload_n dX9_ofDrum_0 rfl ?_
  refine r_tableOut (tgt := 83) dX9_ofDrum_1 (by decide) (by decide) ?_
  refine r_aload_n dX9_ofDrum_83 rfl ?_
  refine r_iload_n dX9_ofDrum_84 rfl ?_
  refine r_iload_n dX9_ofDrum_85 rfl ?_
  refine r_callV (As := [.int (nI (d)), .int (nI (0))]) dX9_ofDrum_86 (tX9_drumAt hD (by omega)) rfl RM_0 rfl rfl oX9_drumAt rfl kX9_62M nX9_drumAt eX9_drumAt (by unfold fRoom; decide) (Nat.le_of_ble_eq_true rfl) rfl (bc' := 0) (bs' := 0) rfl rfl ?_
  show fR _ _ _ 89 _ (.int ((g) (10 + 3 * d + 0)) :: _) _ _ _ _
  exact fR_iret dX9_ofDrum_89 rfl (isI_of (by rfl))
theorem tX9_ofDrum_1 {l : Launch} {κ : KP} {M : Mem} {m sA tA nA : Nat} {th sv kp ln ap pt : Int32} {hs : Int64} {g tx nu : Nat → Int32} (hD : rDis m sA tA nA) {n : Nat} (hn : n ≤ 8) (hg : g 1 = nI n) (hM : ∀ k, k < n → pOf g k 5 = nI (pMany g k) ∧ pMany g k ≤ 9) {d : Nat} (hd : d < 6) (h0 : ¬ g (10 + 3 * d + 0) = 0) : fM l κ mX9_ofDrum [.ref (m), .int (nI (d)), .int (nI (1))] (RM M m sA tA nA (th) (sv) (kp) (ln) (ap) (pt) (hs) (g) (tx) (nu)) (isI (pOfDrum g n d 1) (RM M m sA tA nA (th) (sv) (kp) (ln) (ap) (pt) (hs) (g) (tx) (nu))) := by
  refine fM_of rfl (by decide +kernel) (Nat.le_of_ble_eq_true rfl) ?_
  show fR l κ mX9_ofDrum 0 [(0, .ref (m)), (1, .int (nI (d))), (2, .int (nI (1)))] [] (RM M m sA tA nA (th) (sv) (kp) (ln) (ap) (pt) (hs) (g) (tx) (nu)) 0 0 _
  refine r_iload_n dX9_ofDrum_0 rfl ?_
  refine r_tableOut (tgt := 83) dX9_ofDrum_1 (by decide) (by decide) ?_
  refine r_aload_n dX9_ofDrum_83 rfl ?_
  refine r_iload_n dX9_ofDrum_84 rfl ?_
  refine r_iload_n dX9_ofDrum_85 rfl ?_
  refine r_callV (As := [.int (nI (d)), .int (nI (1))]) dX9_ofDrum_86 (tX9_drumAt hD (by omega)) rfl RM_0 rfl rfl oX9_drumAt rfl kX9_62M nX9_drumAt eX9_drumAt (by unfold fRoom; decide) (Nat.le_of_ble_eq_true rfl) rfl (bc' := 0) (bs' := 0) rfl rfl ?_
  show fR _ _ _ 89 _ (.int ((g) (10 + 3 * d + 1)) :: _) _ _ _ _
  exact fR_iret dX9_ofDrum_89 rfl (isI_of (by rfl))
theorem tX9_ofDrum_2 {l : Launch} {κ : KP} {M : Mem} {m sA tA nA : Nat} {th sv kp ln ap pt : Int32} {hs : Int64} {g tx nu : Nat → Int32} (hD : rDis m sA tA nA) {n : Nat} (hn : n ≤ 8) (hg : g 1 = nI n) (hM : ∀ k, k < n → pOf g k 5 = nI (pMany g k) ∧ pMany g k ≤ 9) {d : Nat} (hd : d < 6) (h0 : ¬ g (10 + 3 * d + 0) = 0) : fM l κ mX9_ofDrum [.ref (m), .int (nI (d)), .int (nI (2))] (RM M m sA tA nA (th) (sv) (kp) (ln) (ap) (pt) (hs) (g) (tx) (nu)) (isI (pOfDrum g n d 2) (RM M m sA tA nA (th) (sv) (kp) (ln) (ap) (pt) (hs) (g) (tx) (nu))) := by
  refine fM_of rfl (by decide +kernel) (Nat.le_of_ble_eq_true rfl) ?_
  show fR l κ mX9_ofDrum 0 [(0, .ref (m)), (1, .int (nI (d))), (2, .int (nI (2)))] [] (RM M m sA tA nA (th) (sv) (kp) (ln) (ap) (pt) (hs) (g) (tx) (nu)) 0 0 _
  refine r_iload_n dX9_ofDrum_0 rfl ?_
  refine r_tableIn (off := 43) (tgt := 44) dX9_ofDrum_1 (by decide) (by decide) (by decide) (by decide) ?_
  refine r_aload_n dX9_ofDrum_44 rfl ?_
  refine r_iload_n dX9_ofDrum_45 rfl ?_
  refine r_callV (As := [.int (nI (d))]) dX9_ofDrum_46 (tX9_hardness hD hd h0) rfl RM_0 rfl rfl oX9_hardness rfl kX9_81M nX9_hardness eX9_hardness (by unfold fRoom; decide) (Nat.le_of_ble_eq_true rfl) rfl (bc' := 0) (bs' := 0) rfl rfl ?_
  show fR _ _ _ 49 _ (.int (pHard g d) :: _) _ _ _ _
  exact fR_iret dX9_ofDrum_49 rfl (isI_of (by rfl))
theorem tX9_ofDrum_3 {l : Launch} {κ : KP} {M : Mem} {m sA tA nA : Nat} {th sv kp ln ap pt : Int32} {hs : Int64} {g tx nu : Nat → Int32} (hD : rDis m sA tA nA) {n : Nat} (hn : n ≤ 8) (hg : g 1 = nI n) (hM : ∀ k, k < n → pOf g k 5 = nI (pMany g k) ∧ pMany g k ≤ 9) {d : Nat} (hd : d < 6) (h0 : ¬ g (10 + 3 * d + 0) = 0) : fM l κ mX9_ofDrum [.ref (m), .int (nI (d)), .int (nI (3))] (RM M m sA tA nA (th) (sv) (kp) (ln) (ap) (pt) (hs) (g) (tx) (nu)) (isI (pOfDrum g n d 3) (RM M m sA tA nA (th) (sv) (kp) (ln) (ap) (pt) (hs) (g) (tx) (nu))) := by
  refine fM_of rfl (by decide +kernel) (Nat.le_of_ble_eq_true rfl) ?_
  show fR l κ mX9_ofDrum 0 [(0, .ref (m)), (1, .int (nI (d))), (2, .int (nI (3)))] [] (RM M m sA tA nA (th) (sv) (kp) (ln) (ap) (pt) (hs) (g) (tx) (nu)) 0 0 _
  refine r_iload_n dX9_ofDrum_0 rfl ?_
  refine r_tableIn (off := 49) (tgt := 50) dX9_ofDrum_1 (by decide) (by decide) (by decide) (by decide) ?_
  refine r_aload_n dX9_ofDrum_50 rfl ?_
  refine r_iload_n dX9_ofDrum_51 rfl ?_
  refine r_callV (As := [.int (nI (d))]) dX9_ofDrum_52 (tX9_samplesOf hD hn hg hd) rfl RM_0 rfl rfl oX9_samplesOf rfl kX9_177M nX9_samplesOf eX9_samplesOf (by unfold fRoom; decide) (Nat.le_of_ble_eq_true rfl) rfl (bc' := 0) (bs' := 0) rfl rfl ?_
  show fR _ _ _ 55 _ (.int (nI (pSamplesOf g d n)) :: _) _ _ _ _
  exact fR_iret dX9_ofDrum_55 rfl (isI_of (by rfl))
theorem tX9_ofDrum_4 {l : Launch} {κ : KP} {M : Mem} {m sA tA nA : Nat} {th sv kp ln ap pt : Int32} {hs : Int64} {g tx nu : Nat → Int32} (hD : rDis m sA tA nA) {n : Nat} (hn : n ≤ 8) (hg : g 1 = nI n) (hM : ∀ k, k < n → pOf g k 5 = nI (pMany g k) ∧ pMany g k ≤ 9) {d : Nat} (hd : d < 6) (h0 : ¬ g (10 + 3 * d + 0) = 0) : fM l κ mX9_ofDrum [.ref (m), .int (nI (d)), .int (nI (4))] (RM M m sA tA nA (th) (sv) (kp) (ln) (ap) (pt) (hs) (g) (tx) (nu)) (isI (pOfDrum g n d 4) (RM M m sA tA nA (th) (sv) (kp) (ln) (ap) (pt) (hs) (g) (tx) (nu))) := by
  refine fM_of rfl (by decide +kernel) (Nat.le_of_ble_eq_true rfl) ?_
  show fR l κ mX9_ofDrum 0 [(0, .ref (m)), (1, .int (nI (d))), (2, .int (nI (4)))] [] (RM M m sA tA nA (th) (sv) (kp) (ln) (ap) (pt) (hs) (g) (tx) (nu)) 0 0 _
  refine r_iload_n dX9_ofDrum_0 rfl ?_
  refine r_tableIn (off := 55) (tgt := 56) dX9_ofDrum_1 (by decide) (by decide) (by decide) (by decide) ?_
  refine r_aload_n dX9_ofDrum_56 rfl ?_
  refine r_iload_n dX9_ofDrum_57 rfl ?_
  refine r_iconst (v := nI 1) dX9_ofDrum_58 (by decide) ?_
  refine r_callV (As := [.int (nI (d)), .int (nI (1))]) dX9_ofDrum_59 (tX9_mean (q := true) hD hn hg hM hd) rfl RM_0 rfl rfl oX9_mean rfl kX9_72M nX9_mean eX9_mean (by unfold fRoom; decide) (Nat.le_of_ble_eq_true rfl) rfl (bc' := 0) (bs' := 0) rfl rfl ?_
  show fR _ _ _ 62 _ (.int (pMean (g) n d true) :: _) _ _ _ _
  exact fR_iret dX9_ofDrum_62 rfl (isI_of (by rfl))
theorem tX9_ofDrum_5 {l : Launch} {κ : KP} {M : Mem} {m sA tA nA : Nat} {th sv kp ln ap pt : Int32} {hs : Int64} {g tx nu : Nat → Int32} (hD : rDis m sA tA nA) {n : Nat} (hn : n ≤ 8) (hg : g 1 = nI n) (hM : ∀ k, k < n → pOf g k 5 = nI (pMany g k) ∧ pMany g k ≤ 9) {d : Nat} (hd : d < 6) (h0 : ¬ g (10 + 3 * d + 0) = 0) : fM l κ mX9_ofDrum [.ref (m), .int (nI (d)), .int (nI (5))] (RM M m sA tA nA (th) (sv) (kp) (ln) (ap) (pt) (hs) (g) (tx) (nu)) (isI (pOfDrum g n d 5) (RM M m sA tA nA (th) (sv) (kp) (ln) (ap) (pt) (hs) (g) (tx) (nu))) := by
  refine fM_of rfl (by decide +kernel) (Nat.le_of_ble_eq_true rfl) ?_
  show fR l κ mX9_ofDrum 0 [(0, .ref (m)), (1, .int (nI (d))), (2, .int (nI (5)))] [] (RM M m sA tA nA (th) (sv) (kp) (ln) (ap) (pt) (hs) (g) (tx) (nu)) 0 0 _
  refine r_iload_n dX9_ofDrum_0 rfl ?_
  refine r_tableIn (off := 62) (tgt := 63) dX9_ofDrum_1 (by decide) (by decide) (by decide) (by decide) ?_
  refine r_aload_n dX9_ofDrum_63 rfl ?_
  refine r_iload_n dX9_ofDrum_64 rfl ?_
  refine r_iconst (v := nI 0) dX9_ofDrum_65 (by decide) ?_
  refine r_callV (As := [.int (nI (d)), .int (nI (0))]) dX9_ofDrum_66 (tX9_mean (q := false) hD hn hg hM hd) rfl RM_0 rfl rfl oX9_mean rfl kX9_72M nX9_mean eX9_mean (by unfold fRoom; decide) (Nat.le_of_ble_eq_true rfl) rfl (bc' := 0) (bs' := 0) rfl rfl ?_
  show fR _ _ _ 69 _ (.int (pMean (g) n d false) :: _) _ _ _ _
  exact fR_iret dX9_ofDrum_69 rfl (isI_of (by rfl))
theorem tX9_ofDrum_6 {l : Launch} {κ : KP} {M : Mem} {m sA tA nA : Nat} {th sv kp ln ap pt : Int32} {hs : Int64} {g tx nu : Nat → Int32} (hD : rDis m sA tA nA) {n : Nat} (hn : n ≤ 8) (hg : g 1 = nI n) (hM : ∀ k, k < n → pOf g k 5 = nI (pMany g k) ∧ pMany g k ≤ 9) {d : Nat} (hd : d < 6) (h0 : ¬ g (10 + 3 * d + 0) = 0) : fM l κ mX9_ofDrum [.ref (m), .int (nI (d)), .int (nI (6))] (RM M m sA tA nA (th) (sv) (kp) (ln) (ap) (pt) (hs) (g) (tx) (nu)) (isI (pOfDrum g n d 6) (RM M m sA tA nA (th) (sv) (kp) (ln) (ap) (pt) (hs) (g) (tx) (nu))) := by
  refine fM_of rfl (by decide +kernel) (Nat.le_of_ble_eq_true rfl) ?_
  show fR l κ mX9_ofDrum 0 [(0, .ref (m)), (1, .int (nI (d))), (2, .int (nI (6)))] [] (RM M m sA tA nA (th) (sv) (kp) (ln) (ap) (pt) (hs) (g) (tx) (nu)) 0 0 _
  refine r_iload_n dX9_ofDrum_0 rfl ?_
  refine r_tableIn (off := 69) (tgt := 70) dX9_ofDrum_1 (by decide) (by decide) (by decide) (by decide) ?_
  refine r_aload_n dX9_ofDrum_70 rfl ?_
  refine r_iload_n dX9_ofDrum_71 rfl ?_
  refine r_callV (As := [.int (nI (d))]) dX9_ofDrum_72 (tX9_index hD hn hg hM hd) rfl RM_0 rfl rfl oX9_index rfl kX9_78M nX9_index eX9_index (by unfold fRoom; decide) (Nat.le_of_ble_eq_true rfl) rfl (bc' := 0) (bs' := 0) rfl rfl ?_
  show fR _ _ _ 75 _ (.int (pIndex (g) n d) :: _) _ _ _ _
  exact fR_iret dX9_ofDrum_75 rfl (isI_of (by rfl))
theorem tX9_ofDrum_7 {l : Launch} {κ : KP} {M : Mem} {m sA tA nA : Nat} {th sv kp ln ap pt : Int32} {hs : Int64} {g tx nu : Nat → Int32} (hD : rDis m sA tA nA) {n : Nat} (hn : n ≤ 8) (hg : g 1 = nI n) (hM : ∀ k, k < n → pOf g k 5 = nI (pMany g k) ∧ pMany g k ≤ 9) {d : Nat} (hd : d < 6) (h0 : ¬ g (10 + 3 * d + 0) = 0) : fM l κ mX9_ofDrum [.ref (m), .int (nI (d)), .int (nI (7))] (RM M m sA tA nA (th) (sv) (kp) (ln) (ap) (pt) (hs) (g) (tx) (nu)) (isI (pOfDrum g n d 7) (RM M m sA tA nA (th) (sv) (kp) (ln) (ap) (pt) (hs) (g) (tx) (nu))) := by
  refine fM_of rfl (by decide +kernel) (Nat.le_of_ble_eq_true rfl) ?_
  show fR l κ mX9_ofDrum 0 [(0, .ref (m)), (1, .int (nI (d))), (2, .int (nI (7)))] [] (RM M m sA tA nA (th) (sv) (kp) (ln) (ap) (pt) (hs) (g) (tx) (nu)) 0 0 _
  refine r_iload_n dX9_ofDrum_0 rfl ?_
  refine r_tableIn (off := 69) (tgt := 70) dX9_ofDrum_1 (by decide) (by decide) (by decide) (by decide) ?_
  refine r_aload_n dX9_ofDrum_70 rfl ?_
  refine r_iload_n dX9_ofDrum_71 rfl ?_
  refine r_callV (As := [.int (nI (d))]) dX9_ofDrum_72 (tX9_index hD hn hg hM hd) rfl RM_0 rfl rfl oX9_index rfl kX9_78M nX9_index eX9_index (by unfold fRoom; decide) (Nat.le_of_ble_eq_true rfl) rfl (bc' := 0) (bs' := 0) rfl rfl ?_
  show fR _ _ _ 75 _ (.int (pIndex (g) n d) :: _) _ _ _ _
  exact fR_iret dX9_ofDrum_75 rfl (isI_of (by rfl))
theorem tX9_ofDrum_8 {l : Launch} {κ : KP} {M : Mem} {m sA tA nA : Nat} {th sv kp ln ap pt : Int32} {hs : Int64} {g tx nu : Nat → Int32} (hD : rDis m sA tA nA) {n : Nat} (hn : n ≤ 8) (hg : g 1 = nI n) (hM : ∀ k, k < n → pOf g k 5 = nI (pMany g k) ∧ pMany g k ≤ 9) {d : Nat} (hd : d < 6) (h0 : ¬ g (10 + 3 * d + 0) = 0) : fM l κ mX9_ofDrum [.ref (m), .int (nI (d)), .int (nI (8))] (RM M m sA tA nA (th) (sv) (kp) (ln) (ap) (pt) (hs) (g) (tx) (nu)) (isI (pOfDrum g n d 8) (RM M m sA tA nA (th) (sv) (kp) (ln) (ap) (pt) (hs) (g) (tx) (nu))) := by
  refine fM_of rfl (by decide +kernel) (Nat.le_of_ble_eq_true rfl) ?_
  show fR l κ mX9_ofDrum 0 [(0, .ref (m)), (1, .int (nI (d))), (2, .int (nI (8)))] [] (RM M m sA tA nA (th) (sv) (kp) (ln) (ap) (pt) (hs) (g) (tx) (nu)) 0 0 _
  refine r_iload_n dX9_ofDrum_0 rfl ?_
  refine r_tableIn (off := 75) (tgt := 76) dX9_ofDrum_1 (by decide) (by decide) (by decide) (by decide) ?_
  refine r_aload_n dX9_ofDrum_76 rfl ?_
  refine r_iload_n dX9_ofDrum_77 rfl ?_
  refine r_iconst (v := nI 2) dX9_ofDrum_78 (by decide) ?_
  refine r_callV (As := [.int (nI (d)), .int (nI (2))]) dX9_ofDrum_79 (tX9_drumAt hD (by omega)) rfl RM_0 rfl rfl oX9_drumAt rfl kX9_62M nX9_drumAt eX9_drumAt (by unfold fRoom; decide) (Nat.le_of_ble_eq_true rfl) rfl (bc' := 0) (bs' := 0) rfl rfl ?_
  show fR _ _ _ 82 _ (.int ((g) (10 + 3 * d + 2)) :: _) _ _ _ _
  exact fR_iret dX9_ofDrum_82 rfl (isI_of (by rfl))
theorem tX9_ofDrum {l : Launch} {κ : KP} {M : Mem} {m sA tA nA : Nat} {th sv kp ln ap pt : Int32} {hs : Int64} {g tx nu : Nat → Int32} (hD : rDis m sA tA nA) {n : Nat} (hn : n ≤ 8) (hg : g 1 = nI n) (hM : ∀ k, k < n → pOf g k 5 = nI (pMany g k) ∧ pMany g k ≤ 9) {d : Nat} (hd : d < 6) (h0 : ¬ g (10 + 3 * d + 0) = 0) {w : Nat} (hw : w < 9) : fM l κ mX9_ofDrum [.ref m, .int (nI d), .int (nI w)] (RM M m sA tA nA th sv kp ln ap pt hs g tx nu) (isI (pOfDrum g n d w) (RM M m sA tA nA th sv kp ln ap pt hs g tx nu)) := by
  match w, hw with
  | 0, _ => exact tX9_ofDrum_0 hD hn hg hM hd h0
  | 1, _ => exact tX9_ofDrum_1 hD hn hg hM hd h0
  | 2, _ => exact tX9_ofDrum_2 hD hn hg hM hd h0
  | 3, _ => exact tX9_ofDrum_3 hD hn hg hM hd h0
  | 4, _ => exact tX9_ofDrum_4 hD hn hg hM hd h0
  | 5, _ => exact tX9_ofDrum_5 hD hn hg hM hd h0
  | 6, _ => exact tX9_ofDrum_6 hD hn hg hM hd h0
  | 7, _ => exact tX9_ofDrum_7 hD hn hg hM hd h0
  | 8, _ => exact tX9_ofDrum_8 hD hn hg hM hd h0
  | x + 9, h => omega
theorem tX9_ofSample_0 {l : Launch} {κ : KP} {M : Mem} {m sA tA nA : Nat} {th sv kp ln ap pt : Int32} {hs : Int64} {g tx nu : Nat → Int32} (hD : rDis m sA tA nA) {k : Nat} (hk : k < 8) (hm : pOf g k 5 = nI (pMany g k)) (hm9 : pMany g k ≤ 9) : fM l κ mX9_ofSample [.ref (m), .int (nI (k)), .int (nI (0))] (RM M m sA tA nA (th) (sv) (kp) (ln) (ap) (pt) (hs) (g) (tx) (nu)) (isI (pOfSample g k 0) (RM M m sA tA nA (th) (sv) (kp) (ln) (ap) (pt) (hs) (g) (tx) (nu))) := by
  refine fM_of rfl (by decide +kernel) (Nat.le_of_ble_eq_true rfl) ?_
  show fR l κ mX9_ofSample 0 [(0, .ref (m)), (1, .int (nI (k))), (2, .int (nI (0)))] [] (RM M m sA tA nA (th) (sv) (kp) (ln) (ap) (pt) (hs) (g) (tx) (nu)) 0 0 _
  refine r_iload_n dX9_ofSample_0 rfl ?_
  refine r_tableOut (tgt := 68) dX9_ofSample_1 (by decide) (by decide) ?_
  refine r_aload_n dX9_ofSample_68 rfl ?_
  refine r_iload_n dX9_ofSample_69 rfl ?_
  refine r_iload_n dX9_ofSample_70 rfl ?_
  refine r_callV (As := [.int (nI (k)), .int (nI (0))]) dX9_ofSample_71 (tX9_of hD (by omega)) rfl RM_0 rfl rfl oX9_of rfl kX9_31M nX9_of eX9_of (by unfold fRoom; decide) (Nat.le_of_ble_eq_true rfl) rfl (bc' := 0) (bs' := 0) rfl rfl ?_
  show fR _ _ _ 74 _ (.int (pOf (g) (k) (0)) :: _) _ _ _ _
  exact fR_iret dX9_ofSample_74 rfl (isI_of (by rfl))
theorem tX9_ofSample_1 {l : Launch} {κ : KP} {M : Mem} {m sA tA nA : Nat} {th sv kp ln ap pt : Int32} {hs : Int64} {g tx nu : Nat → Int32} (hD : rDis m sA tA nA) {k : Nat} (hk : k < 8) (hm : pOf g k 5 = nI (pMany g k)) (hm9 : pMany g k ≤ 9) : fM l κ mX9_ofSample [.ref (m), .int (nI (k)), .int (nI (1))] (RM M m sA tA nA (th) (sv) (kp) (ln) (ap) (pt) (hs) (g) (tx) (nu)) (isI (pOfSample g k 1) (RM M m sA tA nA (th) (sv) (kp) (ln) (ap) (pt) (hs) (g) (tx) (nu))) := by
  refine fM_of rfl (by decide +kernel) (Nat.le_of_ble_eq_true rfl) ?_
  show fR l κ mX9_ofSample 0 [(0, .ref (m)), (1, .int (nI (k))), (2, .int (nI (1)))] [] (RM M m sA tA nA (th) (sv) (kp) (ln) (ap) (pt) (hs) (g) (tx) (nu)) 0 0 _
  refine r_iload_n dX9_ofSample_0 rfl ?_
  refine r_tableOut (tgt := 68) dX9_ofSample_1 (by decide) (by decide) ?_
  refine r_aload_n dX9_ofSample_68 rfl ?_
  refine r_iload_n dX9_ofSample_69 rfl ?_
  refine r_iload_n dX9_ofSample_70 rfl ?_
  refine r_callV (As := [.int (nI (k)), .int (nI (1))]) dX9_ofSample_71 (tX9_of hD (by omega)) rfl RM_0 rfl rfl oX9_of rfl kX9_31M nX9_of eX9_of (by unfold fRoom; decide) (Nat.le_of_ble_eq_true rfl) rfl (bc' := 0) (bs' := 0) rfl rfl ?_
  show fR _ _ _ 74 _ (.int (pOf (g) (k) (1)) :: _) _ _ _ _
  exact fR_iret dX9_ofSample_74 rfl (isI_of (by rfl))
theorem tX9_ofSample_2 {l : Launch} {κ : KP} {M : Mem} {m sA tA nA : Nat} {th sv kp ln ap pt : Int32} {hs : Int64} {g tx nu : Nat → Int32} (hD : rDis m sA tA nA) {k : Nat} (hk : k < 8) (hm : pOf g k 5 = nI (pMany g k)) (hm9 : pMany g k ≤ 9) : fM l κ mX9_ofSample [.ref (m), .int (nI (k)), .int (nI (2))] (RM M m sA tA nA (th) (sv) (kp) (ln) (ap) (pt) (hs) (g) (tx) (nu)) (isI (pOfSample g k 2) (RM M m sA tA nA (th) (sv) (kp) (ln) (ap) (pt) (hs) (g) (tx) (nu))) := by
  refine fM_of rfl (by decide +kernel) (Nat.le_of_ble_eq_true rfl) ?_
  show fR l κ mX9_ofSample 0 [(0, .ref (m)), (1, .int (nI (k))), (2, .int (nI (2)))] [] (RM M m sA tA nA (th) (sv) (kp) (ln) (ap) (pt) (hs) (g) (tx) (nu)) 0 0 _
  refine r_iload_n dX9_ofSample_0 rfl ?_
  refine r_tableOut (tgt := 68) dX9_ofSample_1 (by decide) (by decide) ?_
  refine r_aload_n dX9_ofSample_68 rfl ?_
  refine r_iload_n dX9_ofSample_69 rfl ?_
  refine r_iload_n dX9_ofSample_70 rfl ?_
  refine r_callV (As := [.int (nI (k)), .int (nI (2))]) dX9_ofSample_71 (tX9_of hD (by omega)) rfl RM_0 rfl rfl oX9_of rfl kX9_31M nX9_of eX9_of (by unfold fRoom; decide) (Nat.le_of_ble_eq_true rfl) rfl (bc' := 0) (bs' := 0) rfl rfl ?_
  show fR _ _ _ 74 _ (.int (pOf (g) (k) (2)) :: _) _ _ _ _
  exact fR_iret dX9_ofSample_74 rfl (isI_of (by rfl))
theorem tX9_ofSample_3 {l : Launch} {κ : KP} {M : Mem} {m sA tA nA : Nat} {th sv kp ln ap pt : Int32} {hs : Int64} {g tx nu : Nat → Int32} (hD : rDis m sA tA nA) {k : Nat} (hk : k < 8) (hm : pOf g k 5 = nI (pMany g k)) (hm9 : pMany g k ≤ 9) : fM l κ mX9_ofSample [.ref (m), .int (nI (k)), .int (nI (3))] (RM M m sA tA nA (th) (sv) (kp) (ln) (ap) (pt) (hs) (g) (tx) (nu)) (isI (pOfSample g k 3) (RM M m sA tA nA (th) (sv) (kp) (ln) (ap) (pt) (hs) (g) (tx) (nu))) := by
  refine fM_of rfl (by decide +kernel) (Nat.le_of_ble_eq_true rfl) ?_
  show fR l κ mX9_ofSample 0 [(0, .ref (m)), (1, .int (nI (k))), (2, .int (nI (3)))] [] (RM M m sA tA nA (th) (sv) (kp) (ln) (ap) (pt) (hs) (g) (tx) (nu)) 0 0 _
  refine r_iload_n dX9_ofSample_0 rfl ?_
  refine r_tableOut (tgt := 68) dX9_ofSample_1 (by decide) (by decide) ?_
  refine r_aload_n dX9_ofSample_68 rfl ?_
  refine r_iload_n dX9_ofSample_69 rfl ?_
  refine r_iload_n dX9_ofSample_70 rfl ?_
  refine r_callV (As := [.int (nI (k)), .int (nI (3))]) dX9_ofSample_71 (tX9_of hD (by omega)) rfl RM_0 rfl rfl oX9_of rfl kX9_31M nX9_of eX9_of (by unfold fRoom; decide) (Nat.le_of_ble_eq_true rfl) rfl (bc' := 0) (bs' := 0) rfl rfl ?_
  show fR _ _ _ 74 _ (.int (pOf (g) (k) (3)) :: _) _ _ _ _
  exact fR_iret dX9_ofSample_74 rfl (isI_of (by rfl))
theorem tX9_ofSample_4 {l : Launch} {κ : KP} {M : Mem} {m sA tA nA : Nat} {th sv kp ln ap pt : Int32} {hs : Int64} {g tx nu : Nat → Int32} (hD : rDis m sA tA nA) {k : Nat} (hk : k < 8) (hm : pOf g k 5 = nI (pMany g k)) (hm9 : pMany g k ≤ 9) : fM l κ mX9_ofSample [.ref (m), .int (nI (k)), .int (nI (4))] (RM M m sA tA nA (th) (sv) (kp) (ln) (ap) (pt) (hs) (g) (tx) (nu)) (isI (pOfSample g k 4) (RM M m sA tA nA (th) (sv) (kp) (ln) (ap) (pt) (hs) (g) (tx) (nu))) := by
  refine fM_of rfl (by decide +kernel) (Nat.le_of_ble_eq_true rfl) ?_
  show fR l κ mX9_ofSample 0 [(0, .ref (m)), (1, .int (nI (k))), (2, .int (nI (4)))] [] (RM M m sA tA nA (th) (sv) (kp) (ln) (ap) (pt) (hs) (g) (tx) (nu)) 0 0 _
  refine r_iload_n dX9_ofSample_0 rfl ?_
  refine r_tableIn (off := 35) (tgt := 36) dX9_ofSample_1 (by decide) (by decide) (by decide) (by decide) ?_
  refine r_aload_n dX9_ofSample_36 rfl ?_
  refine r_iload_n dX9_ofSample_37 rfl ?_
  refine r_iconst (v := nI 5) dX9_ofSample_38 (by decide) ?_
  refine r_callV (As := [.int (nI (k)), .int (nI (5))]) dX9_ofSample_39 (tX9_of hD (by omega)) rfl RM_0 rfl rfl oX9_of rfl kX9_31M nX9_of eX9_of (by unfold fRoom; decide) (Nat.le_of_ble_eq_true rfl) rfl (bc' := 0) (bs' := 0) rfl rfl ?_
  show fR _ _ _ 42 _ (.int (pOf (g) (k) (5)) :: _) _ _ _ _
  exact fR_iret dX9_ofSample_42 rfl (isI_of (by rfl))
theorem tX9_ofSample_5 {l : Launch} {κ : KP} {M : Mem} {m sA tA nA : Nat} {th sv kp ln ap pt : Int32} {hs : Int64} {g tx nu : Nat → Int32} (hD : rDis m sA tA nA) {k : Nat} (hk : k < 8) (hm : pOf g k 5 = nI (pMany g k)) (hm9 : pMany g k ≤ 9) : fM l κ mX9_ofSample [.ref (m), .int (nI (k)), .int (nI (5))] (RM M m sA tA nA (th) (sv) (kp) (ln) (ap) (pt) (hs) (g) (tx) (nu)) (isI (pOfSample g k 5) (RM M m sA tA nA (th) (sv) (kp) (ln) (ap) (pt) (hs) (g) (tx) (nu))) := by
  refine fM_of rfl (by decide +kernel) (Nat.le_of_ble_eq_true rfl) ?_
  show fR l κ mX9_ofSample 0 [(0, .ref (m)), (1, .int (nI (k))), (2, .int (nI (5)))] [] (RM M m sA tA nA (th) (sv) (kp) (ln) (ap) (pt) (hs) (g) (tx) (nu)) 0 0 _
  refine r_iload_n dX9_ofSample_0 rfl ?_
  refine r_tableIn (off := 42) (tgt := 43) dX9_ofSample_1 (by decide) (by decide) (by decide) (by decide) ?_
  refine r_aload_n dX9_ofSample_43 rfl ?_
  refine r_iload_n dX9_ofSample_44 rfl ?_
  refine r_callV (As := [.int (nI (k))]) dX9_ofSample_45 (tX9_penetration hD hk hm hm9) rfl RM_0 rfl rfl oX9_penetration rfl kX9_65M nX9_penetration eX9_penetration (by unfold fRoom; decide) (Nat.le_of_ble_eq_true rfl) rfl (bc' := 0) (bs' := 0) rfl rfl ?_
  show fR _ _ _ 48 _ (.int (pPen g k) :: _) _ _ _ _
  exact fR_iret dX9_ofSample_48 rfl (isI_of (by rfl))
theorem tX9_ofSample_6 {l : Launch} {κ : KP} {M : Mem} {m sA tA nA : Nat} {th sv kp ln ap pt : Int32} {hs : Int64} {g tx nu : Nat → Int32} (hD : rDis m sA tA nA) {k : Nat} (hk : k < 8) (hm : pOf g k 5 = nI (pMany g k)) (hm9 : pMany g k ≤ 9) : fM l κ mX9_ofSample [.ref (m), .int (nI (k)), .int (nI (6))] (RM M m sA tA nA (th) (sv) (kp) (ln) (ap) (pt) (hs) (g) (tx) (nu)) (isI (pOfSample g k 6) (RM M m sA tA nA (th) (sv) (kp) (ln) (ap) (pt) (hs) (g) (tx) (nu))) := by
  refine fM_of rfl (by decide +kernel) (Nat.le_of_ble_eq_true rfl) ?_
  show fR l κ mX9_ofSample 0 [(0, .ref (m)), (1, .int (nI (k))), (2, .int (nI (6)))] [] (RM M m sA tA nA (th) (sv) (kp) (ln) (ap) (pt) (hs) (g) (tx) (nu)) 0 0 _
  refine r_iload_n dX9_ofSample_0 rfl ?_
  refine r_tableIn (off := 48) (tgt := 49) dX9_ofSample_1 (by decide) (by decide) (by decide) (by decide) ?_
  refine r_aload_n dX9_ofSample_49 rfl ?_
  refine r_iload_n dX9_ofSample_50 rfl ?_
  refine r_callV (As := [.int (nI (k))]) dX9_ofSample_51 (tX9_whyNone hD hk hm hm9) rfl RM_0 rfl rfl oX9_whyNone rfl kX9_59M nX9_whyNone eX9_whyNone (by unfold fRoom; decide) (Nat.le_of_ble_eq_true rfl) rfl (bc' := 0) (bs' := 0) rfl rfl ?_
  show fR _ _ _ 54 _ (.int (pWhy g k) :: _) _ _ _ _
  exact fR_iret dX9_ofSample_54 rfl (isI_of (by rfl))
theorem tX9_ofSample_7 {l : Launch} {κ : KP} {M : Mem} {m sA tA nA : Nat} {th sv kp ln ap pt : Int32} {hs : Int64} {g tx nu : Nat → Int32} (hD : rDis m sA tA nA) {k : Nat} (hk : k < 8) (hm : pOf g k 5 = nI (pMany g k)) (hm9 : pMany g k ≤ 9) : fM l κ mX9_ofSample [.ref (m), .int (nI (k)), .int (nI (7))] (RM M m sA tA nA (th) (sv) (kp) (ln) (ap) (pt) (hs) (g) (tx) (nu)) (isI (pOfSample g k 7) (RM M m sA tA nA (th) (sv) (kp) (ln) (ap) (pt) (hs) (g) (tx) (nu))) := by
  refine fM_of rfl (by decide +kernel) (Nat.le_of_ble_eq_true rfl) ?_
  show fR l κ mX9_ofSample 0 [(0, .ref (m)), (1, .int (nI (k))), (2, .int (nI (7)))] [] (RM M m sA tA nA (th) (sv) (kp) (ln) (ap) (pt) (hs) (g) (tx) (nu)) 0 0 _
  refine r_iload_n dX9_ofSample_0 rfl ?_
  refine r_tableIn (off := 54) (tgt := 55) dX9_ofSample_1 (by decide) (by decide) (by decide) (by decide) ?_
  refine r_aload_n dX9_ofSample_55 rfl ?_
  refine r_iload_n dX9_ofSample_56 rfl ?_
  refine r_iconst (v := nI 4) dX9_ofSample_57 (by decide) ?_
  refine r_callV (As := [.int (nI (k)), .int (nI (4))]) dX9_ofSample_58 (tX9_of hD (by omega)) rfl RM_0 rfl rfl oX9_of rfl kX9_31M nX9_of eX9_of (by unfold fRoom; decide) (Nat.le_of_ble_eq_true rfl) rfl (bc' := 0) (bs' := 0) rfl rfl ?_
  show fR _ _ _ 61 _ (.int (pOf (g) (k) (4)) :: _) _ _ _ _
  exact fR_iret dX9_ofSample_61 rfl (isI_of (by rfl))
theorem tX9_ofSample_8 {l : Launch} {κ : KP} {M : Mem} {m sA tA nA : Nat} {th sv kp ln ap pt : Int32} {hs : Int64} {g tx nu : Nat → Int32} (hD : rDis m sA tA nA) {k : Nat} (hk : k < 8) (hm : pOf g k 5 = nI (pMany g k)) (hm9 : pMany g k ≤ 9) : fM l κ mX9_ofSample [.ref (m), .int (nI (k)), .int (nI (8))] (RM M m sA tA nA (th) (sv) (kp) (ln) (ap) (pt) (hs) (g) (tx) (nu)) (isI (pOfSample g k 8) (RM M m sA tA nA (th) (sv) (kp) (ln) (ap) (pt) (hs) (g) (tx) (nu))) := by
  refine fM_of rfl (by decide +kernel) (Nat.le_of_ble_eq_true rfl) ?_
  show fR l κ mX9_ofSample 0 [(0, .ref (m)), (1, .int (nI (k))), (2, .int (nI (8)))] [] (RM M m sA tA nA (th) (sv) (kp) (ln) (ap) (pt) (hs) (g) (tx) (nu)) 0 0 _
  refine r_iload_n dX9_ofSample_0 rfl ?_
  refine r_tableIn (off := 61) (tgt := 62) dX9_ofSample_1 (by decide) (by decide) (by decide) (by decide) ?_
  refine r_aload_n dX9_ofSample_62 rfl ?_
  refine r_iload_n dX9_ofSample_63 rfl ?_
  refine r_callV (As := [.int (nI (k))]) dX9_ofSample_64 (tX9_needles hD hk hm hm9) rfl RM_0 rfl rfl oX9_needles rfl kX9_75M nX9_needles eX9_needles (by unfold fRoom; decide) (Nat.le_of_ble_eq_true rfl) rfl (bc' := 0) (bs' := 0) rfl rfl ?_
  show fR _ _ _ 67 _ (.int (pNeed g k) :: _) _ _ _ _
  exact fR_iret dX9_ofSample_67 rfl (isI_of (by rfl))
theorem tX9_ofSample {l : Launch} {κ : KP} {M : Mem} {m sA tA nA : Nat} {th sv kp ln ap pt : Int32} {hs : Int64} {g tx nu : Nat → Int32} (hD : rDis m sA tA nA) {k : Nat} (hk : k < 8) (hm : pOf g k 5 = nI (pMany g k)) (hm9 : pMany g k ≤ 9) {w : Nat} (hw : w < 9) : fM l κ mX9_ofSample [.ref m, .int (nI k), .int (nI w)] (RM M m sA tA nA th sv kp ln ap pt hs g tx nu) (isI (pOfSample g k w) (RM M m sA tA nA th sv kp ln ap pt hs g tx nu)) := by
  match w, hw with
  | 0, _ => exact tX9_ofSample_0 hD hk hm hm9
  | 1, _ => exact tX9_ofSample_1 hD hk hm hm9
  | 2, _ => exact tX9_ofSample_2 hD hk hm hm9
  | 3, _ => exact tX9_ofSample_3 hD hk hm hm9
  | 4, _ => exact tX9_ofSample_4 hD hk hm hm9
  | 5, _ => exact tX9_ofSample_5 hD hk hm hm9
  | 6, _ => exact tX9_ofSample_6 hD hk hm hm9
  | 7, _ => exact tX9_ofSample_7 hD hk hm hm9
  | 8, _ => exact tX9_ofSample_8 hD hk hm hm9
  | x + 9, h => omega
theorem tX9_best {l : Launch} {κ : KP} {M : Mem} {m sA tA nA : Nat} {th sv kp ln ap pt : Int32} {hs : Int64} {g tx nu : Nat → Int32} (hD : rDis m sA tA nA) {n : Nat} (hn : n ≤ 8) (hg : g 1 = nI n) {k : Nat} (hk : k < 8) : fM l κ mX9_best [.ref (m), .int (nI (k))] (RM M m sA tA nA (th) (sv) (kp) (ln) (ap) (pt) (hs) (g) (tx) (nu)) (isI (pBF g n k 3) (RM M m sA tA nA (th) (sv) (kp) (ln) (ap) (pt) (hs) (g) (tx) (nu))) := by
  refine fM_of rfl (by decide +kernel) (Nat.le_of_ble_eq_true rfl) ?_
  show fR l κ mX9_best 0 [(0, .ref (m)), (1, .int (nI (k)))] [] (RM M m sA tA nA (th) (sv) (kp) (ln) (ap) (pt) (hs) (g) (tx) (nu)) 0 0 _
  refine r_iconst (v := (-1)) dX9_best_0 (by decide) ?_
  refine r_istore_n (lv' := [(2, .int (-1)), (0, .ref (m)), (1, .int (nI (k)))]) dX9_best_1 (by decide) rfl ?_
  refine r_sipush (v := nI 201) dX9_best_2 (by decide) ?_
  refine r_istore_n (lv' := [(3, .int (nI (201))), (2, .int (-1)), (0, .ref (m)), (1, .int (nI (k)))]) dX9_best_5 (by decide) rfl ?_
  refine r_iconst (v := nI 0) dX9_best_6 (by decide) ?_
  refine r_istore (lv' := [(4, .int (nI (0))), (3, .int (nI (201))), (2, .int (-1)), (0, .ref (m)), (1, .int (nI (k)))]) dX9_best_7 (by decide) rfl ?_
  refine r_iload dX9_best_9 rfl ?_
  refine r_iconst (v := nI 3) dX9_best_11 (by decide) ?_
  refine r_icmp_geN (tgt := 87) dX9_best_12 (by decide) (by omega) (by omega) (fun c1 => absurd c1 (by omega)) (fun c1 => ?_)
  have hJ2 : fR l κ mX9_best 36 [(4, .int (nI (0))), (3, .int (nI (201))), (2, .int (-1)), (0, .ref (m)), (1, .int (nI (k)))] [.int ((pBW g n k 0))] (RM M m sA tA nA (th) (sv) (kp) (ln) (ap) (pt) (hs) (g) (tx) (nu)) 0 0 (isI (pBF g n k 3) (RM M m sA tA nA (th) (sv) (kp) (ln) (ap) (pt) (hs) (g) (tx) (nu))) := by
    refine r_istore (lv' := [(5, .int ((pBW g n k 0))), (4, .int (nI (0))), (3, .int (nI (201))), (2, .int (-1)), (0, .ref (m)), (1, .int (nI (k)))]) dX9_best_36 (by decide) rfl ?_
    have hJ3 : fR l κ mX9_best 55 [(5, .int ((pBW g n k 0))), (4, .int (nI (0))), (3, .int (nI (201))), (2, .int (-1)), (0, .ref (m)), (1, .int (nI (k)))] [.int (bI (decide (¬ pBW g n k 0 = -1 ∧ pBW g n k 0 < pBL g n k 0)))] (RM M m sA tA nA (th) (sv) (kp) (ln) (ap) (pt) (hs) (g) (tx) (nu)) 0 0 (isI (pBF g n k 3) (RM M m sA tA nA (th) (sv) (kp) (ln) (ap) (pt) (hs) (g) (tx) (nu))) := by
      refine r_istore (lv' := [(6, .int (bI (decide (¬ pBW g n k 0 = -1 ∧ pBW g n k 0 < pBL g n k 0)))), (5, .int ((pBW g n k 0))), (4, .int (nI (0))), (3, .int (nI (201))), (2, .int (-1)), (0, .ref (m)), (1, .int (nI (k)))]) dX9_best_55 (by decide) rfl ?_
      have hJ4 : fR l κ mX9_best 68 [(6, .int (bI (decide (¬ pBW g n k 0 = -1 ∧ pBW g n k 0 < pBL g n k 0)))), (5, .int ((pBW g n k 0))), (4, .int (nI (0))), (3, .int (nI (201))), (2, .int (-1)), (0, .ref (m)), (1, .int (nI (k)))] [.int ((pBF g n k 1))] (RM M m sA tA nA (th) (sv) (kp) (ln) (ap) (pt) (hs) (g) (tx) (nu)) 0 0 (isI (pBF g n k 3) (RM M m sA tA nA (th) (sv) (kp) (ln) (ap) (pt) (hs) (g) (tx) (nu))) := by
        refine r_istore_n (lv' := [(2, .int ((pBF g n k 1))), (6, .int (bI (decide (¬ pBW g n k 0 = -1 ∧ pBW g n k 0 < pBL g n k 0)))), (5, .int ((pBW g n k 0))), (4, .int (nI (0))), (3, .int (nI (201))), (0, .ref (m)), (1, .int (nI (k)))]) dX9_best_68 (by decide) rfl ?_
        have hJ5 : fR l κ mX9_best 80 [(2, .int ((pBF g n k 1))), (6, .int (bI (decide (¬ pBW g n k 0 = -1 ∧ pBW g n k 0 < pBL g n k 0)))), (5, .int ((pBW g n k 0))), (4, .int (nI (0))), (3, .int (nI (201))), (0, .ref (m)), (1, .int (nI (k)))] [.int ((pBL g n k 1))] (RM M m sA tA nA (th) (sv) (kp) (ln) (ap) (pt) (hs) (g) (tx) (nu)) 0 0 (isI (pBF g n k 3) (RM M m sA tA nA (th) (sv) (kp) (ln) (ap) (pt) (hs) (g) (tx) (nu))) := by
          refine r_istore_n (lv' := [(3, .int ((pBL g n k 1))), (2, .int ((pBF g n k 1))), (6, .int (bI (decide (¬ pBW g n k 0 = -1 ∧ pBW g n k 0 < pBL g n k 0)))), (5, .int ((pBW g n k 0))), (4, .int (nI (0))), (0, .ref (m)), (1, .int (nI (k)))]) dX9_best_80 (by decide) rfl ?_
          refine r_iinc (v := (nI (0 + 1))) (lv' := [(4, .int (nI (0 + 1))), (3, .int ((pBL g n k 1))), (2, .int ((pBF g n k 1))), (6, .int (bI (decide (¬ pBW g n k 0 = -1 ∧ pBW g n k 0 < pBL g n k 0)))), (5, .int ((pBW g n k 0))), (0, .ref (m)), (1, .int (nI (k)))]) dX9_best_81 rfl (nI_inc _) (by decide) rfl ?_
          refine r_goto (tgt := 9) dX9_best_84 (by decide) ?_
          refine r_iload dX9_best_9 rfl ?_
          refine r_iconst (v := nI 3) dX9_best_11 (by decide) ?_
          refine r_icmp_geN (tgt := 87) dX9_best_12 (by decide) (by omega) (by omega) (fun c6 => absurd c6 (by omega)) (fun c6 => ?_)
          have hJ7 : fR l κ mX9_best 36 [(4, .int (nI (0 + 1))), (3, .int ((pBL g n k 1))), (2, .int ((pBF g n k 1))), (6, .int (bI (decide (¬ pBW g n k 0 = -1 ∧ pBW g n k 0 < pBL g n k 0)))), (5, .int ((pBW g n k 0))), (0, .ref (m)), (1, .int (nI (k)))] [.int ((pBW g n k 1))] (RM M m sA tA nA (th) (sv) (kp) (ln) (ap) (pt) (hs) (g) (tx) (nu)) 0 0 (isI (pBF g n k 3) (RM M m sA tA nA (th) (sv) (kp) (ln) (ap) (pt) (hs) (g) (tx) (nu))) := by
            refine r_istore (lv' := [(5, .int ((pBW g n k 1))), (4, .int (nI (0 + 1))), (3, .int ((pBL g n k 1))), (2, .int ((pBF g n k 1))), (6, .int (bI (decide (¬ pBW g n k 0 = -1 ∧ pBW g n k 0 < pBL g n k 0)))), (0, .ref (m)), (1, .int (nI (k)))]) dX9_best_36 (by decide) rfl ?_
            have hJ8 : fR l κ mX9_best 55 [(5, .int ((pBW g n k 1))), (4, .int (nI (0 + 1))), (3, .int ((pBL g n k 1))), (2, .int ((pBF g n k 1))), (6, .int (bI (decide (¬ pBW g n k 0 = -1 ∧ pBW g n k 0 < pBL g n k 0)))), (0, .ref (m)), (1, .int (nI (k)))] [.int (bI (decide (¬ pBW g n k 1 = -1 ∧ pBW g n k 1 < pBL g n k 1)))] (RM M m sA tA nA (th) (sv) (kp) (ln) (ap) (pt) (hs) (g) (tx) (nu)) 0 0 (isI (pBF g n k 3) (RM M m sA tA nA (th) (sv) (kp) (ln) (ap) (pt) (hs) (g) (tx) (nu))) := by
              refine r_istore (lv' := [(6, .int (bI (decide (¬ pBW g n k 1 = -1 ∧ pBW g n k 1 < pBL g n k 1)))), (5, .int ((pBW g n k 1))), (4, .int (nI (0 + 1))), (3, .int ((pBL g n k 1))), (2, .int ((pBF g n k 1))), (0, .ref (m)), (1, .int (nI (k)))]) dX9_best_55 (by decide) rfl ?_
              have hJ9 : fR l κ mX9_best 68 [(6, .int (bI (decide (¬ pBW g n k 1 = -1 ∧ pBW g n k 1 < pBL g n k 1)))), (5, .int ((pBW g n k 1))), (4, .int (nI (0 + 1))), (3, .int ((pBL g n k 1))), (2, .int ((pBF g n k 1))), (0, .ref (m)), (1, .int (nI (k)))] [.int ((pBF g n k 2))] (RM M m sA tA nA (th) (sv) (kp) (ln) (ap) (pt) (hs) (g) (tx) (nu)) 0 0 (isI (pBF g n k 3) (RM M m sA tA nA (th) (sv) (kp) (ln) (ap) (pt) (hs) (g) (tx) (nu))) := by
                refine r_istore_n (lv' := [(2, .int ((pBF g n k 2))), (6, .int (bI (decide (¬ pBW g n k 1 = -1 ∧ pBW g n k 1 < pBL g n k 1)))), (5, .int ((pBW g n k 1))), (4, .int (nI (0 + 1))), (3, .int ((pBL g n k 1))), (0, .ref (m)), (1, .int (nI (k)))]) dX9_best_68 (by decide) rfl ?_
                have hJ10 : fR l κ mX9_best 80 [(2, .int ((pBF g n k 2))), (6, .int (bI (decide (¬ pBW g n k 1 = -1 ∧ pBW g n k 1 < pBL g n k 1)))), (5, .int ((pBW g n k 1))), (4, .int (nI (0 + 1))), (3, .int ((pBL g n k 1))), (0, .ref (m)), (1, .int (nI (k)))] [.int ((pBL g n k 2))] (RM M m sA tA nA (th) (sv) (kp) (ln) (ap) (pt) (hs) (g) (tx) (nu)) 0 0 (isI (pBF g n k 3) (RM M m sA tA nA (th) (sv) (kp) (ln) (ap) (pt) (hs) (g) (tx) (nu))) := by
                  refine r_istore_n (lv' := [(3, .int ((pBL g n k 2))), (2, .int ((pBF g n k 2))), (6, .int (bI (decide (¬ pBW g n k 1 = -1 ∧ pBW g n k 1 < pBL g n k 1)))), (5, .int ((pBW g n k 1))), (4, .int (nI (0 + 1))), (0, .ref (m)), (1, .int (nI (k)))]) dX9_best_80 (by decide) rfl ?_
                  refine r_iinc (v := (nI (0 + 1 + 1))) (lv' := [(4, .int (nI (0 + 1 + 1))), (3, .int ((pBL g n k 2))), (2, .int ((pBF g n k 2))), (6, .int (bI (decide (¬ pBW g n k 1 = -1 ∧ pBW g n k 1 < pBL g n k 1)))), (5, .int ((pBW g n k 1))), (0, .ref (m)), (1, .int (nI (k)))]) dX9_best_81 rfl (nI_inc _) (by decide) rfl ?_
                  refine r_goto (tgt := 9) dX9_best_84 (by decide) ?_
                  refine r_iload dX9_best_9 rfl ?_
                  refine r_iconst (v := nI 3) dX9_best_11 (by decide) ?_
                  refine r_icmp_geN (tgt := 87) dX9_best_12 (by decide) (by omega) (by omega) (fun c11 => absurd c11 (by omega)) (fun c11 => ?_)
                  have hJ12 : fR l κ mX9_best 36 [(4, .int (nI (0 + 1 + 1))), (3, .int ((pBL g n k 2))), (2, .int ((pBF g n k 2))), (6, .int (bI (decide (¬ pBW g n k 1 = -1 ∧ pBW g n k 1 < pBL g n k 1)))), (5, .int ((pBW g n k 1))), (0, .ref (m)), (1, .int (nI (k)))] [.int ((pBW g n k 2))] (RM M m sA tA nA (th) (sv) (kp) (ln) (ap) (pt) (hs) (g) (tx) (nu)) 0 0 (isI (pBF g n k 3) (RM M m sA tA nA (th) (sv) (kp) (ln) (ap) (pt) (hs) (g) (tx) (nu))) := by
                    refine r_istore (lv' := [(5, .int ((pBW g n k 2))), (4, .int (nI (0 + 1 + 1))), (3, .int ((pBL g n k 2))), (2, .int ((pBF g n k 2))), (6, .int (bI (decide (¬ pBW g n k 1 = -1 ∧ pBW g n k 1 < pBL g n k 1)))), (0, .ref (m)), (1, .int (nI (k)))]) dX9_best_36 (by decide) rfl ?_
                    have hJ13 : fR l κ mX9_best 55 [(5, .int ((pBW g n k 2))), (4, .int (nI (0 + 1 + 1))), (3, .int ((pBL g n k 2))), (2, .int ((pBF g n k 2))), (6, .int (bI (decide (¬ pBW g n k 1 = -1 ∧ pBW g n k 1 < pBL g n k 1)))), (0, .ref (m)), (1, .int (nI (k)))] [.int (bI (decide (¬ pBW g n k 2 = -1 ∧ pBW g n k 2 < pBL g n k 2)))] (RM M m sA tA nA (th) (sv) (kp) (ln) (ap) (pt) (hs) (g) (tx) (nu)) 0 0 (isI (pBF g n k 3) (RM M m sA tA nA (th) (sv) (kp) (ln) (ap) (pt) (hs) (g) (tx) (nu))) := by
                      refine r_istore (lv' := [(6, .int (bI (decide (¬ pBW g n k 2 = -1 ∧ pBW g n k 2 < pBL g n k 2)))), (5, .int ((pBW g n k 2))), (4, .int (nI (0 + 1 + 1))), (3, .int ((pBL g n k 2))), (2, .int ((pBF g n k 2))), (0, .ref (m)), (1, .int (nI (k)))]) dX9_best_55 (by decide) rfl ?_
                      have hJ14 : fR l κ mX9_best 68 [(6, .int (bI (decide (¬ pBW g n k 2 = -1 ∧ pBW g n k 2 < pBL g n k 2)))), (5, .int ((pBW g n k 2))), (4, .int (nI (0 + 1 + 1))), (3, .int ((pBL g n k 2))), (2, .int ((pBF g n k 2))), (0, .ref (m)), (1, .int (nI (k)))] [.int ((pBF g n k 3))] (RM M m sA tA nA (th) (sv) (kp) (ln) (ap) (pt) (hs) (g) (tx) (nu)) 0 0 (isI (pBF g n k 3) (RM M m sA tA nA (th) (sv) (kp) (ln) (ap) (pt) (hs) (g) (tx) (nu))) := by
                        refine r_istore_n (lv' := [(2, .int ((pBF g n k 3))), (6, .int (bI (decide (¬ pBW g n k 2 = -1 ∧ pBW g n k 2 < pBL g n k 2)))), (5, .int ((pBW g n k 2))), (4, .int (nI (0 + 1 + 1))), (3, .int ((pBL g n k 2))), (0, .ref (m)), (1, .int (nI (k)))]) dX9_best_68 (by decide) rfl ?_
                        have hJ15 : fR l κ mX9_best 80 [(2, .int ((pBF g n k 3))), (6, .int (bI (decide (¬ pBW g n k 2 = -1 ∧ pBW g n k 2 < pBL g n k 2)))), (5, .int ((pBW g n k 2))), (4, .int (nI (0 + 1 + 1))), (3, .int ((pBL g n k 2))), (0, .ref (m)), (1, .int (nI (k)))] [.int ((pBL g n k 3))] (RM M m sA tA nA (th) (sv) (kp) (ln) (ap) (pt) (hs) (g) (tx) (nu)) 0 0 (isI (pBF g n k 3) (RM M m sA tA nA (th) (sv) (kp) (ln) (ap) (pt) (hs) (g) (tx) (nu))) := by
                          refine r_istore_n (lv' := [(3, .int ((pBL g n k 3))), (2, .int ((pBF g n k 3))), (6, .int (bI (decide (¬ pBW g n k 2 = -1 ∧ pBW g n k 2 < pBL g n k 2)))), (5, .int ((pBW g n k 2))), (4, .int (nI (0 + 1 + 1))), (0, .ref (m)), (1, .int (nI (k)))]) dX9_best_80 (by decide) rfl ?_
                          refine r_iinc (v := (nI (0 + 1 + 1 + 1))) (lv' := [(4, .int (nI (0 + 1 + 1 + 1))), (3, .int ((pBL g n k 3))), (2, .int ((pBF g n k 3))), (6, .int (bI (decide (¬ pBW g n k 2 = -1 ∧ pBW g n k 2 < pBL g n k 2)))), (5, .int ((pBW g n k 2))), (0, .ref (m)), (1, .int (nI (k)))]) dX9_best_81 rfl (nI_inc _) (by decide) rfl ?_
                          refine r_goto (tgt := 9) dX9_best_84 (by decide) ?_
                          refine r_iload dX9_best_9 rfl ?_
                          refine r_iconst (v := nI 3) dX9_best_11 (by decide) ?_
                          refine r_icmp_geN (tgt := 87) dX9_best_12 (by decide) (by omega) (by omega) (fun c16 => ?_) (fun c16 => absurd c16 (by omega))
                          refine r_iload_n dX9_best_87 rfl ?_
                          exact fR_iret dX9_best_88 rfl (isI_of (by rfl))
                        refine r_iload dX9_best_69 rfl ?_
                        refine r_if_eqB (tgt := 79) dX9_best_71 (by decide) (fun c17 => ?_) (fun c17 => ?_)
                        · skip
                          refine r_iload_n dX9_best_79 rfl ?_
                          exact r_top (by first | exact (if_pos (of_decide_eq_true (by assumption))).symm | exact (if_neg (of_decide_eq_false (by assumption))).symm) hJ15
                        · skip
                          refine r_iload dX9_best_74 rfl ?_
                          refine r_goto (tgt := 80) dX9_best_76 (by decide) ?_
                          exact r_top (by first | exact (if_pos (of_decide_eq_true (by assumption))).symm | exact (if_neg (of_decide_eq_false (by assumption))).symm) hJ15
                      refine r_iload dX9_best_57 rfl ?_
                      refine r_if_eqB (tgt := 67) dX9_best_59 (by decide) (fun c18 => ?_) (fun c18 => ?_)
                      · skip
                        refine r_iload_n dX9_best_67 rfl ?_
                        exact r_top (by first | exact (if_pos (of_decide_eq_true (by assumption))).symm | exact (if_neg (of_decide_eq_false (by assumption))).symm) hJ14
                      · skip
                        refine r_iload dX9_best_62 rfl ?_
                        refine r_goto (tgt := 68) dX9_best_64 (by decide) ?_
                        exact r_top (by first | exact (if_pos (of_decide_eq_true (by assumption))).symm | exact (if_neg (of_decide_eq_false (by assumption))).symm) hJ14
                    refine r_iload dX9_best_38 rfl ?_
                    refine r_iconst (v := (-1)) dX9_best_40 (by decide) ?_
                    refine r_icmp_eq (tgt := 54) dX9_best_41 (by decide) (fun c19 => ?_) (fun c19 => ?_)
                    · skip
                      refine r_iconst (v := nI 0) dX9_best_54 (by decide) ?_
                      exact r_top (bJ_f (by first | exact decide_eq_true ⟨by assumption, Int32.not_le.mp (by assumption)⟩ | exact decide_eq_false (fun h => absurd (by assumption) h.1) | exact decide_eq_false (fun h => absurd h.2 (Int32.not_lt.mpr (by assumption))))) hJ13
                    · skip
                      refine r_iload dX9_best_44 rfl ?_
                      refine r_iload_n dX9_best_46 rfl ?_
                      refine r_icmp_ge (tgt := 54) dX9_best_47 (by decide) (fun c20 => ?_) (fun c20 => ?_)
                      · skip
                        refine r_iconst (v := nI 0) dX9_best_54 (by decide) ?_
                        exact r_top (bJ_f (by first | exact decide_eq_true ⟨by assumption, Int32.not_le.mp (by assumption)⟩ | exact decide_eq_false (fun h => absurd (by assumption) h.1) | exact decide_eq_false (fun h => absurd h.2 (Int32.not_lt.mpr (by assumption))))) hJ13
                      · skip
                        refine r_iconst (v := nI 1) dX9_best_50 (by decide) ?_
                        refine r_goto (tgt := 55) dX9_best_51 (by decide) ?_
                        exact r_top (bJ_t (by first | exact decide_eq_true ⟨by assumption, Int32.not_le.mp (by assumption)⟩ | exact decide_eq_false (fun h => absurd (by assumption) h.1) | exact decide_eq_false (fun h => absurd h.2 (Int32.not_lt.mpr (by assumption))))) hJ13
                  refine r_aload_n dX9_best_15 rfl ?_
                  refine r_iload_n dX9_best_16 rfl ?_
                  refine r_iload dX9_best_17 rfl ?_
                  refine r_callV (As := [.int (nI (k)), .int (nI (0 + 1 + 1))]) dX9_best_19 (tX9_hasRoom hD hn hg (by omega)) rfl RM_0 rfl rfl oX9_hasRoom rfl kX9_110M nX9_hasRoom eX9_hasRoom (by unfold fRoom; decide) (Nat.le_of_ble_eq_true rfl) rfl (bc' := 0) (bs' := 0) rfl rfl ?_
                  show fR _ _ _ 22 _ (.int (bI (decide (pOf g k 3 = (nI (0 + 1 + 1)) ∨ pInBath g n (nI (0 + 1 + 1)) < 3))) :: _) _ _ _ _
                  refine r_if_eqB (tgt := 35) dX9_best_22 (by decide) (fun c21 => ?_) (fun c21 => ?_)
                  · skip
                    refine r_iconst (v := (-1)) dX9_best_35 (by decide) ?_
                    exact r_top (by first | exact (if_pos (of_decide_eq_true (by assumption))).symm | exact (if_neg (of_decide_eq_false (by assumption))).symm) hJ12
                  · skip
                    refine r_aload_n dX9_best_25 rfl ?_
                    refine r_iload_n dX9_best_26 rfl ?_
                    refine r_iload dX9_best_27 rfl ?_
                    refine r_callV (As := [.int (nI (k)), .int (nI (0 + 1 + 1))]) dX9_best_29 (tX9_ready hD (by omega) (by omega)) rfl RM_0 rfl rfl oX9_ready rfl kX9_201M nX9_ready eX9_ready (by unfold fRoom; decide) (Nat.le_of_ble_eq_true rfl) rfl (bc' := 0) (bs' := 0) rfl rfl ?_
                    show fR _ _ _ 32 _ (.int (pReady (g) (k) (0 + 1 + 1)) :: _) _ _ _ _
                    refine r_goto (tgt := 36) dX9_best_32 (by decide) ?_
                    exact r_top (by first | exact (if_pos (of_decide_eq_true (by assumption))).symm | exact (if_neg (of_decide_eq_false (by assumption))).symm) hJ12
                refine r_iload dX9_best_69 rfl ?_
                refine r_if_eqB (tgt := 79) dX9_best_71 (by decide) (fun c22 => ?_) (fun c22 => ?_)
                · skip
                  refine r_iload_n dX9_best_79 rfl ?_
                  exact r_top (by first | exact (if_pos (of_decide_eq_true (by assumption))).symm | exact (if_neg (of_decide_eq_false (by assumption))).symm) hJ10
                · skip
                  refine r_iload dX9_best_74 rfl ?_
                  refine r_goto (tgt := 80) dX9_best_76 (by decide) ?_
                  exact r_top (by first | exact (if_pos (of_decide_eq_true (by assumption))).symm | exact (if_neg (of_decide_eq_false (by assumption))).symm) hJ10
              refine r_iload dX9_best_57 rfl ?_
              refine r_if_eqB (tgt := 67) dX9_best_59 (by decide) (fun c23 => ?_) (fun c23 => ?_)
              · skip
                refine r_iload_n dX9_best_67 rfl ?_
                exact r_top (by first | exact (if_pos (of_decide_eq_true (by assumption))).symm | exact (if_neg (of_decide_eq_false (by assumption))).symm) hJ9
              · skip
                refine r_iload dX9_best_62 rfl ?_
                refine r_goto (tgt := 68) dX9_best_64 (by decide) ?_
                exact r_top (by first | exact (if_pos (of_decide_eq_true (by assumption))).symm | exact (if_neg (of_decide_eq_false (by assumption))).symm) hJ9
            refine r_iload dX9_best_38 rfl ?_
            refine r_iconst (v := (-1)) dX9_best_40 (by decide) ?_
            refine r_icmp_eq (tgt := 54) dX9_best_41 (by decide) (fun c24 => ?_) (fun c24 => ?_)
            · skip
              refine r_iconst (v := nI 0) dX9_best_54 (by decide) ?_
              exact r_top (bJ_f (by first | exact decide_eq_true ⟨by assumption, Int32.not_le.mp (by assumption)⟩ | exact decide_eq_false (fun h => absurd (by assumption) h.1) | exact decide_eq_false (fun h => absurd h.2 (Int32.not_lt.mpr (by assumption))))) hJ8
            · skip
              refine r_iload dX9_best_44 rfl ?_
              refine r_iload_n dX9_best_46 rfl ?_
              refine r_icmp_ge (tgt := 54) dX9_best_47 (by decide) (fun c25 => ?_) (fun c25 => ?_)
              · skip
                refine r_iconst (v := nI 0) dX9_best_54 (by decide) ?_
                exact r_top (bJ_f (by first | exact decide_eq_true ⟨by assumption, Int32.not_le.mp (by assumption)⟩ | exact decide_eq_false (fun h => absurd (by assumption) h.1) | exact decide_eq_false (fun h => absurd h.2 (Int32.not_lt.mpr (by assumption))))) hJ8
              · skip
                refine r_iconst (v := nI 1) dX9_best_50 (by decide) ?_
                refine r_goto (tgt := 55) dX9_best_51 (by decide) ?_
                exact r_top (bJ_t (by first | exact decide_eq_true ⟨by assumption, Int32.not_le.mp (by assumption)⟩ | exact decide_eq_false (fun h => absurd (by assumption) h.1) | exact decide_eq_false (fun h => absurd h.2 (Int32.not_lt.mpr (by assumption))))) hJ8
          refine r_aload_n dX9_best_15 rfl ?_
          refine r_iload_n dX9_best_16 rfl ?_
          refine r_iload dX9_best_17 rfl ?_
          refine r_callV (As := [.int (nI (k)), .int (nI (0 + 1))]) dX9_best_19 (tX9_hasRoom hD hn hg (by omega)) rfl RM_0 rfl rfl oX9_hasRoom rfl kX9_110M nX9_hasRoom eX9_hasRoom (by unfold fRoom; decide) (Nat.le_of_ble_eq_true rfl) rfl (bc' := 0) (bs' := 0) rfl rfl ?_
          show fR _ _ _ 22 _ (.int (bI (decide (pOf g k 3 = (nI (0 + 1)) ∨ pInBath g n (nI (0 + 1)) < 3))) :: _) _ _ _ _
          refine r_if_eqB (tgt := 35) dX9_best_22 (by decide) (fun c26 => ?_) (fun c26 => ?_)
          · skip
            refine r_iconst (v := (-1)) dX9_best_35 (by decide) ?_
            exact r_top (by first | exact (if_pos (of_decide_eq_true (by assumption))).symm | exact (if_neg (of_decide_eq_false (by assumption))).symm) hJ7
          · skip
            refine r_aload_n dX9_best_25 rfl ?_
            refine r_iload_n dX9_best_26 rfl ?_
            refine r_iload dX9_best_27 rfl ?_
            refine r_callV (As := [.int (nI (k)), .int (nI (0 + 1))]) dX9_best_29 (tX9_ready hD (by omega) (by omega)) rfl RM_0 rfl rfl oX9_ready rfl kX9_201M nX9_ready eX9_ready (by unfold fRoom; decide) (Nat.le_of_ble_eq_true rfl) rfl (bc' := 0) (bs' := 0) rfl rfl ?_
            show fR _ _ _ 32 _ (.int (pReady (g) (k) (0 + 1)) :: _) _ _ _ _
            refine r_goto (tgt := 36) dX9_best_32 (by decide) ?_
            exact r_top (by first | exact (if_pos (of_decide_eq_true (by assumption))).symm | exact (if_neg (of_decide_eq_false (by assumption))).symm) hJ7
        refine r_iload dX9_best_69 rfl ?_
        refine r_if_eqB (tgt := 79) dX9_best_71 (by decide) (fun c27 => ?_) (fun c27 => ?_)
        · skip
          refine r_iload_n dX9_best_79 rfl ?_
          exact r_top (by first | exact (if_pos (of_decide_eq_true (by assumption))).symm | exact (if_neg (of_decide_eq_false (by assumption))).symm) hJ5
        · skip
          refine r_iload dX9_best_74 rfl ?_
          refine r_goto (tgt := 80) dX9_best_76 (by decide) ?_
          exact r_top (by first | exact (if_pos (of_decide_eq_true (by assumption))).symm | exact (if_neg (of_decide_eq_false (by assumption))).symm) hJ5
      refine r_iload dX9_best_57 rfl ?_
      refine r_if_eqB (tgt := 67) dX9_best_59 (by decide) (fun c28 => ?_) (fun c28 => ?_)
      · skip
        refine r_iload_n dX9_best_67 rfl ?_
        exact r_top (by first | exact (if_pos (of_decide_eq_true (by assumption))).symm | exact (if_neg (of_decide_eq_false (by assumption))).symm) hJ4
      · skip
        refine r_iload dX9_best_62 rfl ?_
        refine r_goto (tgt := 68) dX9_best_64 (by decide) ?_
        exact r_top (by first | exact (if_pos (of_decide_eq_true (by assumption))).symm | exact (if_neg (of_decide_eq_false (by assumption))).symm) hJ4
    refine r_iload dX9_best_38 rfl ?_
    refine r_iconst (v := (-1)) dX9_best_40 (by decide) ?_
    refine r_icmp_eq (tgt := 54) dX9_best_41 (by decide) (fun c29 => ?_) (fun c29 => ?_)
    · skip
      refine r_iconst (v := nI 0) dX9_best_54 (by decide) ?_
      exact r_top (bJ_f (by first | exact decide_eq_true ⟨by assumption, Int32.not_le.mp (by assumption)⟩ | exact decide_eq_false (fun h => absurd (by assumption) h.1) | exact decide_eq_false (fun h => absurd h.2 (Int32.not_lt.mpr (by assumption))))) hJ3
    · skip
      refine r_iload dX9_best_44 rfl ?_
      refine r_iload_n dX9_best_46 rfl ?_
      refine r_icmp_ge (tgt := 54) dX9_best_47 (by decide) (fun c30 => ?_) (fun c30 => ?_)
      · skip
        refine r_iconst (v := nI 0) dX9_best_54 (by decide) ?_
        exact r_top (bJ_f (by first | exact decide_eq_true ⟨by assumption, Int32.not_le.mp (by assumption)⟩ | exact decide_eq_false (fun h => absurd (by assumption) h.1) | exact decide_eq_false (fun h => absurd h.2 (Int32.not_lt.mpr (by assumption))))) hJ3
      · skip
        refine r_iconst (v := nI 1) dX9_best_50 (by decide) ?_
        refine r_goto (tgt := 55) dX9_best_51 (by decide) ?_
        exact r_top (bJ_t (by first | exact decide_eq_true ⟨by assumption, Int32.not_le.mp (by assumption)⟩ | exact decide_eq_false (fun h => absurd (by assumption) h.1) | exact decide_eq_false (fun h => absurd h.2 (Int32.not_lt.mpr (by assumption))))) hJ3
  refine r_aload_n dX9_best_15 rfl ?_
  refine r_iload_n dX9_best_16 rfl ?_
  refine r_iload dX9_best_17 rfl ?_
  refine r_callV (As := [.int (nI (k)), .int (nI (0))]) dX9_best_19 (tX9_hasRoom hD hn hg (by omega)) rfl RM_0 rfl rfl oX9_hasRoom rfl kX9_110M nX9_hasRoom eX9_hasRoom (by unfold fRoom; decide) (Nat.le_of_ble_eq_true rfl) rfl (bc' := 0) (bs' := 0) rfl rfl ?_
  show fR _ _ _ 22 _ (.int (bI (decide (pOf g k 3 = (nI (0)) ∨ pInBath g n (nI (0)) < 3))) :: _) _ _ _ _
  refine r_if_eqB (tgt := 35) dX9_best_22 (by decide) (fun c31 => ?_) (fun c31 => ?_)
  · skip
    refine r_iconst (v := (-1)) dX9_best_35 (by decide) ?_
    exact r_top (by first | exact (if_pos (of_decide_eq_true (by assumption))).symm | exact (if_neg (of_decide_eq_false (by assumption))).symm) hJ2
  · skip
    refine r_aload_n dX9_best_25 rfl ?_
    refine r_iload_n dX9_best_26 rfl ?_
    refine r_iload dX9_best_27 rfl ?_
    refine r_callV (As := [.int (nI (k)), .int (nI (0))]) dX9_best_29 (tX9_ready hD (by omega) (by omega)) rfl RM_0 rfl rfl oX9_ready rfl kX9_201M nX9_ready eX9_ready (by unfold fRoom; decide) (Nat.le_of_ble_eq_true rfl) rfl (bc' := 0) (bs' := 0) rfl rfl ?_
    show fR _ _ _ 32 _ (.int (pReady (g) (k) (0)) :: _) _ _ _ _
    refine r_goto (tgt := 36) dX9_best_32 (by decide) ?_
    exact r_top (by first | exact (if_pos (of_decide_eq_true (by assumption))).symm | exact (if_neg (of_decide_eq_false (by assumption))).symm) hJ2
