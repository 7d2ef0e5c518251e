theorem tX9_mean {l : Launch} {κ : KP} {M : Mem} {m sA tA nA : Nat} {th sv kp ln ap pt : Int32} {hs : Int64} {g tx nu : Nat → Int32} (hD : rDis m sA tA nA) {n : Nat} (hn : n ≤ 8) (hg : g 1 = nI n) (hM : ∀ k, k < n → pOf g k 5 = nI (pMany g k) ∧ pMany g k ≤ 9) {d : Nat} {q : Bool} (hd : d < 6) : fM l κ mX9_mean [.ref (m), .int (nI (d)), .int (bI (q))] (RM M m sA tA nA (th) (sv) (kp) (ln) (ap) (pt) (hs) (g) (tx) (nu)) (isI (pMean g n d q) (RM M m sA tA nA (th) (sv) (kp) (ln) (ap) (pt) (hs) (g) (tx) (nu))) := by
  refine fM_of rfl (by decide +kernel) (Nat.le_of_ble_eq_true rfl) ?_
  show fR l κ mX9_mean 0 [(0, .ref (m)), (1, .int (nI (d))), (2, .int (bI (q)))] [] (RM M m sA tA nA (th) (sv) (kp) (ln) (ap) (pt) (hs) (g) (tx) (nu)) 0 0 _
  refine r_iconst (v := nI 0) dX9_mean_0 (by decide) ?_
  refine r_istore_n (lv' := [(3, .int (nI (0))), (0, .ref (m)), (1, .int (nI (d))), (2, .int (bI (q)))]) dX9_mean_1 (by decide) rfl ?_
  refine r_iconst (v := nI 0) dX9_mean_2 (by decide) ?_
  refine r_istore (lv' := [(4, .int (nI (0))), (3, .int (nI (0))), (0, .ref (m)), (1, .int (nI (d))), (2, .int (bI (q)))]) dX9_mean_3 (by decide) rfl ?_
  refine r_iconst (v := nI 0) dX9_mean_5 (by decide) ?_
  refine r_istore (lv' := [(5, .int (nI (0))), (4, .int (nI (0))), (3, .int (nI (0))), (0, .ref (m)), (1, .int (nI (d))), (2, .int (bI (q)))]) dX9_mean_6 (by decide) rfl ?_
  exact lX9_mean hD hn hg hM hd (n + 1) 0 (by omega) (by omega)
theorem tX9_index {l : Launch} {κ : KP} {M : Mem} {m sA tA nA : Nat} {th sv kp ln ap pt : Int32} {hs : Int64} {g tx nu : Nat → Int32} (hD : rDis m sA tA nA) {n : Nat} (hn : n ≤ 8) (hg : g 1 = nI n) (hM : ∀ k, k < n → pOf g k 5 = nI (pMany g k) ∧ pMany g k ≤ 9) {d : Nat} (hd : d < 6) : fM l κ mX9_index [.ref (m), .int (nI (d))] (RM M m sA tA nA (th) (sv) (kp) (ln) (ap) (pt) (hs) (g) (tx) (nu)) (isI (pIndex g n d) (RM M m sA tA nA (th) (sv) (kp) (ln) (ap) (pt) (hs) (g) (tx) (nu))) := by
  refine fM_of rfl (by decide +kernel) (Nat.le_of_ble_eq_true rfl) ?_
  show fR l κ mX9_index 0 [(0, .ref (m)), (1, .int (nI (d)))] [] (RM M m sA tA nA (th) (sv) (kp) (ln) (ap) (pt) (hs) (g) (tx) (nu)) 0 0 _
  refine r_aload_n dX9_index_0 rfl ?_
  refine r_iload_n dX9_index_1 rfl ?_
  refine r_iconst (v := nI 1) dX9_index_2 (by decide) ?_
  refine r_callV (As := [.int (nI (d)), .int (nI (1))]) dX9_index_3 (tX9_mean (q := true) hD hn hg hM hd) rfl RM_0 rfl rfl oX9_mean rfl kX9_72M nX9_mean eX9_mean (by unfold fRoom; decide) (Nat.le_of_ble_eq_true rfl) rfl (bc' := 0) (bs' := 0) rfl rfl ?_
  show fR _ _ _ 6 _ (.int (pMean (g) n d true) :: _) _ _ _ _
  refine r_istore_n (lv' := [(2, .int (pMean (g) n d true)), (0, .ref (m)), (1, .int (nI (d)))]) dX9_index_6 (by decide) rfl ?_
  refine r_aload_n dX9_index_7 rfl ?_
  refine r_iload_n dX9_index_8 rfl ?_
  refine r_iconst (v := nI 0) dX9_index_9 (by decide) ?_
  refine r_callV (As := [.int (nI (d)), .int (nI (0))]) dX9_index_10 (tX9_mean (q := false) hD hn hg hM hd) rfl RM_0 rfl rfl oX9_mean rfl kX9_72M nX9_mean eX9_mean (by unfold fRoom; decide) (Nat.le_of_ble_eq_true rfl) rfl (bc' := 0) (bs' := 0) rfl rfl ?_
  show fR _ _ _ 13 _ (.int (pMean (g) n d false) :: _) _ _ _ _
  refine r_istore_n (lv' := [(3, .int (pMean (g) n d false)), (2, .int (pMean (g) n d true)), (0, .ref (m)), (1, .int (nI (d)))]) dX9_index_13 (by decide) rfl ?_
  refine r_iload_n dX9_index_14 rfl ?_
  refine r_iconst (v := (-1)) dX9_index_15 (by decide) ?_
  refine r_icmp_eq (tgt := 24) dX9_index_16 (by decide) (fun c1 => ?_) (fun c1 => ?_)
  · skip
    refine r_iconst (v := (-1)) dX9_index_24 (by decide) ?_
    refine r_goto (tgt := 55) dX9_index_25 (by decide) ?_
    exact fR_iret dX9_index_55 rfl (isI_of (by unfold pIndex; (repeat (first | rw [if_pos (by first | assumption | exact Int32.not_le.mp (by assumption) | exact Int32.not_lt.mp (by assumption) | omega)] | rw [if_neg (by first | assumption | exact Int32.not_lt.mpr (by assumption) | exact Int32.not_le.mpr (by assumption) | exact bne_of (by assumption) | exact not_not_intro (by assumption) | omega)])); first | done | rfl))
  · skip
    refine r_iload_n dX9_index_19 rfl ?_
    refine r_iconst (v := (-1)) dX9_index_20 (by decide) ?_
    refine r_icmp_ne (tgt := 28) dX9_index_21 (by decide) (fun c2 => ?_) (fun c2 => ?_)
    · skip
      refine r_sipush (v := nI 1000) dX9_index_28 (by decide) ?_
      refine r_iload_n dX9_index_31 rfl ?_
      refine r_bipush (v := nI 10) dX9_index_32 (by decide) ?_
      refine r_idiv dX9_index_34 (by decide) ?_
      refine r_iadd dX9_index_35 ?_
      refine r_iload_n dX9_index_36 rfl ?_
      refine r_sipush (v := nI 450) dX9_index_37 (by decide) ?_
      refine r_isub dX9_index_40 ?_
      refine r_bipush (v := nI 10) dX9_index_41 (by decide) ?_
      refine r_callS (As := [.int (((pMean (g) n d false) - (nI (450)))), .int (nI (10))]) dX9_index_43 (tX9_div (by decide)) rfl oX9_div rfl kX9_27M sX9_div (by unfold fRoom; decide) (Nat.le_of_ble_eq_true rfl) rfl (bc' := 0) (bs' := 0) rfl rfl ?_
      show fR _ _ _ 46 _ (.int (pDiv (((pMean (g) n d false) - (nI (450)))) (nI (10))) :: _) _ _ _ _
      refine r_iadd dX9_index_46 ?_
      refine r_aload_n dX9_index_47 rfl ?_
      refine r_get (k := 1) dX9_index_48 RM_0 rfl rfl (by decide) kX9_7F ?_
      refine r_bipush (v := nI 7) dX9_index_51 (by decide) ?_
      refine r_ialdN dX9_index_53 (RM_1 hD) (by omega) (by decide) rfl ?_
      refine r_isub dX9_index_54 ?_
      exact fR_iret dX9_index_55 rfl (isI_of (by unfold pIndex; (repeat (first | rw [if_pos (by first | assumption | exact Int32.not_le.mp (by assumption) | exact Int32.not_lt.mp (by assumption) | omega)] | rw [if_neg (by first | assumption | exact Int32.not_lt.mpr (by assumption) | exact Int32.not_le.mpr (by assumption) | exact bne_of (by assumption) | exact not_not_intro (by assumption) | omega)])); first | done | rfl))
    · skip
      refine r_iconst (v := (-1)) dX9_index_24 (by decide) ?_
      refine r_goto (tgt := 55) dX9_index_25 (by decide) ?_
      exact fR_iret dX9_index_55 rfl (isI_of (by unfold pIndex; (repeat (first | rw [if_pos (by first | assumption | exact Int32.not_le.mp (by assumption) | exact Int32.not_lt.mp (by assumption) | omega)] | rw [if_neg (by first | assumption | exact Int32.not_lt.mpr (by assumption) | exact Int32.not_le.mpr (by assumption) | exact bne_of (by assumption) | exact not_not_intro (by assumption) | omega)])); first | done | rfl))
theorem lX9_whyNotSold {l : Launch} {κ : KP} {M : Mem} {m sA tA nA : Nat} {th sv kp ln ap pt : Int32} {hs : Int64} {g tx nu : Nat → Int32} (hD : rDis m sA tA nA) {n : Nat} (hn : n ≤ 8) (hg : g 1 = nI n) (hM : ∀ k, k < n → pOf g k 5 = nI (pMany g k) ∧ pMany g k ≤ 9) {d : Nat} (hd : d < 6) : ∀ (N k : Nat), n < N + k → k ≤ n → fR l κ mX9_whyNotSold 7 [(4, .int (nI (k))), (3, .int (pDMask g d k)), (2, .int (nI (pNum g d true k))), (0, .ref (m)), (1, .int (nI (d)))] [] (RM M m sA tA nA (th) (sv) (kp) (ln) (ap) (pt) (hs) (g) (tx) (nu)) 0 0 (isI (pWhyS g n d) (RM M m sA tA nA (th) (sv) (kp) (ln) (ap) (pt) (hs) (g) (tx) (nu))) := by
  intro N
  induction N with
  | zero => intro k h1 h2; omega
  | succ N ih =>
    intro k h1 h2
    have hle : pNum g d true k ≤ k := pCnt_le _ k
    refine r_iload dX9_whyNotSold_7 rfl ?_
    refine r_aload_n dX9_whyNotSold_9 rfl ?_
    refine r_get (k := 1) dX9_whyNotSold_10 RM_0 rfl rfl (by decide) kX9_7F ?_
    refine r_iconst (v := nI 1) dX9_whyNotSold_13 (by decide) ?_
    refine r_ialdN dX9_whyNotSold_14 (RM_1 hD) (by omega) (by decide) rfl ?_
    refine r_top hg ?_
    refine r_icmp_geN (tgt := 83) dX9_whyNotSold_15 (by decide) (by omega) (by omega) (fun c1 => ?_) (fun c1 => ?_)
    · skip
      have e : k = n := by omega
      rw [e]
      refine r_aload_n dX9_whyNotSold_83 rfl ?_
      refine r_iload_n dX9_whyNotSold_84 rfl ?_
      refine r_iconst (v := nI 2) dX9_whyNotSold_85 (by decide) ?_
      refine r_callV (As := [.int (nI (d)), .int (nI (2))]) dX9_whyNotSold_86 (tX9_drumAt hD (by omega)) rfl RM_0 rfl rfl oX9_drumAt rfl kX9_62M nX9_drumAt eX9_drumAt (by unfold fRoom; decide) (Nat.le_of_ble_eq_true rfl) rfl (bc' := 0) (bs' := 0) rfl rfl ?_
      show fR _ _ _ 89 _ (.int ((g) (10 + 3 * d + 2)) :: _) _ _ _ _
      refine r_iconst (v := (-1)) dX9_whyNotSold_89 (by decide) ?_
      refine r_icmp_eq (tgt := 96) dX9_whyNotSold_90 (by decide) (fun c2 => ?_) (fun c2 => ?_)
      · skip
        refine r_iload_n dX9_whyNotSold_96 rfl ?_
        refine r_iconst (v := nI 2) dX9_whyNotSold_97 (by decide) ?_
        refine r_icmp_geN (tgt := 104) dX9_whyNotSold_98 (by decide) (by omega) (by omega) (fun c3 => ?_) (fun c3 => ?_)
        · skip
          refine r_iload_n dX9_whyNotSold_104 rfl ?_
          refine r_iconst (v := nI 1) dX9_whyNotSold_105 (by decide) ?_
          refine r_icmp_eq (tgt := 119) dX9_whyNotSold_106 (by decide) (fun c4 => ?_) (fun c4 => ?_)
          · skip
            refine r_bipush (v := nI 10) dX9_whyNotSold_119 (by decide) ?_
            exact fR_iret dX9_whyNotSold_121 rfl (isI_of (by unfold pWhyS; (repeat (first | rw [if_pos (by first | assumption | exact Int32.not_le.mp (by assumption) | exact Int32.not_lt.mp (by assumption) | omega)] | rw [if_neg (by first | assumption | exact Int32.not_lt.mpr (by assumption) | exact Int32.not_le.mpr (by assumption) | exact bne_of (by assumption) | exact not_not_intro (by assumption) | omega)])); first | done | rfl))
          · skip
            refine r_iload_n dX9_whyNotSold_109 rfl ?_
            refine r_iconst (v := nI 2) dX9_whyNotSold_110 (by decide) ?_
            refine r_icmp_eq (tgt := 119) dX9_whyNotSold_111 (by decide) (fun c5 => ?_) (fun c5 => ?_)
            · skip
              refine r_bipush (v := nI 10) dX9_whyNotSold_119 (by decide) ?_
              exact fR_iret dX9_whyNotSold_121 rfl (isI_of (by unfold pWhyS; (repeat (first | rw [if_pos (by first | assumption | exact Int32.not_le.mp (by assumption) | exact Int32.not_lt.mp (by assumption) | omega)] | rw [if_neg (by first | assumption | exact Int32.not_lt.mpr (by assumption) | exact Int32.not_le.mpr (by assumption) | exact bne_of (by assumption) | exact not_not_intro (by assumption) | omega)])); first | done | rfl))
            · skip
              refine r_iload_n dX9_whyNotSold_114 rfl ?_
              refine r_iconst (v := nI 4) dX9_whyNotSold_115 (by decide) ?_
              refine r_icmp_ne (tgt := 122) dX9_whyNotSold_116 (by decide) (fun c6 => ?_) (fun c6 => ?_)
              · skip
                refine r_aload_n dX9_whyNotSold_122 rfl ?_
                refine r_iload_n dX9_whyNotSold_123 rfl ?_
                refine r_iconst (v := nI 0) dX9_whyNotSold_124 (by decide) ?_
                refine r_callV (As := [.int (nI (d)), .int (nI (0))]) dX9_whyNotSold_125 (tX9_mean (q := false) hD hn hg hM hd) rfl RM_0 rfl rfl oX9_mean rfl kX9_72M nX9_mean eX9_mean (by unfold fRoom; decide) (Nat.le_of_ble_eq_true rfl) rfl (bc' := 0) (bs' := 0) rfl rfl ?_
                show fR _ _ _ 128 _ (.int (pMean (g) n d false) :: _) _ _ _ _
                refine r_iconst (v := (-1)) dX9_whyNotSold_128 (by decide) ?_
                refine r_icmp_ne (tgt := 137) dX9_whyNotSold_129 (by decide) (fun c7 => ?_) (fun c7 => ?_)
                · skip
                  refine r_aload_n dX9_whyNotSold_137 rfl ?_
                  refine r_iload_n dX9_whyNotSold_138 rfl ?_
                  refine r_callV (As := [.int (nI (d))]) dX9_whyNotSold_139 (tX9_index hD hn hg hM hd) rfl RM_0 rfl rfl oX9_index rfl kX9_78M nX9_index eX9_index (by unfold fRoom; decide) (Nat.le_of_ble_eq_true rfl) rfl (bc' := 0) (bs' := 0) rfl rfl ?_
                  show fR _ _ _ 142 _ (.int (pIndex (g) n d) :: _) _ _ _ _
                  refine r_sipush (v := nI 980) dX9_whyNotSold_142 (by decide) ?_
                  refine r_sipush (v := nI 1020) dX9_whyNotSold_145 (by decide) ?_
                  refine r_callS (As := [.int (pIndex (g) n d), .int (nI (980)), .int (nI (1020))]) dX9_whyNotSold_148 tX9_in rfl oX9_in rfl kX9_23M sX9_in (by unfold fRoom; decide) (Nat.le_of_ble_eq_true rfl) rfl (bc' := 0) (bs' := 0) rfl rfl ?_
                  show fR _ _ _ 151 _ (.int (bI (pIn (pIndex (g) n d) (nI (980)) (nI (1020)))) :: _) _ _ _ _
                  refine r_if_eqB (tgt := 158) dX9_whyNotSold_151 (by decide) (fun c8 => ?_) (fun c8 => ?_)
                  · skip
                    refine r_bipush (v := nI 12) dX9_whyNotSold_158 (by decide) ?_
                    exact fR_iret dX9_whyNotSold_160 rfl (isI_of (by unfold pWhyS; (repeat (first | rw [if_pos (by first | assumption | exact Int32.not_le.mp (by assumption) | exact Int32.not_lt.mp (by assumption) | omega)] | rw [if_neg (by first | assumption | exact Int32.not_lt.mpr (by assumption) | exact Int32.not_le.mpr (by assumption) | exact bne_of (by assumption) | exact not_not_intro (by assumption) | omega)])); first | done | rfl))
                  · skip
                    refine r_iconst (v := nI 0) dX9_whyNotSold_154 (by decide) ?_
                    refine r_goto (tgt := 160) dX9_whyNotSold_155 (by decide) ?_
                    exact fR_iret dX9_whyNotSold_160 rfl (isI_of (by unfold pWhyS; (repeat (first | rw [if_pos (by first | assumption | exact Int32.not_le.mp (by assumption) | exact Int32.not_lt.mp (by assumption) | omega)] | rw [if_neg (by first | assumption | exact Int32.not_lt.mpr (by assumption) | exact Int32.not_le.mpr (by assumption) | exact bne_of (by assumption) | exact not_not_intro (by assumption) | omega)])); first | done | rfl))
                · skip
                  refine r_bipush (v := nI 11) dX9_whyNotSold_132 (by decide) ?_
                  refine r_goto (tgt := 160) dX9_whyNotSold_134 (by decide) ?_
                  exact fR_iret dX9_whyNotSold_160 rfl (isI_of (by unfold pWhyS; (repeat (first | rw [if_pos (by first | assumption | exact Int32.not_le.mp (by assumption) | exact Int32.not_lt.mp (by assumption) | omega)] | rw [if_neg (by first | assumption | exact Int32.not_lt.mpr (by assumption) | exact Int32.not_le.mpr (by assumption) | exact bne_of (by assumption) | exact not_not_intro (by assumption) | omega)])); first | done | rfl))
              · skip
                refine r_bipush (v := nI 10) dX9_whyNotSold_119 (by decide) ?_
                exact fR_iret dX9_whyNotSold_121 rfl (isI_of (by unfold pWhyS; (repeat (first | rw [if_pos (by first | assumption | exact Int32.not_le.mp (by assumption) | exact Int32.not_lt.mp (by assumption) | omega)] | rw [if_neg (by first | assumption | exact Int32.not_lt.mpr (by assumption) | exact Int32.not_le.mpr (by assumption) | exact bne_of (by assumption) | exact not_not_intro (by assumption) | omega)])); first | done | rfl))
        · skip
          refine r_bipush (v := nI 9) dX9_whyNotSold_101 (by decide) ?_
          exact fR_iret dX9_whyNotSold_103 rfl (isI_of (by unfold pWhyS; (repeat (first | rw [if_pos (by first | assumption | exact Int32.not_le.mp (by assumption) | exact Int32.not_lt.mp (by assumption) | omega)] | rw [if_neg (by first | assumption | exact Int32.not_lt.mpr (by assumption) | exact Int32.not_le.mpr (by assumption) | exact bne_of (by assumption) | exact not_not_intro (by assumption) | omega)])); first | done | rfl))
      · skip
        refine r_bipush (v := nI 15) dX9_whyNotSold_93 (by decide) ?_
        exact fR_iret dX9_whyNotSold_95 rfl (isI_of (by unfold pWhyS; (repeat (first | rw [if_pos (by first | assumption | exact Int32.not_le.mp (by assumption) | exact Int32.not_lt.mp (by assumption) | omega)] | rw [if_neg (by first | assumption | exact Int32.not_lt.mpr (by assumption) | exact Int32.not_le.mpr (by assumption) | exact bne_of (by assumption) | exact not_not_intro (by assumption) | omega)])); first | done | rfl))
    · skip
      have hJ9 : fR l κ mX9_whyNotSold 44 [(4, .int (nI (k))), (3, .int (pDMask g d k)), (2, .int (nI (pNum g d true k))), (0, .ref (m)), (1, .int (nI (d)))] [.int (bI (decide (pIs g d true k)))] (RM M m sA tA nA (th) (sv) (kp) (ln) (ap) (pt) (hs) (g) (tx) (nu)) 0 0 (isI (pWhyS g n d) (RM M m sA tA nA (th) (sv) (kp) (ln) (ap) (pt) (hs) (g) (tx) (nu))) := by
        refine r_istore (lv' := [(5, .int (bI (decide (pIs g d true k)))), (4, .int (nI (k))), (3, .int (pDMask g d k)), (2, .int (nI (pNum g d true k))), (0, .ref (m)), (1, .int (nI (d)))]) dX9_whyNotSold_44 (by decide) rfl ?_
        have hJ10 : fR l κ mX9_whyNotSold 58 [(5, .int (bI (decide (pIs g d true k)))), (4, .int (nI (k))), (3, .int (pDMask g d k)), (2, .int (nI (pNum g d true k))), (0, .ref (m)), (1, .int (nI (d)))] [.int (nI (pNum g d true (k + 1)))] (RM M m sA tA nA (th) (sv) (kp) (ln) (ap) (pt) (hs) (g) (tx) (nu)) 0 0 (isI (pWhyS g n d) (RM M m sA tA nA (th) (sv) (kp) (ln) (ap) (pt) (hs) (g) (tx) (nu))) := by
          refine r_istore_n (lv' := [(2, .int (nI (pNum g d true (k + 1)))), (5, .int (bI (decide (pIs g d true k)))), (4, .int (nI (k))), (3, .int (pDMask g d k)), (0, .ref (m)), (1, .int (nI (d)))]) dX9_whyNotSold_58 (by decide) rfl ?_
          have hJ11 : fR l κ mX9_whyNotSold 76 [(2, .int (nI (pNum g d true (k + 1)))), (5, .int (bI (decide (pIs g d true k)))), (4, .int (nI (k))), (3, .int (pDMask g d k)), (0, .ref (m)), (1, .int (nI (d)))] [.int ((pDMask g d (k + 1)))] (RM M m sA tA nA (th) (sv) (kp) (ln) (ap) (pt) (hs) (g) (tx) (nu)) 0 0 (isI (pWhyS g n d) (RM M m sA tA nA (th) (sv) (kp) (ln) (ap) (pt) (hs) (g) (tx) (nu))) := by
            refine r_istore_n (lv' := [(3, .int ((pDMask g d (k + 1)))), (2, .int (nI (pNum g d true (k + 1)))), (5, .int (bI (decide (pIs g d true k)))), (4, .int (nI (k))), (0, .ref (m)), (1, .int (nI (d)))]) dX9_whyNotSold_76 (by decide) rfl ?_
            refine r_iinc (v := (nI (k + 1))) (lv' := [(4, .int (nI (k + 1))), (3, .int ((pDMask g d (k + 1)))), (2, .int (nI (pNum g d true (k + 1)))), (5, .int (bI (decide (pIs g d true k)))), (0, .ref (m)), (1, .int (nI (d)))]) dX9_whyNotSold_77 rfl (nI_inc _) (by decide) rfl ?_
            refine r_goto (tgt := 7) dX9_whyNotSold_80 (by decide) ?_
            refine r_lv (lv' := [(4, .int (nI (k + 1))), (3, .int ((pDMask g d (k + 1)))), (2, .int (nI (pNum g d true (k + 1)))), (0, .ref (m)), (1, .int (nI (d)))]) (by simp) ?_
            exact ih (k + 1) (by omega) (by omega)
          refine r_iload_n dX9_whyNotSold_59 rfl ?_
          refine r_iload dX9_whyNotSold_60 rfl ?_
          refine r_if_eqB (tgt := 74) dX9_whyNotSold_62 (by decide) (fun c12 => ?_) (fun c12 => ?_)
          · skip
            refine r_iconst (v := nI 0) dX9_whyNotSold_74 (by decide) ?_
            refine r_ior dX9_whyNotSold_75 ?_
            exact r_top (by (show _ = pDMask g d k ||| if _ then _ else _); first | rw [if_pos (of_decide_eq_true (by assumption))] | rw [if_neg (of_decide_eq_false (by assumption))]) hJ11
          · skip
            refine r_aload_n dX9_whyNotSold_65 rfl ?_
            refine r_iload dX9_whyNotSold_66 rfl ?_
            have hm := (hM k (by omega)).1
            have hm9 := (hM k (by omega)).2
            refine r_callV (As := [.int (nI (k))]) dX9_whyNotSold_68 (tX9_needles hD (by omega) hm hm9) rfl RM_0 rfl rfl oX9_needles rfl kX9_75M nX9_needles eX9_needles (by unfold fRoom; decide) (Nat.le_of_ble_eq_true rfl) rfl (bc' := 0) (bs' := 0) rfl rfl ?_
            show fR _ _ _ 71 _ (.int (pNeed (g) (k)) :: _) _ _ _ _
            refine r_goto (tgt := 75) dX9_whyNotSold_71 (by decide) ?_
            refine r_ior dX9_whyNotSold_75 ?_
            exact r_top (by (show _ = pDMask g d k ||| if _ then _ else _); first | rw [if_pos (of_decide_eq_true (by assumption))] | rw [if_neg (of_decide_eq_false (by assumption))]) hJ11
        refine r_iload_n dX9_whyNotSold_46 rfl ?_
        refine r_iload dX9_whyNotSold_47 rfl ?_
        refine r_if_eqB (tgt := 56) dX9_whyNotSold_49 (by decide) (fun c13 => ?_) (fun c13 => ?_)
        · skip
          refine r_iconst (v := nI 0) dX9_whyNotSold_56 (by decide) ?_
          refine r_iaddN dX9_whyNotSold_57 ?_
          exact r_top (by first | exact congrArg nI (pCnt_t (of_decide_eq_true (by assumption))) | exact congrArg nI (pCnt_f (of_decide_eq_false (by assumption)))) hJ10
        · skip
          refine r_iconst (v := nI 1) dX9_whyNotSold_52 (by decide) ?_
          refine r_goto (tgt := 57) dX9_whyNotSold_53 (by decide) ?_
          refine r_iaddN dX9_whyNotSold_57 ?_
          exact r_top (by first | exact congrArg nI (pCnt_t (of_decide_eq_true (by assumption))) | exact congrArg nI (pCnt_f (of_decide_eq_false (by assumption)))) hJ10
      refine r_aload_n dX9_whyNotSold_18 rfl ?_
      refine r_iload dX9_whyNotSold_19 rfl ?_
      refine r_iconst (v := nI 0) dX9_whyNotSold_21 (by decide) ?_
      refine r_callV (As := [.int (nI (k)), .int (nI (0))]) dX9_whyNotSold_22 (tX9_of hD (by omega)) rfl RM_0 rfl rfl oX9_of rfl kX9_31M nX9_of eX9_of (by unfold fRoom; decide) (Nat.le_of_ble_eq_true rfl) rfl (bc' := 0) (bs' := 0) rfl rfl ?_
      show fR _ _ _ 25 _ (.int (pOf (g) (k) (0)) :: _) _ _ _ _
      refine r_iload_n dX9_whyNotSold_25 rfl ?_
      refine r_icmp_ne (tgt := 43) dX9_whyNotSold_26 (by decide) (fun c14 => ?_) (fun c14 => ?_)
      · skip
        refine r_iconst (v := nI 0) dX9_whyNotSold_43 (by decide) ?_
        exact r_top (bJ_f (by first | exact decide_eq_true ⟨by assumption, by assumption⟩ | exact decide_eq_false (fun h => absurd h.1 (by assumption)) | exact decide_eq_false (fun h => absurd (by assumption) h.2))) hJ9
      · skip
        refine r_aload_n dX9_whyNotSold_29 rfl ?_
        refine r_iload dX9_whyNotSold_30 rfl ?_
        have hm := (hM k (by omega)).1
        have hm9 := (hM k (by omega)).2
        refine r_callV (As := [.int (nI (k))]) dX9_whyNotSold_32 (tX9_penetration hD (by omega) hm hm9) rfl RM_0 rfl rfl oX9_penetration rfl kX9_65M nX9_penetration eX9_penetration (by unfold fRoom; decide) (Nat.le_of_ble_eq_true rfl) rfl (bc' := 0) (bs' := 0) rfl rfl ?_
        show fR _ _ _ 35 _ (.int (pPen (g) (k)) :: _) _ _ _ _
        refine r_iconst (v := (-1)) dX9_whyNotSold_35 (by decide) ?_
        refine r_icmp_eq (tgt := 43) dX9_whyNotSold_36 (by decide) (fun c15 => ?_) (fun c15 => ?_)
        · skip
          refine r_iconst (v := nI 0) dX9_whyNotSold_43 (by decide) ?_
          exact r_top (bJ_f (by first | exact decide_eq_true ⟨by assumption, by assumption⟩ | exact decide_eq_false (fun h => absurd h.1 (by assumption)) | exact decide_eq_false (fun h => absurd (by assumption) h.2))) hJ9
        · skip
          refine r_iconst (v := nI 1) dX9_whyNotSold_39 (by decide) ?_
          refine r_goto (tgt := 44) dX9_whyNotSold_40 (by decide) ?_
          exact r_top (bJ_t (by first | exact decide_eq_true ⟨by assumption, by assumption⟩ | exact decide_eq_false (fun h => absurd h.1 (by assumption)) | exact decide_eq_false (fun h => absurd (by assumption) h.2))) hJ9
theorem tX9_whyNotSold {l : Launch} {κ : KP} {M : Mem} {m sA tA nA : Nat} {th sv kp ln ap pt : Int32} {hs : Int64} {g tx nu : Nat → Int32} (hD : rDis m sA tA nA) {n : Nat} (hn : n ≤ 8) (hg : g 1 = nI n) (hM : ∀ k, k < n → pOf g k 5 = nI (pMany g k) ∧ pMany g k ≤ 9) {d : Nat} (hd : d < 6) : fM l κ mX9_whyNotSold [.ref (m), .int (nI (d))] (RM M m sA tA nA (th) (sv) (kp) (ln) (ap) (pt) (hs) (g) (tx) (nu)) (isI (pWhyS g n d) (RM M m sA tA nA (th) (sv) (kp) (ln) (ap) (pt) (hs) (g) (tx) (nu))) := by
  refine fM_of rfl (by decide +kernel) (Nat.le_of_ble_eq_true rfl) ?_
  show fR l κ mX9_whyNotSold 0 [(0, .ref (m)), (1, .int (nI (d)))] [] (RM M m sA tA nA (th) (sv) (kp) (ln) (ap) (pt) (hs) (g) (tx) (nu)) 0 0 _
  refine r_iconst (v := nI 0) dX9_whyNotSold_0 (by decide) ?_
  refine r_istore_n (lv' := [(2, .int (nI (0))), (0, .ref (m)), (1, .int (nI (d)))]) dX9_whyNotSold_1 (by decide) rfl ?_
  refine r_iconst (v := nI 0) dX9_whyNotSold_2 (by decide) ?_
  refine r_istore_n (lv' := [(3, .int (nI (0))), (2, .int (nI (0))), (0, .ref (m)), (1, .int (nI (d)))]) dX9_whyNotSold_3 (by decide) rfl ?_
  refine r_iconst (v := nI 0) dX9_whyNotSold_4 (by decide) ?_
  refine r_istore (lv' := [(4, .int (nI (0))), (3, .int (nI (0))), (2, .int (nI (0))), (0, .ref (m)), (1, .int (nI (d)))]) dX9_whyNotSold_5 (by decide) rfl ?_
  exact lX9_whyNotSold hD hn hg hM hd (n + 1) 0 (by omega) (by omega)
def pReadyNow (f : Nat → Int32) (k : Nat) : Int32 := if pOf f k 3 = -1 then -1 else pReady f k (pOf f k 3).toNatClampNeg
def pFar (f : Nat → Int32) (b : Nat) : Nat → Int32
  | 0 => -1
  | k + 1 => if pOf f k 3 = nI b then (if pFar f b k < pAbs (pOf f k 2 - f (28 + b)) then pAbs (pOf f k 2 - f (28 + b)) else pFar f b k) else pFar f b k
def pOfBath (f : Nat → Int32) (n b w : Nat) : Int32 := if w = 0 then f (28 + b) else if w = 1 then nI (pInBath f n (nI b)) else pFar f b n
def pSoldD (f : Nat → Int32) (dn : Nat) : Nat := pCnt (fun d => ¬ f (10 + 3 * d + 2) = -1) dn
def pPend (f : Nat → Int32) (n : Nat) : Nat := pCnt (fun k => pWhy f k = 0) n
theorem tX9_readyNow {l : Launch} {κ : KP} {M : Mem} {m sA tA nA : Nat} {th sv kp ln ap pt : Int32} {hs : Int64} {g tx nu : Nat → Int32} (hD : rDis m sA tA nA) {k : Nat} (hk : k < 8) (hB : ¬ pOf g k 3 = -1 → ∃ b, b < 3 ∧ pOf g k 3 = nI b) : fM l κ mX9_readyNow [.ref (m), .int (nI (k))] (RM M m sA tA nA (th) (sv) (kp) (ln) (ap) (pt) (hs) (g) (tx) (nu)) (isI (pReadyNow g k) (RM M m sA tA nA (th) (sv) (kp) (ln) (ap) (pt) (hs) (g) (tx) (nu))) := by
  refine fM_of rfl (by decide +kernel) (Nat.le_of_ble_eq_true rfl) ?_
  show fR l κ mX9_readyNow 0 [(0, .ref (m)), (1, .int (nI (k)))] [] (RM M m sA tA nA (th) (sv) (kp) (ln) (ap) (pt) (hs) (g) (tx) (nu)) 0 0 _
  refine r_aload_n dX9_readyNow_0 rfl ?_
  refine r_iload_n dX9_readyNow_1 rfl ?_
  refine r_iconst (v := nI 3) dX9_readyNow_2 (by decide) ?_
  refine r_callV (As := [.int (nI (k)), .int (nI (3))]) dX9_readyNow_3 (tX9_of hD (by omega)) rfl RM_0 rfl rfl oX9_of rfl kX9_31M nX9_of eX9_of (by unfold fRoom; decide) (Nat.le_of_ble_eq_true rfl) rfl (bc' := 0) (bs' := 0) rfl rfl ?_
  show fR _ _ _ 6 _ (.int (pOf (g) (k) (3)) :: _) _ _ _ _
  refine r_iconst (v := (-1)) dX9_readyNow_6 (by decide) ?_
  refine r_icmp_ne (tgt := 14) dX9_readyNow_7 (by decide) (fun c1 => ?_) (fun c1 => ?_)
  · skip
    obtain ⟨bb, hbb, ebb⟩ := hB c1
    refine r_aload_n dX9_readyNow_14 rfl ?_
    refine r_iload_n dX9_readyNow_15 rfl ?_
    refine r_aload_n dX9_readyNow_16 rfl ?_
    refine r_iload_n dX9_readyNow_17 rfl ?_
    refine r_iconst (v := nI 3) dX9_readyNow_18 (by decide) ?_
    refine r_callV (As := [.int (nI (k)), .int (nI (3))]) dX9_readyNow_19 (tX9_of hD (by omega)) rfl RM_0 rfl rfl oX9_of rfl kX9_31M nX9_of eX9_of (by unfold fRoom; decide) (Nat.le_of_ble_eq_true rfl) rfl (bc' := 0) (bs' := 0) rfl rfl ?_
    show fR _ _ _ 22 _ (.int (pOf (g) (k) (3)) :: _) _ _ _ _
    refine r_top ebb ?_
    refine r_callV (As := [.int (nI (k)), .int (nI (bb))]) dX9_readyNow_22 (tX9_ready hD (by omega) (by omega)) rfl RM_0 rfl rfl oX9_ready rfl kX9_201M nX9_ready eX9_ready (by unfold fRoom; decide) (Nat.le_of_ble_eq_true rfl) rfl (bc' := 0) (bs' := 0) rfl rfl ?_
    show fR _ _ _ 25 _ (.int (pReady (g) (k) (bb)) :: _) _ _ _ _
    exact fR_iret dX9_readyNow_25 rfl (isI_of (by unfold pReadyNow; first | rw [if_pos c1] | (rw [if_neg c1, ebb, nI_clamp (by omega)])))
  · skip
    refine r_iconst (v := (-1)) dX9_readyNow_10 (by decide) ?_
    refine r_goto (tgt := 25) dX9_readyNow_11 (by decide) ?_
    exact fR_iret dX9_readyNow_25 rfl (isI_of (by unfold pReadyNow; first | rw [if_pos c1] | (rw [if_neg c1, ebb, nI_clamp (by omega)])))
