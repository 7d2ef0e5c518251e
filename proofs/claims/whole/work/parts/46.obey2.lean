theorem tX9_does_36 {l : Launch} {κ : KP} {M : Mem} {m sA tA nA : Nat} {th sv kp ln ap pt : Int32} {hs : Int64} {g tx nu : Nat → Int32} (hD : rDis m sA tA nA) {dn n : Nat} (hI : BI g dn n) {d : Nat} (hd : d < 6) (e0 : nu 0 = nI d) (hdd : d < dn) : fM l κ mX9_does [.ref (m)] (RM M m sA tA nA (th) (sv) (kp) (ln) (ap) (nI (36)) (hs) (g) (tx) (nu)) (isR none (RM M m sA tA nA (th) (sv) (kp) (ln) (ap) (nI (36)) (hs) (pDoes g n 36 nu) (tx) (nu))) := by
  refine fM_of rfl (by decide +kernel) (Nat.le_of_ble_eq_true rfl) ?_
  have hn := hI.nle
  have hg := hI.n0
  have hdn := hI.dle
  have hg0 := hI.d0
  have hM := hI.mM
  have hB := hI.mB
  have h1 := hI.m1
  have hs0 := hI.s0
  have f0 : cN (nu 0) = d := by rw [e0]; exact nI_clamp (by omega)
  have eD : pDoes g n 36 nu = pSell g n d := by unfold pDoes; (repeat (first | rw [if_pos (by first | assumption | exact Int32.not_le.mp (by assumption) | exact Int32.not_lt.mp (by assumption) | omega)] | rw [if_neg (by first | assumption | exact Int32.not_lt.mpr (by assumption) | exact Int32.not_le.mpr (by assumption) | exact bne_of (by assumption) | exact not_not_intro (by assumption) | omega)])); rw [f0]
  rw [eD]
  show fR l κ mX9_does 0 [(0, .ref (m))] [] (RM M m sA tA nA (th) (sv) (kp) (ln) (ap) (nI (36)) (hs) (g) (tx) (nu)) 0 0 _
  refine r_aload_n dX9_does_0 rfl ?_
  refine r_get (k := 7) dX9_does_1 RM_0 rfl rfl (by decide) kX9_148F ?_
  refine r_lookup (off := 66) (tgt := 70) dX9_does_4 (by decide) (by decide) (by decide) ?_
  refine r_aload_n dX9_does_70 rfl ?_
  refine r_aload_n dX9_does_71 rfl ?_
  refine r_get (k := 8) dX9_does_72 RM_0 rfl rfl (by decide) kX9_16F ?_
  refine r_iconst (v := nI 0) dX9_does_75 (by decide) ?_
  refine r_ialdN dX9_does_76 (RM_3 hD) (by omega) (by decide) rfl ?_
  refine r_top (y := (nI (d))) e0 ?_
  refine r_callV (As := [.int (nI (d))]) dX9_does_77 (tX9_sells hD hn hg hM (by omega)) rfl RM_0 rfl rfl oX9_sells rfl kX9_132M nX9_sells eX9_sells (by unfold fRoom; decide) (Nat.le_of_ble_eq_true rfl) rfl (bc' := 0) (bs' := 0) rfl rfl ?_
  show fR _ _ _ 80 _ (.int (pMean (g) n (d) true / nI 20) :: _) _ _ _ _
  refine r_pop dX9_does_80 rfl ?_
  refine r_goto (tgt := 161) dX9_does_81 (by decide) ?_
  exact fR_vret dX9_does_161 rfl isR_of
theorem tX9_does_98 {l : Launch} {κ : KP} {M : Mem} {m sA tA nA : Nat} {th sv kp ln ap pt : Int32} {hs : Int64} {g tx nu : Nat → Int32} (hD : rDis m sA tA nA) {dn n : Nat} (hI : BI g dn n) {k : Nat} {b : Int32} (hk8 : k < 8) (e0 : nu 0 = nI k) (e1 : nu 1 = b)  : fM l κ mX9_does [.ref (m)] (RM M m sA tA nA (th) (sv) (kp) (ln) (ap) (nI (98)) (hs) (g) (tx) (nu)) (isR none (RM M m sA tA nA (th) (sv) (kp) (ln) (ap) (nI (98)) (hs) (pDoes g n 98 nu) (tx) (nu))) := by
  refine fM_of rfl (by decide +kernel) (Nat.le_of_ble_eq_true rfl) ?_
  have hn := hI.nle
  have hg := hI.n0
  have hdn := hI.dle
  have hg0 := hI.d0
  have hM := hI.mM
  have hB := hI.mB
  have h1 := hI.m1
  have hs0 := hI.s0
  have f0 : cN (nu 0) = k := by rw [e0]; exact nI_clamp (by omega)
  have eD : pDoes g n 98 nu = upd g (40 + 42 * k + 3) b := by unfold pDoes; (repeat (first | rw [if_pos (by first | assumption | exact Int32.not_le.mp (by assumption) | exact Int32.not_lt.mp (by assumption) | omega)] | rw [if_neg (by first | assumption | exact Int32.not_lt.mpr (by assumption) | exact Int32.not_le.mpr (by assumption) | exact bne_of (by assumption) | exact not_not_intro (by assumption) | omega)])); rw [f0, e1]
  rw [eD]
  show fR l κ mX9_does 0 [(0, .ref (m))] [] (RM M m sA tA nA (th) (sv) (kp) (ln) (ap) (nI (98)) (hs) (g) (tx) (nu)) 0 0 _
  refine r_aload_n dX9_does_0 rfl ?_
  refine r_get (k := 7) dX9_does_1 RM_0 rfl rfl (by decide) kX9_148F ?_
  refine r_lookup (off := 94) (tgt := 98) dX9_does_4 (by decide) (by decide) (by decide) ?_
  refine r_aload_n dX9_does_98 rfl ?_
  refine r_aload_n dX9_does_99 rfl ?_
  refine r_get (k := 8) dX9_does_100 RM_0 rfl rfl (by decide) kX9_16F ?_
  refine r_iconst (v := nI 0) dX9_does_103 (by decide) ?_
  refine r_ialdN dX9_does_104 (RM_3 hD) (by omega) (by decide) rfl ?_
  refine r_top (y := (nI (k))) e0 ?_
  refine r_iconst (v := nI 3) dX9_does_105 (by decide) ?_
  refine r_aload_n dX9_does_106 rfl ?_
  refine r_get (k := 8) dX9_does_107 RM_0 rfl rfl (by decide) kX9_16F ?_
  refine r_iconst (v := nI 1) dX9_does_110 (by decide) ?_
  refine r_ialdN dX9_does_111 (RM_3 hD) (by omega) (by decide) rfl ?_
  refine r_top (y := (b)) e1 ?_
  refine r_callV (As := [.int (nI (k)), .int (nI (3)), .int (b)]) dX9_does_112 (tX9_lay hD (by omega)) rfl RM_0 rfl rfl oX9_lay rfl kX9_41M nX9_lay eX9_lay (by unfold fRoom; decide) (Nat.le_of_ble_eq_true rfl) rfl (bc' := 0) (bs' := 0) rfl rfl ?_
  show fR _ _ _ 115 _ _ _ _ _ _
  refine r_goto (tgt := 161) dX9_does_115 (by decide) ?_
  exact fR_vret dX9_does_161 rfl isR_of
theorem tX9_does_110 {l : Launch} {κ : KP} {M : Mem} {m sA tA nA : Nat} {th sv kp ln ap pt : Int32} {hs : Int64} {g tx nu : Nat → Int32} (hD : rDis m sA tA nA) {dn n : Nat} (hI : BI g dn n) {nd k w s : Nat} (hnd : nd < 3) (hk8 : k < 8) (e0 : nu 0 = nI nd) (e1 : nu 1 = nI k) (e2 : nu 2 = nI w) (e3 : nu 3 = nI s) (hkn : k < n) (h9 : pMany g k < 9) : fM l κ mX9_does [.ref (m)] (RM M m sA tA nA (th) (sv) (kp) (ln) (ap) (nI (110)) (hs) (g) (tx) (nu)) (isR none (RM M m sA tA nA (th) (sv) (kp) (ln) (ap) (nI (110)) (hs) (pDoes g n 110 nu) (tx) (nu))) := by
  refine fM_of rfl (by decide +kernel) (Nat.le_of_ble_eq_true rfl) ?_
  have hn := hI.nle
  have hg := hI.n0
  have hdn := hI.dle
  have hg0 := hI.d0
  have hM := hI.mM
  have hB := hI.mB
  have h1 := hI.m1
  have hs0 := hI.s0
  have f0 : cN (nu 0) = nd := by rw [e0]; exact nI_clamp (by omega)
  have f1 : cN (nu 1) = k := by rw [e1]; exact nI_clamp (by omega)
  have eD : pDoes g n 110 nu = pSink g nd k (nI w) (nI s) := by unfold pDoes; (repeat (first | rw [if_pos (by first | assumption | exact Int32.not_le.mp (by assumption) | exact Int32.not_lt.mp (by assumption) | omega)] | rw [if_neg (by first | assumption | exact Int32.not_lt.mpr (by assumption) | exact Int32.not_le.mpr (by assumption) | exact bne_of (by assumption) | exact not_not_intro (by assumption) | omega)])); rw [f0, f1, e2, e3]
  rw [eD]
  show fR l κ mX9_does 0 [(0, .ref (m))] [] (RM M m sA tA nA (th) (sv) (kp) (ln) (ap) (nI (110)) (hs) (g) (tx) (nu)) 0 0 _
  refine r_aload_n dX9_does_0 rfl ?_
  refine r_get (k := 7) dX9_does_1 RM_0 rfl rfl (by decide) kX9_148F ?_
  refine r_lookup (off := 114) (tgt := 118) dX9_does_4 (by decide) (by decide) (by decide) ?_
  refine r_aload_n dX9_does_118 rfl ?_
  refine r_aload_n dX9_does_119 rfl ?_
  refine r_get (k := 8) dX9_does_120 RM_0 rfl rfl (by decide) kX9_16F ?_
  refine r_iconst (v := nI 0) dX9_does_123 (by decide) ?_
  refine r_ialdN dX9_does_124 (RM_3 hD) (by omega) (by decide) rfl ?_
  refine r_top (y := (nI (nd))) e0 ?_
  refine r_aload_n dX9_does_125 rfl ?_
  refine r_get (k := 8) dX9_does_126 RM_0 rfl rfl (by decide) kX9_16F ?_
  refine r_iconst (v := nI 1) dX9_does_129 (by decide) ?_
  refine r_ialdN dX9_does_130 (RM_3 hD) (by omega) (by decide) rfl ?_
  refine r_top (y := (nI (k))) e1 ?_
  refine r_aload_n dX9_does_131 rfl ?_
  refine r_get (k := 8) dX9_does_132 RM_0 rfl rfl (by decide) kX9_16F ?_
  refine r_iconst (v := nI 2) dX9_does_135 (by decide) ?_
  refine r_ialdN dX9_does_136 (RM_3 hD) (by omega) (by decide) rfl ?_
  refine r_top (y := (nI (w))) e2 ?_
  refine r_aload_n dX9_does_137 rfl ?_
  refine r_get (k := 8) dX9_does_138 RM_0 rfl rfl (by decide) kX9_16F ?_
  refine r_iconst (v := nI 3) dX9_does_141 (by decide) ?_
  refine r_ialdN dX9_does_142 (RM_3 hD) (by omega) (by decide) rfl ?_
  refine r_top (y := (nI (s))) e3 ?_
  refine r_callV (As := [.int (nI (nd)), .int (nI (k)), .int (nI (w)), .int (nI (s))]) dX9_does_143 (tX9_sinks hD (by omega) (by omega) (h1 _ (by omega)) (hM _ (by omega)).1 (by omega)) rfl RM_0 rfl rfl oX9_sinks rfl kX9_123M nX9_sinks eX9_sinks (by unfold fRoom; decide) (Nat.le_of_ble_eq_true rfl) rfl (bc' := 0) (bs' := 0) rfl rfl ?_
  show fR _ _ _ 146 _ (.int (pDep (g) (nd) (k) (nI (w)) (nI (s))) :: _) _ _ _ _
  refine r_pop dX9_does_146 rfl ?_
  refine r_goto (tgt := 161) dX9_does_147 (by decide) ?_
  exact fR_vret dX9_does_161 rfl isR_of
theorem tX9_does_111 {l : Launch} {κ : KP} {M : Mem} {m sA tA nA : Nat} {th sv kp ln ap pt : Int32} {hs : Int64} {g tx nu : Nat → Int32} (hD : rDis m sA tA nA) {dn n : Nat} (hI : BI g dn n) {k : Nat} (hk8 : k < 8) (e0 : nu 0 = nI k)  : fM l κ mX9_does [.ref (m)] (RM M m sA tA nA (th) (sv) (kp) (ln) (ap) (nI (111)) (hs) (g) (tx) (nu)) (isR none (RM M m sA tA nA (th) (sv) (kp) (ln) (ap) (nI (111)) (hs) (pDoes g n 111 nu) (tx) (nu))) := by
  refine fM_of rfl (by decide +kernel) (Nat.le_of_ble_eq_true rfl) ?_
  have hn := hI.nle
  have hg := hI.n0
  have hdn := hI.dle
  have hg0 := hI.d0
  have hM := hI.mM
  have hB := hI.mB
  have h1 := hI.m1
  have hs0 := hI.s0
  have f0 : cN (nu 0) = k := by rw [e0]; exact nI_clamp (by omega)
  have eD : pDoes g n 111 nu = pRing g k := by unfold pDoes; (repeat (first | rw [if_pos (by first | assumption | exact Int32.not_le.mp (by assumption) | exact Int32.not_lt.mp (by assumption) | omega)] | rw [if_neg (by first | assumption | exact Int32.not_lt.mpr (by assumption) | exact Int32.not_le.mpr (by assumption) | exact bne_of (by assumption) | exact not_not_intro (by assumption) | omega)])); rw [f0]
  rw [eD]
  show fR l κ mX9_does 0 [(0, .ref (m))] [] (RM M m sA tA nA (th) (sv) (kp) (ln) (ap) (nI (111)) (hs) (g) (tx) (nu)) 0 0 _
  refine r_aload_n dX9_does_0 rfl ?_
  refine r_get (k := 7) dX9_does_1 RM_0 rfl rfl (by decide) kX9_148F ?_
  refine r_lookup (off := 80) (tgt := 84) dX9_does_4 (by decide) (by decide) (by decide) ?_
  refine r_aload_n dX9_does_84 rfl ?_
  refine r_aload_n dX9_does_85 rfl ?_
  refine r_get (k := 8) dX9_does_86 RM_0 rfl rfl (by decide) kX9_16F ?_
  refine r_iconst (v := nI 0) dX9_does_89 (by decide) ?_
  refine r_ialdN dX9_does_90 (RM_3 hD) (by omega) (by decide) rfl ?_
  refine r_top (y := (nI (k))) e0 ?_
  refine r_callV (As := [.int (nI (k))]) dX9_does_91 (tX9_rings hD (by omega)) rfl RM_0 rfl rfl oX9_rings rfl kX9_126M nX9_rings eX9_rings (by unfold fRoom; decide) (Nat.le_of_ble_eq_true rfl) rfl (bc' := 0) (bs' := 0) rfl rfl ?_
  show fR _ _ _ 94 _ (.int (pRingR (g) (k)) :: _) _ _ _ _
  refine r_pop dX9_does_94 rfl ?_
  refine r_goto (tgt := 161) dX9_does_95 (by decide) ?_
  exact fR_vret dX9_does_161 rfl isR_of
theorem tX9_does_115 {l : Launch} {κ : KP} {M : Mem} {m sA tA nA : Nat} {th sv kp ln ap pt : Int32} {hs : Int64} {g tx nu : Nat → Int32} (hD : rDis m sA tA nA) {dn n : Nat} (hI : BI g dn n) {d : Nat} (hd : d < 6) (e0 : nu 0 = nI d) (hdd : d < dn) (hn8 : n < 8) : fM l κ mX9_does [.ref (m)] (RM M m sA tA nA (th) (sv) (kp) (ln) (ap) (nI (115)) (hs) (g) (tx) (nu)) (isR none (RM M m sA tA nA (th) (sv) (kp) (ln) (ap) (nI (115)) (hs) (pDoes g n 115 nu) (tx) (nu))) := by
  refine fM_of rfl (by decide +kernel) (Nat.le_of_ble_eq_true rfl) ?_
  have hn := hI.nle
  have hg := hI.n0
  have hdn := hI.dle
  have hg0 := hI.d0
  have hM := hI.mM
  have hB := hI.mB
  have h1 := hI.m1
  have hs0 := hI.s0
  have f0 : cN (nu 0) = d := by rw [e0]; exact nI_clamp (by omega)
  have eD : pDoes g n 115 nu = pTake g n d := by unfold pDoes; (repeat (first | rw [if_pos (by first | assumption | exact Int32.not_le.mp (by assumption) | exact Int32.not_lt.mp (by assumption) | omega)] | rw [if_neg (by first | assumption | exact Int32.not_lt.mpr (by assumption) | exact Int32.not_le.mpr (by assumption) | exact bne_of (by assumption) | exact not_not_intro (by assumption) | omega)])); rw [f0]
  rw [eD]
  show fR l κ mX9_does 0 [(0, .ref (m))] [] (RM M m sA tA nA (th) (sv) (kp) (ln) (ap) (nI (115)) (hs) (g) (tx) (nu)) 0 0 _
  refine r_aload_n dX9_does_0 rfl ?_
  refine r_get (k := 7) dX9_does_1 RM_0 rfl rfl (by decide) kX9_148F ?_
  refine r_lookup (off := 52) (tgt := 56) dX9_does_4 (by decide) (by decide) (by decide) ?_
  refine r_aload_n dX9_does_56 rfl ?_
  refine r_aload_n dX9_does_57 rfl ?_
  refine r_get (k := 8) dX9_does_58 RM_0 rfl rfl (by decide) kX9_16F ?_
  refine r_iconst (v := nI 0) dX9_does_61 (by decide) ?_
  refine r_ialdN dX9_does_62 (RM_3 hD) (by omega) (by decide) rfl ?_
  refine r_top (y := (nI (d))) e0 ?_
  refine r_callV (As := [.int (nI (d))]) dX9_does_63 (tX9_takes hD hn hg (by omega) (by omega) (hs0 _ (by omega))) rfl RM_0 rfl rfl oX9_takes rfl kX9_101M nX9_takes eX9_takes (by unfold fRoom; decide) (Nat.le_of_ble_eq_true rfl) rfl (bc' := 0) (bs' := 0) rfl rfl ?_
  show fR _ _ _ 66 _ (.int (nI (n)) :: _) _ _ _ _
  refine r_pop dX9_does_66 rfl ?_
  refine r_goto (tgt := 161) dX9_does_67 (by decide) ?_
  exact fR_vret dX9_does_161 rfl isR_of
theorem tX9_does_43 {l : Launch} {κ : KP} {M : Mem} {m sA tA nA : Nat} {th sv kp ln ap pt : Int32} {hs : Int64} {g tx nu : Nat → Int32} (hD : rDis m sA tA nA) {dn n : Nat} (hI : BI g dn n) {q : Nat} (hq : q ≤ 99) (e0 : nu 0 = nI q)  : fM l κ mX9_does [.ref (m)] (RM M m sA tA nA (th) (sv) (kp) (ln) (ap) (nI (43)) (hs) (g) (tx) (nu)) (isR none (RM M m sA tA nA (th) (sv) (kp) (ln) (ap) (nI (43)) (hs) (pDoes g n 43 nu) (tx) (nu))) := by
  refine fM_of rfl (by decide +kernel) (Nat.le_of_ble_eq_true rfl) ?_
  have hn := hI.nle
  have hg := hI.n0
  have hdn := hI.dle
  have hg0 := hI.d0
  have hM := hI.mM
  have hB := hI.mB
  have h1 := hI.m1
  have hs0 := hI.s0
  have f0 : cN (nu 0) = q := by rw [e0]; exact nI_clamp (by omega)
  have eD : pDoes g n 43 nu = pPassT g n q := by unfold pDoes; (repeat (first | rw [if_pos (by first | assumption | exact Int32.not_le.mp (by assumption) | exact Int32.not_lt.mp (by assumption) | omega)] | rw [if_neg (by first | assumption | exact Int32.not_lt.mpr (by assumption) | exact Int32.not_le.mpr (by assumption) | exact bne_of (by assumption) | exact not_not_intro (by assumption) | omega)])); rw [f0]
  rw [eD]
  show fR l κ mX9_does 0 [(0, .ref (m))] [] (RM M m sA tA nA (th) (sv) (kp) (ln) (ap) (nI (43)) (hs) (g) (tx) (nu)) 0 0 _
  refine r_aload_n dX9_does_0 rfl ?_
  refine r_get (k := 7) dX9_does_1 RM_0 rfl rfl (by decide) kX9_148F ?_
  refine r_lookup (off := 146) (tgt := 150) dX9_does_4 (by decide) (by decide) (by decide) ?_
  refine r_aload_n dX9_does_150 rfl ?_
  refine r_aload_n dX9_does_151 rfl ?_
  refine r_get (k := 8) dX9_does_152 RM_0 rfl rfl (by decide) kX9_16F ?_
  refine r_iconst (v := nI 0) dX9_does_155 (by decide) ?_
  refine r_ialdN dX9_does_156 (RM_3 hD) (by omega) (by decide) rfl ?_
  refine r_top (y := (nI (q))) e0 ?_
  refine r_callV (As := [.int (nI (q))]) dX9_does_157 (tX9_passes hD hn hg hB (by omega)) rfl RM_0 rfl rfl oX9_passes rfl kX9_117M nX9_passes eX9_passes (by unfold fRoom; decide) (Nat.le_of_ble_eq_true rfl) rfl (bc' := 0) (bs' := 0) rfl rfl ?_
  show fR _ _ _ 160 _ (.int (nI (pSame (pPassT (g) n (q)) n)) :: _) _ _ _ _
  refine r_pop dX9_does_160 rfl ?_
  exact fR_vret dX9_does_161 rfl isR_of
theorem pStops_h {g : Nat → Int32} {dn n part : Nat} {u : Nat → Int32} (hI : BI g dn n) (h : pStops g dn n part u ≤ 0) :
    (part = 36 → cN (u 0) < dn ∧ pWhyS g n (cN (u 0)) ≤ 0) ∧ (part = 98 → cN (u 0) < n) ∧ (part = 110 → cN (u 1) < n ∧ pMany g (cN (u 1)) < 9) ∧ (part = 111 → cN (u 0) < n) ∧ (part = 115 → cN (u 0) < dn ∧ n < 8) := by
  have hn := hI.nle
  refine ⟨fun e => ?_, fun e => ?_, fun e => ?_, fun e => ?_, fun e => ?_⟩ <;> subst e <;> unfold pStops at h
  · rw [if_pos rfl] at h
    by_cases c : cN (u 0) < dn
    · rw [if_pos c] at h; exact ⟨c, h⟩
    · rw [if_neg c] at h; exact absurd h (by decide)
  · rw [if_neg (by decide), if_pos rfl] at h
    by_cases c : cN (u 0) < n
    · exact c
    · rw [if_neg c] at h; exact absurd h (by decide)
  · rw [if_neg (by decide), if_neg (by decide), if_pos rfl] at h
    by_cases c : cN (u 1) < n
    · rw [if_pos c] at h; exact ⟨c, pWhyNot_0 (hI.mM _ c).2 h⟩
    · rw [if_neg c] at h; exact absurd h (by decide)
  · rw [if_neg (by decide), if_neg (by decide), if_neg (by decide), if_pos rfl] at h
    by_cases c : cN (u 0) < n
    · exact c
    · rw [if_neg c] at h; exact absurd h (by decide)
  · rw [if_neg (by decide), if_neg (by decide), if_neg (by decide), if_neg (by decide), if_pos rfl] at h
    by_cases c : cN (u 0) < dn
    · rw [if_pos c] at h
      by_cases c2 : n = 8
      · rw [if_pos c2] at h; exact absurd h (by decide)
      · exact ⟨c, by omega⟩
    · rw [if_neg c] at h; exact absurd h (by decide)
theorem tX9_does {l : Launch} {κ : KP} {M : Mem} {m sA tA nA : Nat} {th sv kp ln ap : Int32} {hs : Int64} {g tx nu : Nat → Int32} (hD : rDis m sA tA nA) {dn n : Nat} (hI : BI g dn n) {part : Nat} (hP : PN part nu) (hstp : pStops g dn n part nu ≤ 0) : fM l κ mX9_does [.ref m] (RM M m sA tA nA (th) (sv) (kp) (ln) (ap) (nI (part)) (hs) (g) (tx) (nu)) (isR none (RM M m sA tA nA (th) (sv) (kp) (ln) (ap) (nI (part)) (hs) (pDoes g n part nu) (tx) (nu))) := by
  obtain ⟨s1, s2, s3, s4, s5⟩ := pStops_h hI hstp
  rcases hP with ⟨rfl, d, hd, e0⟩ | ⟨rfl, q, h1, h2, e0⟩ | ⟨rfl, k, hk, e0, -⟩ | ⟨rfl, nd, k, w, s, h1, h2, h3, h4, h5, h6, e0, e1, e2, e3⟩ | ⟨rfl, k, hk, e0⟩ | ⟨rfl, d, hd, e0⟩
  · have s := s1 rfl; rw [e0, show cN (nI d) = d from nI_clamp (by omega)] at s
    exact tX9_does_36 (pt := 0) hD hI hd e0 s.1
  · exact tX9_does_43 (pt := 0) hD hI h2 e0
  · exact tX9_does_98 (pt := 0) hD hI hk e0 rfl
  · have s := s3 rfl; rw [e1, show cN (nI k) = k from nI_clamp (by omega)] at s
    exact tX9_does_110 (pt := 0) hD hI h1 h2 e0 e1 e2 e3 s.1 s.2
  · exact tX9_does_111 (pt := 0) hD hI hk e0
  · have s := s5 rfl; rw [e0, show cN (nI d) = d from nI_clamp (by omega)] at s
    exact tX9_does_115 (pt := 0) hD hI hd e0 s.1 s.2
theorem BI.does {g u : Nat → Int32} {dn n part : Nat} (hI : BI g dn n) (hP : PN part u) (hstp : pStops g dn n part u ≤ 0) : BI (pDoes g n part u) dn (n + if part = 115 then 1 else 0) := by
  obtain ⟨s1, s2, s3, s4, s5⟩ := pStops_h hI hstp
  unfold pDoes
  rcases hP with ⟨rfl, d, hd, e0⟩ | ⟨rfl, q, h1, h2, e0⟩ | ⟨rfl, k, hk, e0, e1⟩ | ⟨rfl, nd, k, w, s, h1, h2, h3, h4, h5, h6, e0, e1, e2, e3⟩ | ⟨rfl, k, hk, e0⟩ | ⟨rfl, d, hd, e0⟩
  · rw [if_pos rfl, if_neg (by decide)]; exact hI.sell (s1 rfl).1 (pWhyS_0 (s1 rfl).2)
  · rw [if_neg (by decide), if_neg (by decide), if_neg (by decide), if_neg (by decide), if_neg (by decide), if_neg (by decide)]; exact hI.pass
  · rw [if_neg (by decide), if_pos rfl, if_neg (by decide)]; exact hI.uBath (s2 rfl) e1
  · rw [if_neg (by decide), if_neg (by decide), if_pos rfl, if_neg (by decide)]; exact hI.sink (by rw [e0, show cN (nI nd) = nd from nI_clamp (by omega)]; exact h1) (s3 rfl).1 (s3 rfl).2
  · rw [if_neg (by decide), if_neg (by decide), if_neg (by decide), if_pos rfl, if_neg (by decide)]; exact hI.ring (s4 rfl)
  · rw [if_neg (by decide), if_neg (by decide), if_neg (by decide), if_neg (by decide), if_pos rfl, if_pos rfl]; exact hI.take (s5 rfl).1 (s5 rfl).2
theorem pDoes_8 {g u : Nat → Int32} {dn n part : Nat} (hI : BI g dn n) (hP : PN part u) : pDoes g n part u 8 = g 8 := by
  have hn := hI.nle
  unfold pDoes
  rcases hP with ⟨rfl, d, hd, e0⟩ | ⟨rfl, q, h1, h2, e0⟩ | ⟨rfl, k, hk, e0, e1⟩ | ⟨rfl, nd, k, w, s, h1, h2, h3, h4, h5, h6, e0, e1, e2, e3⟩ | ⟨rfl, k, hk, e0⟩ | ⟨rfl, d, hd, e0⟩
  · rw [if_pos rfl]; unfold pSell; rw [pk_un (by omega)]
  · rw [if_neg (by decide), if_neg (by decide), if_neg (by decide), if_neg (by decide), if_neg (by decide)]; exact pPassT_ne (by omega) (by omega)
  · rw [if_neg (by decide), if_pos rfl, pk_un (by omega)]
  · rw [if_neg (by decide), if_neg (by decide), if_pos rfl, pSink_eq]
    rw [pk_un (by omega)]; unfold sk5; rw [pk_un (by omega)]; unfold sk4; rw [pk_un (by omega)]; unfold sk3; rw [pk_un (by omega)]; unfold sk2; rw [pk_un (by omega)]; unfold sk1; rw [pk_un (by omega), pk_un (by omega), pk_un (by omega), pk_un (by omega)]
  · rw [if_neg (by decide), if_neg (by decide), if_neg (by decide), if_pos rfl]; unfold pRing; split
    · rw [pk_un (by omega)]
    · rfl
  · rw [if_neg (by decide), if_neg (by decide), if_neg (by decide), if_neg (by decide), if_pos rfl]; unfold pTake
    rw [pk_un (by omega), pk_un (by omega), pk_un (by omega), pk_un (by omega), pk_un (by omega), pk_un (by omega), pk_un (by omega)]
theorem tX9_readsPart2 {l : Launch} {κ : KP} {M : Mem} {m sA tA nA : Nat} {th sv kp pt : Int32} {hs : Int64} {g tx nu : Nat → Int32} {ch : Nat → Nat} {ln i : Nat} (hD : rDis m sA tA nA) (hT : TX tx ln ch) (hi : i ≤ ln) : fM l κ mX9_readsPart [.ref m] (RM M m sA tA nA (th) (sv) (kp) (nI (ln)) (nI (i)) (pt) (hs) (g) (tx) (nu)) (isI (bI (rPart ch nu0 i).1) (RM M m sA tA nA (th) (sv) (kp) (nI (ln)) (nI ((rPart ch nu0 i).2.1)) (nI (ch i)) (hs) (g) (tx) ((rPart ch nu i).2.2))) := by
  have := tX9_readsPart (l := l) (κ := κ) (M := M) (th := th) (sv := sv) (kp := kp) (pt := pt) (hs := hs) (g := g) (nu := nu) hD hT hi
  obtain ⟨a, b, -⟩ := rPart_nu (ch := ch) (nu := nu) (nu' := nu0) (i := i)
  rw [a, b] at this; exact this
theorem lX9_obey {l : Launch} {κ : KP} {M : Mem} {m sA tA nA : Nat} {th sv kp : Int32} {hs : Int64} {tx : Nat → Int32} {ch : Nat → Nat} {ln dn : Nat} (hD : rDis m sA tA nA) (hT : TX tx ln ch) : ∀ (N : Nat) (g : Nat → Int32) (n i c : Nat) (nu : Nat → Int32) (pt : Int32), N + c ≤ 61 → ln < N + i → i ≤ ln → BI g dn n → g 8 = -1 → fR l κ mX9_obey 48 [(1, .int (nI (c))), (0, .ref (m))] [] (RM M m sA tA nA (th) (sv) (kp) (nI (ln)) (nI (i)) (pt) (hs) (g) (tx) (nu)) 0 0 (fun o M1 => ∃ (ap pt : Int32) (nu : Nat → Int32), isI (nI (pOb ch dn N g n i c).2.1) (RM M m sA tA nA th sv kp (nI 0) ap pt hs (pOb ch dn N g n i c).1 tx nu) o M1) := by
  intro N
  induction N with
  | zero => intro g n i c nu pt h1 h2; omega
  | succ N ih =>
    intro g n i c nu pt h1 h2 h3 hI h8
    have hl := hT.1
    refine r_aload_n dX9_obey_48 rfl ?_
    refine r_get (k := 1) dX9_obey_49 RM_0 rfl rfl (by decide) kX9_7F ?_
    refine r_bipush (v := nI 8) dX9_obey_52 (by decide) ?_
    refine r_ialdN dX9_obey_54 (RM_1 hD) (by omega) (by decide) rfl ?_
    refine r_top (y := (-1)) h8 ?_
    refine r_iconst (v := (-1)) dX9_obey_55 (by decide) ?_
    refine r_icmp_ne (tgt := 111) dX9_obey_56 (by decide) (fun c1 => ?_) (fun c1 => ?_)
    · skip
      exact absurd rfl c1
    · skip
      refine r_aload_n dX9_obey_59 rfl ?_
      refine r_callV (As := []) dX9_obey_60 (tX9_readsPart2 hD hT (by omega)) rfl RM_0 rfl rfl oX9_readsPart rfl kX9_160M nX9_readsPart eX9_readsPart (by unfold fRoom; decide) (Nat.le_of_ble_eq_true rfl) rfl (bc' := 0) (bs' := 0) rfl rfl ?_
      show fR _ _ _ 63 _ (.int (bI ((rPart ch nu0 (i)).1)) :: _) _ _ _ _
      have hp1 := rPart_le (nu := nu0) hT (i := i) (by omega)
      refine r_if_eqB (tgt := 111) dX9_obey_63 (by decide) (fun c2 => ?_) (fun c2 => ?_)
      · skip
        refine r_aload_n dX9_obey_111 rfl ?_
        refine r_iconst (v := nI 0) dX9_obey_112 (by decide) ?_
        refine r_put (k := 5) (fs' := [.int (th), .ref (sA), .int (sv), .int (kp), .ref (tA), .int (nI (0)), .int (nI ((rPart ch nu0 (i)).2.1)), .int (nI (ch (i))), .ref (nA), .long (hs)]) dX9_obey_113 RM_0 rfl (by decide) kX9_135F rfl rfl rfl (Nat.le_of_ble_eq_true rfl) rfl ?_
        refine r_mem RM_put ?_
        refine r_iload_n dX9_obey_116 rfl ?_
        have e : pOb ch dn (N + 1) g n i c = (g, c, n) := if_neg (by rw [show (rPart ch nu0 i).1 = false by assumption]; decide)
        rw [e]
        exact fR_iret dX9_obey_117 rfl ⟨_, _, _, isI_of rfl⟩
      · skip
        have hlt := hp1.2.2 c2
        have hR0 := c2
        have hPN := rPart_PN (nu := nu) (rPart_nu.1.trans hR0 : (rPart ch nu i).1 = true)
        have hUE := (rPart_nu (ch := ch) (nu := nu) (nu' := nu0) (i := i)).2.2 (rPart_nu.1.trans hR0 : (rPart ch nu i).1 = true)
        refine r_aload_n dX9_obey_66 rfl ?_
        have hst := tX9_stops (l := l) (κ := κ) (M := M) (th := th) (sv := sv) (kp := kp) (ln := nI ln) (ap := nI (rPart ch nu0 i).2.1) (hs := hs) (g := g) (tx := tx) hD hI hPN
        rw [pStops_used hUE] at hst
        refine r_callV (As := []) dX9_obey_67 hst rfl RM_0 rfl rfl oX9_stops rfl kX9_167M nX9_stops eX9_stops (by unfold fRoom; decide) (Nat.le_of_ble_eq_true rfl) rfl (bc' := 0) (bs' := 0) rfl rfl ?_
        show fR _ _ _ 70 _ (.int ((pStops g dn n (ch i) (rPart ch nu0 i).2.2)) :: _) _ _ _ _
        refine r_istore_n (lv' := [(2, .int ((pStops g dn n (ch i) (rPart ch nu0 i).2.2))), (1, .int (nI (c))), (0, .ref (m))]) dX9_obey_70 (by decide) rfl ?_
        refine r_iload_n dX9_obey_71 rfl ?_
        refine r_if_le (tgt := 94) dX9_obey_72 (by decide) (fun c3 => ?_) (fun c3 => ?_)
        · skip
          refine r_aload_n dX9_obey_94 rfl ?_
          have hdo := tX9_does (l := l) (κ := κ) (M := M) (th := th) (sv := sv) (kp := kp) (ln := nI ln) (ap := nI (rPart ch nu0 i).2.1) (hs := hs) (g := g) (tx := tx) hD hI hPN (by rw [pStops_used hUE]; assumption)
          rw [pDoes_used hUE] at hdo
          have hI2 := hI.does hPN (by rw [pStops_used hUE]; assumption)
          have h82 := pDoes_8 (g := g) (n := n) hI hPN
          rw [pDoes_used hUE] at hI2 h82
          refine r_callV (As := []) dX9_obey_95 hdo rfl RM_0 rfl rfl oX9_does rfl kX9_170M nX9_does eX9_does (by unfold fRoom; decide) (Nat.le_of_ble_eq_true rfl) rfl (bc' := 0) (bs' := 0) rfl rfl ?_
          show fR _ _ _ 98 _ _ _ _ _ _
          refine r_iinc (v := (nI (c + 1))) (lv' := [(1, .int (nI (c + 1))), (2, .int ((pStops g dn n (ch i) (rPart ch nu0 i).2.2))), (0, .ref (m))]) dX9_obey_98 rfl (nI_inc _) (by decide) rfl ?_
          refine r_aload_n dX9_obey_101 rfl ?_
          refine r_bipush (v := nI 59) dX9_obey_102 (by decide) ?_
          by_cases c4 : ch ((rPart ch nu0 (i)).2.1) = 59
          · skip
            refine r_callV (As := [.int (nI (59))]) dX9_obey_104 (tX9_takesSign_t hD hT (by omega) (by omega) c4) rfl RM_0 rfl rfl oX9_takesSign rfl kX9_154M nX9_takesSign eX9_takesSign (by unfold fRoom; decide) (Nat.le_of_ble_eq_true rfl) rfl (bc' := 0) (bs' := 0) rfl rfl ?_
            show fR _ _ _ 107 _ (.int (bI (true)) :: _) _ _ _ _
            have h59 := c4
            have qc4 := hT.in (i := (rPart ch nu0 (i)).2.1) (by omega)
            refine r_pop dX9_obey_107 rfl ?_
            refine r_goto (tgt := 48) dX9_obey_108 (by decide) ?_
            have e59 : (if ch (rPart ch nu0 i).2.1 = 59 then (rPart ch nu0 i).2.1 + 1 else (rPart ch nu0 i).2.1) = (rPart ch nu0 i).2.1 + 1 := if_pos h59
            have e : pOb ch dn (N + 1) g n i c = pOb ch dn N (pDoes g n (ch i) (rPart ch nu0 i).2.2) (n + if ch i = 115 then 1 else 0) (if ch (rPart ch nu0 i).2.1 = 59 then (rPart ch nu0 i).2.1 + 1 else (rPart ch nu0 i).2.1) (c + 1) := (if_pos hR0).trans (if_pos (by assumption))
            rw [e, e59]
            refine r_lv (lv' := [(1, .int (nI (c + 1))), (0, .ref (m))]) (by simp) ?_
            exact ih _ _ _ _ _ _ (by omega) (by omega) (by omega) hI2 (h82.trans h8)
          · skip
            refine r_callV (As := [.int (nI (59))]) dX9_obey_104 (tX9_takesSign_f hD hT (by omega) (by omega) c4) rfl RM_0 rfl rfl oX9_takesSign rfl kX9_154M nX9_takesSign eX9_takesSign (by unfold fRoom; decide) (Nat.le_of_ble_eq_true rfl) rfl (bc' := 0) (bs' := 0) rfl rfl ?_
            show fR _ _ _ 107 _ (.int (bI (false)) :: _) _ _ _ _
            have h59 := c4
            refine r_pop dX9_obey_107 rfl ?_
            refine r_goto (tgt := 48) dX9_obey_108 (by decide) ?_
            have e59 : (if ch (rPart ch nu0 i).2.1 = 59 then (rPart ch nu0 i).2.1 + 1 else (rPart ch nu0 i).2.1) = (rPart ch nu0 i).2.1 := if_neg h59
            have e : pOb ch dn (N + 1) g n i c = pOb ch dn N (pDoes g n (ch i) (rPart ch nu0 i).2.2) (n + if ch i = 115 then 1 else 0) (if ch (rPart ch nu0 i).2.1 = 59 then (rPart ch nu0 i).2.1 + 1 else (rPart ch nu0 i).2.1) (c + 1) := (if_pos hR0).trans (if_pos (by assumption))
            rw [e, e59]
            refine r_lv (lv' := [(1, .int (nI (c + 1))), (0, .ref (m))]) (by simp) ?_
            exact ih _ _ _ _ _ _ (by omega) (by omega) (by omega) hI2 (h82.trans h8)
        · skip
          refine r_aload_n dX9_obey_75 rfl ?_
          refine r_get (k := 1) dX9_obey_76 RM_0 rfl rfl (by decide) kX9_7F ?_
          refine r_bipush (v := nI 8) dX9_obey_79 (by decide) ?_
          refine r_iload_n dX9_obey_81 rfl ?_
          refine r_iastN dX9_obey_82 (RM_1 hD) (by omega) (by decide) ?_
          refine r_mem (RM_s1 hD) ?_
          refine r_aload_n dX9_obey_83 rfl ?_
          refine r_get (k := 1) dX9_obey_84 RM_0 rfl rfl (by decide) kX9_7F ?_
          refine r_bipush (v := nI 9) dX9_obey_87 (by decide) ?_
          refine r_iload_n dX9_obey_89 rfl ?_
          refine r_iastN dX9_obey_90 (RM_1 hD) (by omega) (by decide) ?_
          refine r_mem (RM_s1 hD) ?_
          refine r_goto (tgt := 108) dX9_obey_91 (by decide) ?_
          refine r_goto (tgt := 48) dX9_obey_108 (by decide) ?_
          refine r_lv (lv' := [(1, .int (nI (c))), (0, .ref (m))]) (by simp) ?_
          refine r_aload_n dX9_obey_48 rfl ?_
          refine r_get (k := 1) dX9_obey_49 RM_0 rfl rfl (by decide) kX9_7F ?_
          refine r_bipush (v := nI 8) dX9_obey_52 (by decide) ?_
          refine r_ialdN dX9_obey_54 (RM_1 hD) (by omega) (by decide) rfl ?_
          refine r_top (y := (nI (c))) (by rw [pk_un (by decide), pk_us]) ?_
          refine r_iconst (v := (-1)) dX9_obey_55 (by decide) ?_
          refine r_icmp_ne (tgt := 111) dX9_obey_56 (by decide) (fun c5 => ?_) (fun c5 => ?_)
          · skip
            refine r_aload_n dX9_obey_111 rfl ?_
            refine r_iconst (v := nI 0) dX9_obey_112 (by decide) ?_
            refine r_put (k := 5) (fs' := [.int (th), .ref (sA), .int (sv), .int (kp), .ref (tA), .int (nI (0)), .int (nI ((rPart ch nu0 (i)).2.1)), .int (nI (ch (i))), .ref (nA), .long (hs)]) dX9_obey_113 RM_0 rfl (by decide) kX9_135F rfl rfl rfl (Nat.le_of_ble_eq_true rfl) rfl ?_
            refine r_mem RM_put ?_
            refine r_iload_n dX9_obey_116 rfl ?_
            have e : pOb ch dn (N + 1) g n i c = (upd (upd (g) (8) (nI (c))) (9) ((pStops g dn n (ch i) (rPart ch nu0 i).2.2)), c, n) := (if_pos hR0).trans (if_neg (by assumption))
            rw [e]
            exact fR_iret dX9_obey_117 rfl ⟨_, _, _, isI_of rfl⟩
          · skip
            exact absurd c5 (nI_m1 (by omega))
