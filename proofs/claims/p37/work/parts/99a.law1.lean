/-! THE LAW'S SMALL METHODS, AND WHAT IT LOOKS AT -/
theorem fM_isI {l : Launch} {κ : KP} {μ : MD} {av : List Value} {M M' : Mem} {v v' : Int32} (h : fM l κ μ av M (isI v M')) (e : v = v') : fM l κ μ av M (isI v' M') := e ▸ h
theorem tZ_rd {l : Launch} {κ : KP} {M : Mem} {ad : Nat → Nat} {g tx : Nat → Int32} {dn n sn ln : Nat} {kp : Bool} (hA : aInj ad) (hC : ClsAt κ ad M ⟨g, sn, kp, tx, ln⟩ dn n) {k e w : Nat} (hk : k < n) (he : e < 1000) (hw : w < 4) : fM l κ mX8_readingZ [.ref (ad 254), .int (nI k), .int (nI e), .int (nI w)] M (isI (rdF g k e w) M) := by
  unfold rdF
  by_cases c : e < pMany g k
  · rw [if_pos c]; exact tZ_reading hA hC hk c hw
  · rw [if_neg c]; exact tZ_readingO hA hC hk (by omega) he hw
def cellF (κ : KP) (k : Nat) : Int32 := if k < kL κ then kX κ k else 1812433253 * (nI k + nI 263)
def upN (v : Int32) (n : Nat) : Nat := v.toBitVec.toNat % 2 ^ 31 % n
theorem upN_lt {v : Int32} {n : Nat} (h : 0 < n) : upN v n < n := Nat.mod_lt _ h
abbrev shR (v : Int32) (k : Nat) : Int32 := v >>> (nI k &&& 31)
def bitsN (m : Nat) : Nat := m % 2 + m / 2 % 2 + m / 4 % 2
theorem tL_cell {l : Launch} {κ : KP} {M : Mem} {k : Nat} (hk : k < 2 ^ 20) (hL : kL κ < 2 ^ 20) : fM l κ mL_cell [.ref (kB κ), .int (nI k)] M (isI (cellF κ k) M) := by
  refine fM_of rfl (by decide +kernel) (Nat.le_of_ble_eq_true rfl) ?_
  show fR l κ mL_cell 0 [(0, .ref (kB κ)), (1, .int (nI k))] [] M 0 0 _
  refine r_iload_n dL_cell_0 rfl ?_
  refine r_aload_n dL_cell_1 rfl ?_
  refine r_slen dL_cell_2 ?_
  refine r_top (y := nI (kL κ)) rfl ?_
  refine r_icmp_geN (tgt := 12) dL_cell_3 (by decide) (by omega) (by omega) (fun h => ?_) (fun h => ?_)
  · refine r_ldc (v := 1812433253) dL_cell_12 kL_7K ?_
    refine r_iload_n dL_cell_14 rfl ?_
    refine r_sipush (v := nI 263) dL_cell_15 (by decide) ?_
    refine r_iadd dL_cell_18 ?_
    refine r_imul dL_cell_19 ?_
    exact fR_iret dL_cell_20 rfl (isI_of (by unfold cellF; rw [if_neg (by omega)]))
  · refine r_aload_n dL_cell_6 rfl ?_
    refine r_iload_n dL_cell_7 rfl ?_
    refine r_sld dL_cell_8 (vp_in_nI (by omega) (by omega)) ?_
    refine r_top (y := kX κ k) (by rw [nI_clamp (by omega)]) ?_
    refine r_goto (tgt := 20) dL_cell_9 (by decide) ?_
    exact fR_iret dL_cell_20 rfl (isI_of (by unfold cellF; rw [if_pos (by omega)]))
theorem tL_up {l : Launch} {κ : KP} {M : Mem} {v : Int32} {n : Nat} (h0 : 0 < n) (hn : n < 2 ^ 31) : fM l κ mL_up [.int v, .int (nI n)] M (isI (nI (upN v n)) M) := by
  refine fM_of rfl (by decide +kernel) (Nat.le_of_ble_eq_true rfl) ?_
  show fR l κ mL_up 0 [(0, .int v), (1, .int (nI n))] [] M 0 0 _
  refine r_iload_n dL_up_0 rfl ?_
  refine r_ldc (v := 2147483647) dL_up_1 kL_8K ?_
  refine r_iand dL_up_3 ?_
  refine r_top (y := nI (v.toBitVec.toNat % 2 ^ 31)) (pk_and v 31 (by decide)) ?_
  refine r_iload_n dL_up_4 rfl ?_
  refine r_iremN dL_up_5 (Nat.mod_lt _ (by omega)) h0 hn ?_
  exact fR_iret dL_up_6 rfl (isI_of rfl)
theorem bits_at : ∀ m, m < 8 → (nI m &&& nI 1) + (nI m >>> (nI 1 &&& 31) &&& nI 1) + (nI m >>> (nI 2 &&& 31) &&& nI 1) = nI (bitsN m)
  | 0, _ => by decide
  | 1, _ => by decide
  | 2, _ => by decide
  | 3, _ => by decide
  | 4, _ => by decide
  | 5, _ => by decide
  | 6, _ => by decide
  | 7, _ => by decide
  | m + 8, h => by omega
theorem tL_bits {l : Launch} {κ : KP} {M : Mem} {m : Nat} (hm : m < 8) : fM l κ mL_bits [.int (nI (m))] M (isI (nI (bitsN m)) M) := by
  refine fM_of rfl (by decide +kernel) (Nat.le_of_ble_eq_true rfl) ?_
  show fR l κ mL_bits 0 [(0, .int (nI (m)))] [] M 0 0 _
  refine r_iload_n dL_bits_0 rfl ?_
  refine r_iconst (v := nI 1) dL_bits_1 (by decide) ?_
  refine r_iand dL_bits_2 ?_
  refine r_iload_n dL_bits_3 rfl ?_
  refine r_iconst (v := nI 1) dL_bits_4 (by decide) ?_
  refine r_ishr dL_bits_5 ?_
  refine r_iconst (v := nI 1) dL_bits_6 (by decide) ?_
  refine r_iand dL_bits_7 ?_
  refine r_iadd dL_bits_8 ?_
  refine r_iload_n dL_bits_9 rfl ?_
  refine r_iconst (v := nI 2) dL_bits_10 (by decide) ?_
  refine r_ishr dL_bits_11 ?_
  refine r_iconst (v := nI 1) dL_bits_12 (by decide) ?_
  refine r_iand dL_bits_13 ?_
  refine r_iadd dL_bits_14 ?_
  exact fR_iret dL_bits_15 rfl (isI_of (by exact bits_at m hm))
theorem lL_look1 {l : Launch} {κ : KP} {M : Mem} {ad : Nat → Nat} {g tx : Nat → Int32} {dn n sn ln : Nat} {kp : Bool} (hA : aInj ad) (hC : ClsAt κ ad M ⟨g, sn, kp, tx, ln⟩ dn n) {h0 : Int64} {P : FPost} (kk : fR l κ mL_looks 31 [(3, .int (nI (11))), (1, .long ((mxs (fun w => pCounted g 0 n dn w) 11 h0))), (0, .ref (ad 254))] [] M 0 0 P) : ∀ (N w : Nat), N + w = 11 → fR l κ mL_looks 6 [(3, .int (nI (w))), (1, .long ((mxs (fun w => pCounted g 0 n dn w) w h0))), (0, .ref (ad 254))] [] M 0 0 P := by
  have hI : BI g dn n := hC.2.2.1
  have hdn := hI.dle
  have hn := hI.nle
  have hsn : sn ≤ 6 := hC.2.1.s6
  intro N
  induction N with
  | zero =>
    intro w hj
    refine r_iload_n dL_looks_6 rfl ?_
    refine r_bipush (v := nI 11) dL_looks_7 (by decide) ?_
    refine r_icmp_geN (tgt := 31) dL_looks_9 (by decide) (by omega) (by omega) (fun c1 => ?_) (fun c1 => ?_)
    · skip
      have ej : w = 11 := by omega
      rw [ej]
      skip
      exact kk
    · exact absurd c1 (by omega)
  | succ N ih =>
    intro w hj
    refine r_iload_n dL_looks_6 rfl ?_
    refine r_bipush (v := nI 11) dL_looks_7 (by decide) ?_
    refine r_icmp_geN (tgt := 31) dL_looks_9 (by decide) (by omega) (by omega) (fun c1 => ?_) (fun c1 => ?_)
    · exact absurd c1 (by omega)
    · skip
      refine r_ldc2 dL_looks_12 kL_11K ?_
      refine r_lload_n dL_looks_15 rfl ?_
      refine r_lmul dL_looks_16 ?_
      refine r_aload_n dL_looks_17 rfl ?_
      refine r_iload_n dL_looks_18 rfl ?_
      refine r_callV (As := [.int (nI (w))]) dL_looks_19 (fM_isI (v' := pCounted g 0 n dn w) (tZ_count hA hC (by omega)) ((E6.refl hI).Counted (sv := 0) (by omega))) rfl hC.1 rfl rfl oX8_countZ rfl kL_13M nX8_countZ eX8_countZ (by unfold fRoom; decide) (Nat.le_of_ble_eq_true rfl) rfl (bc' := 0) (bs' := 0) rfl rfl ?_
      show fR _ _ _ 22 _ (.int (pCounted g 0 n dn w) :: _) _ _ _ _
      refine r_i2l dL_looks_22 ?_
      refine r_ladd dL_looks_23 ?_
      refine r_lstore_n (lv' := [(1, .long (((31 * (mxs (fun w => pCounted g 0 n dn w) w h0)) + ((pCounted g 0 n dn w)).toInt64))), (3, .int (nI (w))), (0, .ref (ad 254))]) dL_looks_24 (by decide) rfl ?_
      refine r_iinc (v := (nI (w + 1))) (lv' := [(3, .int (nI (w + 1))), (1, .long (((31 * (mxs (fun w => pCounted g 0 n dn w) w h0)) + ((pCounted g 0 n dn w)).toInt64))), (0, .ref (ad 254))]) dL_looks_25 rfl (nI_inc _) (by decide) rfl ?_
      refine r_goto (tgt := 6) dL_looks_28 (by decide) ?_
      refine r_lv (lv' := [(3, .int (nI (w + 1))), (1, .long (((31 * (mxs (fun w => pCounted g 0 n dn w) w h0)) + ((pCounted g 0 n dn w)).toInt64))), (0, .ref (ad 254))]) (by simp) ?_
      exact ih (w + 1) (by omega)
theorem lL_look2 {l : Launch} {κ : KP} {M : Mem} {ad : Nat → Nat} {g tx : Nat → Int32} {dn n sn ln : Nat} {kp : Bool} (hA : aInj ad) (hC : ClsAt κ ad M ⟨g, sn, kp, tx, ln⟩ dn n) {h0 : Int64} {P : FPost} (kk : fR l κ mL_looks 71 [(3, .int (nI ((9 * dn)))), (1, .long ((mxs (fun t => pOfDrum g n (t / 9) (t % 9)) (9 * dn) h0))), (0, .ref (ad 254))] [] M 0 0 P) : ∀ (N w : Nat), N + w = (9 * dn) → fR l κ mL_looks 33 [(3, .int (nI (w))), (1, .long ((mxs (fun t => pOfDrum g n (t / 9) (t % 9)) w h0))), (0, .ref (ad 254))] [] M 0 0 P := by
  have hI : BI g dn n := hC.2.2.1
  have hdn := hI.dle
  have hn := hI.nle
  have hsn : sn ≤ 6 := hC.2.1.s6
  intro N
  induction N with
  | zero =>
    intro w hj
    refine r_iload_n dL_looks_33 rfl ?_
    refine r_bipush (v := nI 9) dL_looks_34 (by decide) ?_
    refine r_aload_n dL_looks_36 rfl ?_
    refine r_iconst (v := nI 0) dL_looks_37 (by decide) ?_
    refine r_callV (As := [.int (nI (0))]) dL_looks_38 (fM_isI (v' := nI (dn)) (tZ_count hA hC (by omega)) hI.d0) rfl hC.1 rfl rfl oX8_countZ rfl kL_13M nX8_countZ eX8_countZ (by unfold fRoom; decide) (Nat.le_of_ble_eq_true rfl) rfl (bc' := 0) (bs' := 0) rfl rfl ?_
    show fR _ _ _ 41 _ (.int (nI (dn)) :: _) _ _ _ _
    refine r_imulN dL_looks_41 ?_
    refine r_icmp_geN (tgt := 71) dL_looks_42 (by decide) (by omega) (by omega) (fun c1 => ?_) (fun c1 => ?_)
    · skip
      have ej : w = (9 * dn) := by omega
      rw [ej]
      skip
      exact kk
    · exact absurd c1 (by omega)
  | succ N ih =>
    intro w hj
    refine r_iload_n dL_looks_33 rfl ?_
    refine r_bipush (v := nI 9) dL_looks_34 (by decide) ?_
    refine r_aload_n dL_looks_36 rfl ?_
    refine r_iconst (v := nI 0) dL_looks_37 (by decide) ?_
    refine r_callV (As := [.int (nI (0))]) dL_looks_38 (fM_isI (v' := nI (dn)) (tZ_count hA hC (by omega)) hI.d0) rfl hC.1 rfl rfl oX8_countZ rfl kL_13M nX8_countZ eX8_countZ (by unfold fRoom; decide) (Nat.le_of_ble_eq_true rfl) rfl (bc' := 0) (bs' := 0) rfl rfl ?_
    show fR _ _ _ 41 _ (.int (nI (dn)) :: _) _ _ _ _
    refine r_imulN dL_looks_41 ?_
    refine r_icmp_geN (tgt := 71) dL_looks_42 (by decide) (by omega) (by omega) (fun c1 => ?_) (fun c1 => ?_)
    · exact absurd c1 (by omega)
    · skip
      refine r_ldc2 dL_looks_45 kL_11K ?_
      refine r_lload_n dL_looks_48 rfl ?_
      refine r_lmul dL_looks_49 ?_
      refine r_aload_n dL_looks_50 rfl ?_
      refine r_iload_n dL_looks_51 rfl ?_
      refine r_bipush (v := nI 9) dL_looks_52 (by decide) ?_
      refine r_idivN dL_looks_54 (by omega) (by omega) (by omega) ?_
      refine r_iload_n dL_looks_55 rfl ?_
      refine r_bipush (v := nI 9) dL_looks_56 (by decide) ?_
      refine r_iremN dL_looks_58 (by omega) (by omega) (by omega) ?_
      refine r_callV (As := [.int (nI ((w / 9))), .int (nI ((w % 9)))]) dL_looks_59 (fM_isI (v' := (pOfDrum g n (w / 9) (w % 9))) (tZ_drumOf hA hC (by omega) (by omega)) rfl) rfl hC.1 rfl rfl oX8_drumOfZ rfl kL_19M nX8_drumOfZ eX8_drumOfZ (by unfold fRoom; decide) (Nat.le_of_ble_eq_true rfl) rfl (bc' := 0) (bs' := 0) rfl rfl ?_
      show fR _ _ _ 62 _ (.int (pOfDrum g n (w / 9) (w % 9)) :: _) _ _ _ _
      refine r_i2l dL_looks_62 ?_
      refine r_ladd dL_looks_63 ?_
      refine r_lstore_n (lv' := [(1, .long (((31 * (mxs (fun t => pOfDrum g n (t / 9) (t % 9)) w h0)) + ((pOfDrum g n (w / 9) (w % 9))).toInt64))), (3, .int (nI (w))), (0, .ref (ad 254))]) dL_looks_64 (by decide) rfl ?_
      refine r_iinc (v := (nI (w + 1))) (lv' := [(3, .int (nI (w + 1))), (1, .long (((31 * (mxs (fun t => pOfDrum g n (t / 9) (t % 9)) w h0)) + ((pOfDrum g n (w / 9) (w % 9))).toInt64))), (0, .ref (ad 254))]) dL_looks_65 rfl (nI_inc _) (by decide) rfl ?_
      refine r_goto (tgt := 33) dL_looks_68 (by decide) ?_
      refine r_lv (lv' := [(3, .int (nI (w + 1))), (1, .long (((31 * (mxs (fun t => pOfDrum g n (t / 9) (t % 9)) w h0)) + ((pOfDrum g n (w / 9) (w % 9))).toInt64))), (0, .ref (ad 254))]) (by simp) ?_
      exact ih (w + 1) (by omega)
theorem lL_look3i {l : Launch} {κ : KP} {M : Mem} {ad : Nat → Nat} {g tx : Nat → Int32} {dn n sn ln : Nat} {kp : Bool} (hA : aInj ad) (hC : ClsAt κ ad M ⟨g, sn, kp, tx, ln⟩ dn n) {h0 : Int64} {j : Nat} (hj9 : j < 9 * n) {P : FPost} (kk : fR l κ mL_looks 142 [(4, .int (nI (4))), (3, .int (nI (j))), (1, .long ((mxs (fun t => rdF g (j / 9) (j % 9) t) 4 h0))), (0, .ref (ad 254))] [] M 0 0 P) : ∀ (N w : Nat), N + w = 4 → fR l κ mL_looks 108 [(4, .int (nI (w))), (3, .int (nI (j))), (1, .long ((mxs (fun t => rdF g (j / 9) (j % 9) t) w h0))), (0, .ref (ad 254))] [] M 0 0 P := by
  have hI : BI g dn n := hC.2.2.1
  have hdn := hI.dle
  have hn := hI.nle
  have hsn : sn ≤ 6 := hC.2.1.s6
  intro N
  induction N with
  | zero =>
    intro w hj
    refine r_iload dL_looks_108 rfl ?_
    refine r_iconst (v := nI 4) dL_looks_110 (by decide) ?_
    refine r_icmp_geN (tgt := 142) dL_looks_111 (by decide) (by omega) (by omega) (fun c1 => ?_) (fun c1 => ?_)
    · skip
      have ej : w = 4 := by omega
      rw [ej]
      skip
      exact kk
    · exact absurd c1 (by omega)
  | succ N ih =>
    intro w hj
    refine r_iload dL_looks_108 rfl ?_
    refine r_iconst (v := nI 4) dL_looks_110 (by decide) ?_
    refine r_icmp_geN (tgt := 142) dL_looks_111 (by decide) (by omega) (by omega) (fun c1 => ?_) (fun c1 => ?_)
    · exact absurd c1 (by omega)
    · skip
      refine r_ldc2 dL_looks_114 kL_11K ?_
      refine r_lload_n dL_looks_117 rfl ?_
      refine r_lmul dL_looks_118 ?_
      refine r_aload_n dL_looks_119 rfl ?_
      refine r_iload_n dL_looks_120 rfl ?_
      refine r_bipush (v := nI 9) dL_looks_121 (by decide) ?_
      refine r_idivN dL_looks_123 (by omega) (by omega) (by omega) ?_
      refine r_iload_n dL_looks_124 rfl ?_
      refine r_bipush (v := nI 9) dL_looks_125 (by decide) ?_
      refine r_iremN dL_looks_127 (by omega) (by omega) (by omega) ?_
      refine r_iload dL_looks_128 rfl ?_
      refine r_callV (As := [.int (nI ((j / 9))), .int (nI ((j % 9))), .int (nI (w))]) dL_looks_130 (fM_isI (v' := (rdF g (j / 9) (j % 9) w)) (tZ_rd hA hC (by omega) (by omega) (by omega)) rfl) rfl hC.1 rfl rfl oX8_readingZ rfl kL_26M nX8_readingZ eX8_readingZ (by unfold fRoom; decide) (Nat.le_of_ble_eq_true rfl) rfl (bc' := 0) (bs' := 0) rfl rfl ?_
      show fR _ _ _ 133 _ (.int (rdF g (j / 9) (j % 9) w) :: _) _ _ _ _
      refine r_i2l dL_looks_133 ?_
      refine r_ladd dL_looks_134 ?_
      refine r_lstore_n (lv' := [(1, .long (((31 * (mxs (fun t => rdF g (j / 9) (j % 9) t) w h0)) + ((rdF g (j / 9) (j % 9) w)).toInt64))), (4, .int (nI (w))), (3, .int (nI (j))), (0, .ref (ad 254))]) dL_looks_135 (by decide) rfl ?_
      refine r_iinc (v := (nI (w + 1))) (lv' := [(4, .int (nI (w + 1))), (1, .long (((31 * (mxs (fun t => rdF g (j / 9) (j % 9) t) w h0)) + ((rdF g (j / 9) (j % 9) w)).toInt64))), (3, .int (nI (j))), (0, .ref (ad 254))]) dL_looks_136 rfl (nI_inc _) (by decide) rfl ?_
      refine r_goto (tgt := 108) dL_looks_139 (by decide) ?_
      refine r_lv (lv' := [(4, .int (nI (w + 1))), (3, .int (nI (j))), (1, .long (((31 * (mxs (fun t => rdF g (j / 9) (j % 9) t) w h0)) + ((rdF g (j / 9) (j % 9) w)).toInt64))), (0, .ref (ad 254))]) (by simp) ?_
      exact ih (w + 1) (by omega)
theorem lL_look3 {l : Launch} {κ : KP} {M : Mem} {ad : Nat → Nat} {g tx : Nat → Int32} {dn n sn ln : Nat} {kp : Bool} (hA : aInj ad) (hC : ClsAt κ ad M ⟨g, sn, kp, tx, ln⟩ dn n) {h0 : Int64} {P : FPost} (kk : fR l κ mL_looks 148 [(3, .int (nI ((9 * n)))), (1, .long ((mxF (lkS g) (9 * n) h0))), (0, .ref (ad 254))] [] M 0 0 P) : ∀ (N w : Nat), N + w = (9 * n) → fR l κ mL_looks 73 [(3, .int (nI (w))), (1, .long ((mxF (lkS g) w h0))), (0, .ref (ad 254))] [] M 0 0 P := by
  have hI : BI g dn n := hC.2.2.1
  have hdn := hI.dle
  have hn := hI.nle
  have hsn : sn ≤ 6 := hC.2.1.s6
  intro N
  induction N with
  | zero =>
    intro w hj
    refine r_iload_n dL_looks_73 rfl ?_
    refine r_bipush (v := nI 9) dL_looks_74 (by decide) ?_
    refine r_aload_n dL_looks_76 rfl ?_
    refine r_iconst (v := nI 1) dL_looks_77 (by decide) ?_
    refine r_callV (As := [.int (nI (1))]) dL_looks_78 (fM_isI (v' := nI (n)) (tZ_count hA hC (by omega)) hI.n0) rfl hC.1 rfl rfl oX8_countZ rfl kL_13M nX8_countZ eX8_countZ (by unfold fRoom; decide) (Nat.le_of_ble_eq_true rfl) rfl (bc' := 0) (bs' := 0) rfl rfl ?_
    show fR _ _ _ 81 _ (.int (nI (n)) :: _) _ _ _ _
    refine r_imulN dL_looks_81 ?_
    refine r_icmp_geN (tgt := 148) dL_looks_82 (by decide) (by omega) (by omega) (fun c1 => ?_) (fun c1 => ?_)
    · skip
      have ej : w = (9 * n) := by omega
      rw [ej]
      skip
      exact kk
    · exact absurd c1 (by omega)
  | succ N ih =>
    intro w hj
    refine r_iload_n dL_looks_73 rfl ?_
    refine r_bipush (v := nI 9) dL_looks_74 (by decide) ?_
    refine r_aload_n dL_looks_76 rfl ?_
    refine r_iconst (v := nI 1) dL_looks_77 (by decide) ?_
    refine r_callV (As := [.int (nI (1))]) dL_looks_78 (fM_isI (v' := nI (n)) (tZ_count hA hC (by omega)) hI.n0) rfl hC.1 rfl rfl oX8_countZ rfl kL_13M nX8_countZ eX8_countZ (by unfold fRoom; decide) (Nat.le_of_ble_eq_true rfl) rfl (bc' := 0) (bs' := 0) rfl rfl ?_
    show fR _ _ _ 81 _ (.int (nI (n)) :: _) _ _ _ _
    refine r_imulN dL_looks_81 ?_
    refine r_icmp_geN (tgt := 148) dL_looks_82 (by decide) (by omega) (by omega) (fun c1 => ?_) (fun c1 => ?_)
    · exact absurd c1 (by omega)
    · skip
      refine r_ldc2 dL_looks_85 kL_11K ?_
      refine r_lload_n dL_looks_88 rfl ?_
      refine r_lmul dL_looks_89 ?_
      refine r_aload_n dL_looks_90 rfl ?_
      refine r_iload_n dL_looks_91 rfl ?_
      refine r_bipush (v := nI 9) dL_looks_92 (by decide) ?_
      refine r_idivN dL_looks_94 (by omega) (by omega) (by omega) ?_
      refine r_iload_n dL_looks_95 rfl ?_
      refine r_bipush (v := nI 9) dL_looks_96 (by decide) ?_
      refine r_iremN dL_looks_98 (by omega) (by omega) (by omega) ?_
      refine r_callV (As := [.int (nI ((w / 9))), .int (nI ((w % 9)))]) dL_looks_99 (fM_isI (v' := (pOfSample g (w / 9) (w % 9))) (tZ_sampleOf hA hC (by omega) (by omega)) rfl) rfl hC.1 rfl rfl oX8_sampleOfZ rfl kL_23M nX8_sampleOfZ eX8_sampleOfZ (by unfold fRoom; decide) (Nat.le_of_ble_eq_true rfl) rfl (bc' := 0) (bs' := 0) rfl rfl ?_
      show fR _ _ _ 102 _ (.int (pOfSample g (w / 9) (w % 9)) :: _) _ _ _ _
      refine r_i2l dL_looks_102 ?_
      refine r_ladd dL_looks_103 ?_
      refine r_lstore_n (lv' := [(1, .long (((31 * (mxF (lkS g) w h0)) + ((pOfSample g (w / 9) (w % 9))).toInt64))), (3, .int (nI (w))), (0, .ref (ad 254))]) dL_looks_104 (by decide) rfl ?_
      refine r_iconst (v := nI 0) dL_looks_105 (by decide) ?_
      refine r_istore (lv' := [(4, .int (nI (0))), (1, .long (((31 * (mxF (lkS g) w h0)) + ((pOfSample g (w / 9) (w % 9))).toInt64))), (3, .int (nI (w))), (0, .ref (ad 254))]) dL_looks_106 (by decide) rfl ?_
      refine r_lv (lv' := [(4, .int (nI (0))), (3, .int (nI (w))), (1, .long (((31 * (mxF (lkS g) w h0)) + ((pOfSample g (w / 9) (w % 9))).toInt64))), (0, .ref (ad 254))]) (by simp) ?_
      refine lL_look3i hA hC (by omega) ?_ 4 0 rfl
      refine r_iinc (v := nI (w + 1)) (lv' := [(3, .int (nI (w + 1))), (4, .int (nI 4)), (1, .long (mxF (lkS g) (w + 1) h0)), (0, .ref (ad 254))]) dL_looks_142 rfl (nI_inc _) (by decide) rfl ?_
      refine r_goto (tgt := 73) dL_looks_145 (by decide) ?_
      refine r_lv (lv' := [(3, .int (nI (w + 1))), (1, .long (mxF (lkS g) (w + 1) h0)), (0, .ref (ad 254))]) (by simp) ?_
      exact ih (w + 1) (by omega)
theorem lL_look4 {l : Launch} {κ : KP} {M : Mem} {ad : Nat → Nat} {g tx : Nat → Int32} {dn n sn ln : Nat} {kp : Bool} (hA : aInj ad) (hC : ClsAt κ ad M ⟨g, sn, kp, tx, ln⟩ dn n) {h0 : Int64} {P : FPost} (kk : fR l κ mL_looks 196 [(3, .int (nI (9))), (1, .long ((mxF (lkT g n) 9 h0))), (0, .ref (ad 254))] [] M 0 0 P) : ∀ (N w : Nat), N + w = 9 → fR l κ mL_looks 150 [(3, .int (nI (w))), (1, .long ((mxF (lkT g n) w h0))), (0, .ref (ad 254))] [] M 0 0 P := by
  have hI : BI g dn n := hC.2.2.1
  have hdn := hI.dle
  have hn := hI.nle
  have hsn : sn ≤ 6 := hC.2.1.s6
  intro N
  induction N with
  | zero =>
    intro w hj
    refine r_iload_n dL_looks_150 rfl ?_
    refine r_bipush (v := nI 9) dL_looks_151 (by decide) ?_
    refine r_icmp_geN (tgt := 196) dL_looks_153 (by decide) (by omega) (by omega) (fun c1 => ?_) (fun c1 => ?_)
    · skip
      have ej : w = 9 := by omega
      rw [ej]
      skip
      exact kk
    · exact absurd c1 (by omega)
  | succ N ih =>
    intro w hj
    refine r_iload_n dL_looks_150 rfl ?_
    refine r_bipush (v := nI 9) dL_looks_151 (by decide) ?_
    refine r_icmp_geN (tgt := 196) dL_looks_153 (by decide) (by omega) (by omega) (fun c1 => ?_) (fun c1 => ?_)
    · exact absurd c1 (by omega)
    · skip
      refine r_ldc2 dL_looks_156 kL_11K ?_
      refine r_ldc2 dL_looks_159 kL_11K ?_
      refine r_lload_n dL_looks_162 rfl ?_
      refine r_lmul dL_looks_163 ?_
      refine r_aload_n dL_looks_164 rfl ?_
      refine r_iload_n dL_looks_165 rfl ?_
      refine r_iconst (v := nI 3) dL_looks_166 (by decide) ?_
      refine r_idivN dL_looks_167 (by omega) (by omega) (by omega) ?_
      refine r_iload_n dL_looks_168 rfl ?_
      refine r_iconst (v := nI 3) dL_looks_169 (by decide) ?_
      refine r_iremN dL_looks_170 (by omega) (by omega) (by omega) ?_
      refine r_callV (As := [.int (nI ((w / 3))), .int (nI ((w % 3)))]) dL_looks_171 (fM_isI (v' := (g (31 + 3 * (w / 3) + (w % 3)))) (tZ_needle hA hC (by omega) (by omega)) rfl) rfl hC.1 rfl rfl oX8_needleZ rfl kL_30M nX8_needleZ eX8_needleZ (by unfold fRoom; decide) (Nat.le_of_ble_eq_true rfl) rfl (bc' := 0) (bs' := 0) rfl rfl ?_
      show fR _ _ _ 174 _ (.int (g (31 + 3 * (w / 3) + (w % 3))) :: _) _ _ _ _
      refine r_i2l dL_looks_174 ?_
      refine r_ladd dL_looks_175 ?_
      refine r_lmul dL_looks_176 ?_
      refine r_aload_n dL_looks_177 rfl ?_
      refine r_iload_n dL_looks_178 rfl ?_
      refine r_iconst (v := nI 3) dL_looks_179 (by decide) ?_
      refine r_idivN dL_looks_180 (by omega) (by omega) (by omega) ?_
      refine r_iload_n dL_looks_181 rfl ?_
      refine r_iconst (v := nI 3) dL_looks_182 (by decide) ?_
      refine r_iremN dL_looks_183 (by omega) (by omega) (by omega) ?_
      refine r_callV (As := [.int (nI ((w / 3))), .int (nI ((w % 3)))]) dL_looks_184 (fM_isI (v' := (pOfBath g n (w / 3) (w % 3))) (tZ_bathOf hA hC (by omega) (by omega)) rfl) rfl hC.1 rfl rfl oX8_bathOfZ rfl kL_33M nX8_bathOfZ eX8_bathOfZ (by unfold fRoom; decide) (Nat.le_of_ble_eq_true rfl) rfl (bc' := 0) (bs' := 0) rfl rfl ?_
      show fR _ _ _ 187 _ (.int (pOfBath g n (w / 3) (w % 3)) :: _) _ _ _ _
      refine r_i2l dL_looks_187 ?_
      refine r_ladd dL_looks_188 ?_
      refine r_lstore_n (lv' := [(1, .long (((31 * ((31 * (mxF (lkT g n) w h0)) + ((g (31 + 3 * (w / 3) + (w % 3)))).toInt64)) + ((pOfBath g n (w / 3) (w % 3))).toInt64))), (3, .int (nI (w))), (0, .ref (ad 254))]) dL_looks_189 (by decide) rfl ?_
      refine r_iinc (v := (nI (w + 1))) (lv' := [(3, .int (nI (w + 1))), (1, .long (((31 * ((31 * (mxF (lkT g n) w h0)) + ((g (31 + 3 * (w / 3) + (w % 3)))).toInt64)) + ((pOfBath g n (w / 3) (w % 3))).toInt64))), (0, .ref (ad 254))]) dL_looks_190 rfl (nI_inc _) (by decide) rfl ?_
      refine r_goto (tgt := 150) dL_looks_193 (by decide) ?_
      refine r_lv (lv' := [(3, .int (nI (w + 1))), (1, .long (((31 * ((31 * (mxF (lkT g n) w h0)) + ((g (31 + 3 * (w / 3) + (w % 3)))).toInt64)) + ((pOfBath g n (w / 3) (w % 3))).toInt64))), (0, .ref (ad 254))]) (by simp) ?_
      exact ih (w + 1) (by omega)
theorem lL_look5 {l : Launch} {κ : KP} {M : Mem} {ad : Nat → Nat} {g tx : Nat → Int32} {dn n sn ln : Nat} {kp : Bool} (hA : aInj ad) (hC : ClsAt κ ad M ⟨g, sn, kp, tx, ln⟩ dn n) {h4 : Int64} (e : lk4 g dn n = h4) : fR l κ mL_looks 196 [(3, .int (nI (9))), (1, .long (h4)), (0, .ref (ad 254))] [] M 0 0 ((isR (some (.long (lookF g dn n))) M)) := by
  have hI : BI g dn n := hC.2.2.1
  have hdn := hI.dle
  have hn := hI.nle
  have hsn : sn ≤ 6 := hC.2.1.s6
  refine r_ldc2 dL_looks_196 kL_11K ?_
  refine r_ldc2 dL_looks_199 kL_11K ?_
  refine r_lload_n dL_looks_202 rfl ?_
  refine r_lmul dL_looks_203 ?_
  refine r_aload_n dL_looks_204 rfl ?_
  refine r_iconst (v := nI 0) dL_looks_205 (by decide) ?_
  refine r_callV (As := [.int (nI (0))]) dL_looks_206 (fM_isI (v' := (g (8 + 0))) (tZ_stopped hA hC (by omega)) rfl) rfl hC.1 rfl rfl oX8_stoppedZ rfl kL_36M nX8_stoppedZ eX8_stoppedZ (by unfold fRoom; decide) (Nat.le_of_ble_eq_true rfl) rfl (bc' := 0) (bs' := 0) rfl rfl ?_
  show fR _ _ _ 209 _ (.int (g (8 + 0)) :: _) _ _ _ _
  refine r_i2l dL_looks_209 ?_
  refine r_ladd dL_looks_210 ?_
  refine r_lmul dL_looks_211 ?_
  refine r_aload_n dL_looks_212 rfl ?_
  refine r_iconst (v := nI 1) dL_looks_213 (by decide) ?_
  refine r_callV (As := [.int (nI (1))]) dL_looks_214 (fM_isI (v' := (g (8 + 1))) (tZ_stopped hA hC (by omega)) rfl) rfl hC.1 rfl rfl oX8_stoppedZ rfl kL_36M nX8_stoppedZ eX8_stoppedZ (by unfold fRoom; decide) (Nat.le_of_ble_eq_true rfl) rfl (bc' := 0) (bs' := 0) rfl rfl ?_
  show fR _ _ _ 217 _ (.int (g (8 + 1)) :: _) _ _ _ _
  refine r_i2l dL_looks_217 ?_
  refine r_ladd dL_looks_218 ?_
  exact fR_lret dL_looks_219 rfl ⟨by unfold lookF; rw [e]; rfl, rfl⟩
theorem lL_look4s {l : Launch} {κ : KP} {M : Mem} {ad : Nat → Nat} {g tx : Nat → Int32} {dn n sn ln : Nat} {kp : Bool} (hA : aInj ad) (hC : ClsAt κ ad M ⟨g, sn, kp, tx, ln⟩ dn n) {h3 : Int64} (e : lk3 g dn n = h3) : fR l κ mL_looks 148 [(3, .int (nI ((9 * n)))), (1, .long (h3)), (0, .ref (ad 254))] [] M 0 0 (isR (some (.long (lookF g dn n))) M) := by
  have hI : BI g dn n := hC.2.2.1
  have hdn := hI.dle
  have hn := hI.nle
  have hsn : sn ≤ 6 := hC.2.1.s6
  refine r_iconst (v := nI 0) dL_looks_148 (by decide) ?_
  refine r_istore_n (lv' := [(3, .int (nI (0))), (1, .long (h3)), (0, .ref (ad 254))]) dL_looks_149 (by decide) rfl ?_
  refine r_lv (lv' := [(3, .int (nI (0))), (1, .long (h3)), (0, .ref (ad 254))]) (by simp) ?_
  refine lL_look4 hA hC ?_ 9 0 (by omega)
  exact lL_look5 hA hC (by rw [← e]; rfl)
theorem lL_look3s {l : Launch} {κ : KP} {M : Mem} {ad : Nat → Nat} {g tx : Nat → Int32} {dn n sn ln : Nat} {kp : Bool} (hA : aInj ad) (hC : ClsAt κ ad M ⟨g, sn, kp, tx, ln⟩ dn n) {h2 : Int64} (e : lk2 g dn n = h2) : fR l κ mL_looks 71 [(3, .int (nI ((9 * dn)))), (1, .long (h2)), (0, .ref (ad 254))] [] M 0 0 (isR (some (.long (lookF g dn n))) M) := by
  have hI : BI g dn n := hC.2.2.1
  have hdn := hI.dle
  have hn := hI.nle
  have hsn : sn ≤ 6 := hC.2.1.s6
  refine r_iconst (v := nI 0) dL_looks_71 (by decide) ?_
  refine r_istore_n (lv' := [(3, .int (nI (0))), (1, .long (h2)), (0, .ref (ad 254))]) dL_looks_72 (by decide) rfl ?_
  refine r_lv (lv' := [(3, .int (nI (0))), (1, .long (h2)), (0, .ref (ad 254))]) (by simp) ?_
  refine lL_look3 hA hC ?_ (9 * n) 0 (by omega)
  exact lL_look4s hA hC (by rw [← e]; rfl)
theorem lL_look2s {l : Launch} {κ : KP} {M : Mem} {ad : Nat → Nat} {g tx : Nat → Int32} {dn n sn ln : Nat} {kp : Bool} (hA : aInj ad) (hC : ClsAt κ ad M ⟨g, sn, kp, tx, ln⟩ dn n) {h1 : Int64} (e : lk1 g dn n = h1) : fR l κ mL_looks 31 [(3, .int (nI (11))), (1, .long (h1)), (0, .ref (ad 254))] [] M 0 0 (isR (some (.long (lookF g dn n))) M) := by
  have hI : BI g dn n := hC.2.2.1
  have hdn := hI.dle
  have hn := hI.nle
  have hsn : sn ≤ 6 := hC.2.1.s6
  refine r_iconst (v := nI 0) dL_looks_31 (by decide) ?_
  refine r_istore_n (lv' := [(3, .int (nI (0))), (1, .long (h1)), (0, .ref (ad 254))]) dL_looks_32 (by decide) rfl ?_
  refine r_lv (lv' := [(3, .int (nI (0))), (1, .long (h1)), (0, .ref (ad 254))]) (by simp) ?_
  refine lL_look2 hA hC ?_ (9 * dn) 0 (by omega)
  exact lL_look3s hA hC (by rw [← e]; rfl)
theorem tL_looks {l : Launch} {κ : KP} {M : Mem} {ad : Nat → Nat} {g tx : Nat → Int32} {dn n sn ln : Nat} {kp : Bool} (hA : aInj ad) (hC : ClsAt κ ad M ⟨g, sn, kp, tx, ln⟩ dn n) : fM l κ mL_looks [.ref (ad 254)] M (isR (some (.long (lookF g dn n))) M) := by
  refine fM_of rfl (by decide +kernel) (Nat.le_of_ble_eq_true rfl) ?_
  show fR l κ mL_looks 0 [(0, .ref (ad 254))] [] M 0 0 _
  obtain ⟨h0, e⟩ : ∃ h0 : Int64, 101 = h0 := ⟨_, rfl⟩
  refine r_ldc2 dL_looks_0 kL_9K ?_
  rw [e]
  refine r_lstore_n (lv' := [(1, .long (h0)), (0, .ref (ad 254))]) dL_looks_3 (by decide) rfl ?_
  refine r_iconst (v := nI 0) dL_looks_4 (by decide) ?_
  refine r_istore_n (lv' := [(3, .int (nI (0))), (1, .long (h0)), (0, .ref (ad 254))]) dL_looks_5 (by decide) rfl ?_
  refine r_lv (lv' := [(3, .int (nI (0))), (1, .long (h0)), (0, .ref (ad 254))]) (by simp) ?_
  refine lL_look1 hA hC (h0 := h0) ?_ 11 0 rfl
  exact lL_look2s hA hC (by rw [← e]; rfl)
