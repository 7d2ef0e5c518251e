/-! DOUBLES: the share and its bits -/
def n64b (r : UInt64) : Bool := decide (r &&& 0x7fffffffffffffff ≤ 0x7ff0000000000000)
theorem n64_of {r : UInt64} (h : n64b r = true) : vf_n64 r := by
  unfold n64b at h
  exact (of_decide_eq_true h : r &&& 0x7fffffffffffffff ≤ 0x7ff0000000000000)
def shD (p n : Nat) : UInt64 := if n = 0 then FP.dconst1 else FP.ddiv (FP.i2d (nI p)) (FP.i2d (nI n))
def bRl : Nat → UInt64 → Int64 → Int64
  | 0, _, _ => 0
  | N + 1, v, e => if Op.cmpValue (FP.dcmp v FP.dconst1) .g < 0 then bRl N (FP.dmul v 4611686018427387904) (e - 1) else e * 4503599627370496 + FP.d2l (FP.dmul (FP.dsub v FP.dconst1) 4841369599423283200)
def bCl : Nat → UInt64 → Int64 → Int64
  | 0, _, _ => 0
  | N + 1, v, e => if Op.cmpValue (FP.dcmp v FP.dconst1) .g < 0 then bCl N (FP.dmul v 4611686018427387904) (e - 1) else e <<< ((nI 52).toInt64 &&& 63) + FP.d2l (FP.dmul (FP.dsub v FP.dconst1) 4841369599423283200)
def bOk : Nat → UInt64 → Bool
  | 0, _ => false
  | N + 1, v => if Op.cmpValue (FP.dcmp v FP.dconst1) .g < 0 then n64b (FP.dmul v 4611686018427387904) && bOk N (FP.dmul v 4611686018427387904) else n64b (FP.dsub v FP.dconst1) && n64b (FP.dmul (FP.dsub v FP.dconst1) 4841369599423283200)
def bR (x : UInt64) : Int64 := if Op.cmpValue (FP.dcmp x FP.dconst0) .l = 0 then 0 else bRl 5 x 1023
def bC (x : UInt64) : Int64 := if 0 < Op.cmpValue (FP.dcmp x FP.dconst0) .g then bCl 5 x 1023 else 0
def shOk (p n : Nat) : Bool := n64b (shD p n) && bOk 5 (shD p n) && decide (bR (shD p n) = bC (shD p n)) && decide (Op.cmpValue (FP.dcmp (shD p n) (shD p n)) .l = 0)
theorem shOk_all : ((List.range 9).all fun n => (List.range 9).all fun p => !(decide (p ≤ n)) || (decide (p = 0) && (n64b (shD p n) && decide (bR (shD p n) = bC (shD p n)) && decide (Op.cmpValue (FP.dcmp (shD p n) (shD p n)) .l = 0) && decide (Op.cmpValue (FP.dcmp (shD p n) FP.dconst0) .l = 0 ∨ n = 0) && (bOk 5 (shD p n) || decide (¬ n = 0)) && decide (¬ 0 < Op.cmpValue (FP.dcmp (shD p n) FP.dconst0) .g ∨ n = 0)) || shOk p n)) = true := by decide +kernel
theorem shOk_at {p n : Nat} (h : p ≤ n) (hn : n ≤ 8) : n64b (shD p n) = true ∧ bR (shD p n) = bC (shD p n) ∧ Op.cmpValue (FP.dcmp (shD p n) (shD p n)) .l = 0 ∧ (¬ Op.cmpValue (FP.dcmp (shD p n) FP.dconst0) .l = 0 → bOk 5 (shD p n) = true) ∧ (0 < Op.cmpValue (FP.dcmp (shD p n) FP.dconst0) .g → bOk 5 (shD p n) = true) := by
  have h1 := List.all_eq_true.mp (List.all_eq_true.mp shOk_all n (List.mem_range.mpr (by omega))) p (List.mem_range.mpr (by omega))
  simp only [decide_eq_true h, Bool.not_true, Bool.false_or, Bool.or_eq_true, Bool.and_eq_true, decide_eq_true_eq, shOk] at h1
  rcases h1 with ⟨h0, ⟨⟨⟨⟨a, b⟩, c⟩, d⟩, e⟩, f⟩ | ⟨⟨⟨a, b⟩, c⟩, d⟩
  · refine ⟨a, b, c, fun z => ?_, fun z => ?_⟩
    · rcases d with d | d
      · exact absurd d z
      · rcases e with e | e
        · exact e
        · exact absurd d e
    · rcases f with f | f
      · exact absurd z f
      · rcases e with e | e
        · exact e
        · exact absurd f e
  · exact ⟨a, c, d, fun _ => b, fun _ => b⟩
theorem lX9_bits {l : Launch} {κ : KP} {M : Mem} {x : UInt64} : ∀ (N : Nat) (v : UInt64) (e : Int64), bOk N v = true → fR l κ mX9_bits 15 [(4, .long (e)), (2, .double (v)), (0, .double (x))] [] M 0 0 (isR (some (.long (bRl N v e))) M) := by
  intro N
  induction N with
  | zero => intro v e h; cases h
  | succ N ih =>
    intro v e hok
    refine r_dload_n dX9_bits_15 rfl ?_
    refine r_dconst1 dX9_bits_16 ?_
    refine r_dcmp dX9_bits_17 ?_
    refine r_if_ge (tgt := 36) dX9_bits_18 (by decide) (fun c1 => ?_) (fun c1 => ?_)
    · skip
      have hge := c1
      unfold bOk at hok
      rw [if_neg (Int32.not_lt.mpr hge)] at hok
      have hk := Bool.and_eq_true_iff.mp hok
      refine r_lload dX9_bits_36 rfl ?_
      refine r_ldc2 dX9_bits_38 kX9_224K ?_
      refine r_lmul dX9_bits_41 ?_
      refine r_dload_n dX9_bits_42 rfl ?_
      refine r_dconst1 dX9_bits_43 ?_
      refine r_dsub dX9_bits_44 (n64_of (hk.1)) ?_
      refine r_ldc2d dX9_bits_45 kX9_226K ?_
      refine r_dmul dX9_bits_48 (n64_of (hk.2)) ?_
      refine r_d2l dX9_bits_49 ?_
      refine r_ladd dX9_bits_50 ?_
      have eb : bRl (N + 1) v e = e * 4503599627370496 + FP.d2l (FP.dmul (FP.dsub v FP.dconst1) 4841369599423283200) := if_neg (Int32.not_lt.mpr hge)
      rw [eb]
      exact fR_lret dX9_bits_51 rfl isR_of
    · skip
      have hlt := c1
      rw [show bOk (N + 1) v = _ from rfl] at hok
      unfold bOk at hok
      rw [if_pos (Int32.not_le.mp hlt)] at hok
      have hk := Bool.and_eq_true_iff.mp hok
      refine r_dload_n dX9_bits_21 rfl ?_
      refine r_ldc2d dX9_bits_22 kX9_222K ?_
      refine r_dmul dX9_bits_25 (n64_of (hk.1)) ?_
      refine r_dstore_n (lv' := [(2, .double ((FP.dmul v 4611686018427387904))), (4, .long (e)), (0, .double (x))]) dX9_bits_26 (by decide) rfl ?_
      refine r_lload dX9_bits_27 rfl ?_
      refine r_lconst (v := 1) dX9_bits_29 (by decide) ?_
      refine r_lsub dX9_bits_30 ?_
      refine r_lstore (lv' := [(4, .long ((e - 1))), (2, .double ((FP.dmul v 4611686018427387904))), (0, .double (x))]) dX9_bits_31 (by decide) rfl ?_
      refine r_goto (tgt := 15) dX9_bits_33 (by decide) ?_
      have eb : bRl (N + 1) v e = bRl N (FP.dmul v 4611686018427387904) (e - 1) := if_pos (Int32.not_le.mp hlt)
      rw [eb]
      refine r_lv (lv' := [(4, .long ((e - 1))), (2, .double ((FP.dmul v 4611686018427387904))), (0, .double (x))]) (by simp) ?_
      exact ih _ _ hk.2
theorem tX9_bits {l : Launch} {κ : KP} {M : Mem} {x : UInt64} (hok : ¬ Op.cmpValue (FP.dcmp x FP.dconst0) .l = 0 → bOk 5 x = true) : fM l κ mX9_bits [.double (x)] M (isR (some (.long (bR x))) M) := by
  refine fM_of rfl (by decide +kernel) (Nat.le_of_ble_eq_true rfl) ?_
  show fR l κ mX9_bits 0 [(0, .double (x))] [] M 0 0 _
  refine r_dload_n dX9_bits_0 rfl ?_
  refine r_dconst0 dX9_bits_1 ?_
  refine r_dcmp dX9_bits_2 ?_
  refine r_if_ne (tgt := 8) dX9_bits_3 (by decide) (fun c1 => ?_) (fun c1 => ?_)
  · skip
    refine r_dload_n dX9_bits_8 rfl ?_
    refine r_dstore_n (lv' := [(2, .double (x)), (0, .double (x))]) dX9_bits_9 (by decide) rfl ?_
    refine r_ldc2 dX9_bits_10 kX9_220K ?_
    refine r_lstore (lv' := [(4, .long (1023)), (2, .double (x)), (0, .double (x))]) dX9_bits_13 (by decide) rfl ?_
    refine r_lv (lv' := [(4, .long (1023)), (2, .double (x)), (0, .double (x))]) (by simp) ?_
    rw [show bR x = bRl 5 x 1023 from if_neg (by assumption)]
    exact lX9_bits 5 x 1023 (hok (by assumption))
  · skip
    refine r_lconst (v := 0) dX9_bits_6 (by decide) ?_
    rw [show bR x = 0 from if_pos (by assumption)]
    exact fR_lret dX9_bits_7 rfl isR_of
theorem lX8_bits {l : Launch} {κ : KP} {M : Mem} {x : UInt64} : ∀ (N : Nat) (v : UInt64) (e : Int64) (i : Nat), N + i < 64 → bOk N v = true → fR l κ mX8_bitsOf 18 [(6, .int (nI (i))), (4, .long (e)), (2, .double (v)), (0, .double (x))] [] M 0 0 (isR (some (.long (bCl N v e))) M) := by
  intro N
  induction N with
  | zero => intro v e i h0 h; cases h
  | succ N ih =>
    intro v e i h0 hok
    refine r_iload dX8_bitsOf_18 rfl ?_
    refine r_bipush (v := nI 64) dX8_bitsOf_20 (by decide) ?_
    refine r_icmp_geN (tgt := 49) dX8_bitsOf_22 (by decide) (by omega) (by omega) (fun c1 => ?_) (fun c1 => ?_)
    · exact absurd c1 (by omega)
    · skip
      refine r_dload_n dX8_bitsOf_25 rfl ?_
      refine r_dconst1 dX8_bitsOf_26 ?_
      refine r_dcmp dX8_bitsOf_27 ?_
      refine r_if_ge (tgt := 49) dX8_bitsOf_28 (by decide) (fun c2 => ?_) (fun c2 => ?_)
      · skip
        have hge := c2
        unfold bOk at hok
        rw [if_neg (Int32.not_lt.mpr hge)] at hok
        have hk := Bool.and_eq_true_iff.mp hok
        refine r_lload dX8_bitsOf_49 rfl ?_
        refine r_bipush (v := nI 52) dX8_bitsOf_51 (by decide) ?_
        refine r_lshl dX8_bitsOf_53 ?_
        refine r_dload_n dX8_bitsOf_54 rfl ?_
        refine r_dconst1 dX8_bitsOf_55 ?_
        refine r_dsub dX8_bitsOf_56 (n64_of hk.1) ?_
        refine r_ldc2d dX8_bitsOf_57 kX8_290K ?_
        refine r_dmul dX8_bitsOf_60 (n64_of hk.2) ?_
        refine r_d2l dX8_bitsOf_61 ?_
        refine r_ladd dX8_bitsOf_62 ?_
        have eb : bCl (N + 1) v e = e <<< ((nI 52).toInt64 &&& 63) + FP.d2l (FP.dmul (FP.dsub v FP.dconst1) 4841369599423283200) := if_neg (Int32.not_lt.mpr hge)
        rw [eb]
        exact fR_lret dX8_bitsOf_63 rfl isR_of
      · skip
        have hlt := c2
        rw [show bOk (N + 1) v = _ from rfl] at hok
        unfold bOk at hok
        rw [if_pos (Int32.not_le.mp hlt)] at hok
        have hk := Bool.and_eq_true_iff.mp hok
        refine r_dload_n dX8_bitsOf_31 rfl ?_
        refine r_ldc2d dX8_bitsOf_32 kX8_288K ?_
        refine r_dmul dX8_bitsOf_35 (n64_of hk.1) ?_
        refine r_dstore_n (lv' := [(2, .double ((FP.dmul v 4611686018427387904))), (6, .int (nI (i))), (4, .long (e)), (0, .double (x))]) dX8_bitsOf_36 (by decide) rfl ?_
        refine r_lload dX8_bitsOf_37 rfl ?_
        refine r_lconst (v := 1) dX8_bitsOf_39 (by decide) ?_
        refine r_lsub dX8_bitsOf_40 ?_
        refine r_lstore (lv' := [(4, .long ((e - 1))), (2, .double ((FP.dmul v 4611686018427387904))), (6, .int (nI (i))), (0, .double (x))]) dX8_bitsOf_41 (by decide) rfl ?_
        refine r_iinc (v := (nI (i + 1))) (lv' := [(6, .int (nI (i + 1))), (4, .long ((e - 1))), (2, .double ((FP.dmul v 4611686018427387904))), (0, .double (x))]) dX8_bitsOf_43 rfl (nI_inc _) (by decide) rfl ?_
        refine r_goto (tgt := 18) dX8_bitsOf_46 (by decide) ?_
        have eb : bCl (N + 1) v e = bCl N (FP.dmul v 4611686018427387904) (e - 1) := if_pos (Int32.not_le.mp hlt)
        rw [eb]
        refine r_lv (lv' := [(6, .int (nI (i + 1))), (4, .long ((e - 1))), (2, .double ((FP.dmul v 4611686018427387904))), (0, .double (x))]) (by simp) ?_
        exact ih _ _ (i + 1) (by omega) hk.2
theorem tX8_bitsOf {l : Launch} {κ : KP} {M : Mem} {x : UInt64} (hok : 0 < Op.cmpValue (FP.dcmp x FP.dconst0) .g → bOk 5 x = true) : fM l κ mX8_bitsOf [.double (x)] M (isR (some (.long (bC x))) M) := by
  refine fM_of rfl (by decide +kernel) (Nat.le_of_ble_eq_true rfl) ?_
  show fR l κ mX8_bitsOf 0 [(0, .double (x))] [] M 0 0 _
  refine r_dload_n dX8_bitsOf_0 rfl ?_
  refine r_dconst0 dX8_bitsOf_1 ?_
  refine r_dcmp dX8_bitsOf_2 ?_
  refine r_if_gt (tgt := 8) dX8_bitsOf_3 (by decide) (fun c1 => ?_) (fun c1 => ?_)
  · skip
    refine r_dload_n dX8_bitsOf_8 rfl ?_
    refine r_dstore_n (lv' := [(2, .double (x)), (0, .double (x))]) dX8_bitsOf_9 (by decide) rfl ?_
    refine r_ldc2 dX8_bitsOf_10 kX8_286K ?_
    refine r_lstore (lv' := [(4, .long (1023)), (2, .double (x)), (0, .double (x))]) dX8_bitsOf_13 (by decide) rfl ?_
    refine r_iconst (v := nI 0) dX8_bitsOf_15 (by decide) ?_
    refine r_istore (lv' := [(6, .int (nI (0))), (4, .long (1023)), (2, .double (x)), (0, .double (x))]) dX8_bitsOf_16 (by decide) rfl ?_
    refine r_lv (lv' := [(6, .int (nI (0))), (4, .long (1023)), (2, .double (x)), (0, .double (x))]) (by simp) ?_
    rw [show bC x = bCl 5 x 1023 from if_pos (by assumption)]
    exact lX8_bits 5 x 1023 0 (by omega) (hok (by assumption))
  · skip
    refine r_lconst (v := 0) dX8_bitsOf_6 (by decide) ?_
    rw [show bC x = 0 from if_neg (by assumption)]
    exact fR_lret dX8_bitsOf_7 rfl isR_of
