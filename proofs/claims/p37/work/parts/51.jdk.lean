/-! THE JDK'S OWN AND THE CLASS'S SMALL METHODS -/
section R51
variable {l : Launch} {κ : KP} {μ : MD} {pc : Nat} {lv : List (Nat × Value)} {st : List Value} {M : Mem} {bc bs : Nat} {P : FPost}
theorem r_iushr {x y : Int32} (d : decode (mB μ) pc = .ok (.iushr, 1)) (kk : fR l κ μ (pc + 1) lv (.int ((x.toUInt32 >>> (y.toUInt32 &&& Int32.toUInt32 31)).toInt32) :: st) M bc bs P) : fR l κ μ pc lv (.int y :: .int x :: st) M bc bs P := by
  intro p e s m args below meth c C H locs cells slots ls hW hS hl hc hs
  exact lv_iushr C.2.1 C.2.2.1 d rfl (kk p e s m args below meth c C H locs cells slots ls hW hS hl hc hs)
theorem r_ldcw {idx : Nat} {v : Int32} (d : decode (mB μ) pc = .ok (.ldc_w idx, 3)) (hw : Cond.constant (mY μ).cls idx v ∈ lw_tbl) (kk : fR l κ μ (pc + 3) lv (.int v :: st) M bc bs P) : fR l κ μ pc lv st M bc bs P := by
  intro p e s m args below meth c C H locs cells slots ls hW hS hl hc hs
  exact lv_ldcw C.2.1 C.2.2.1 C.2.2.2.2.2.1 (C.2.2.2.2.2.2.1 _ (lwG_of hw rfl)) d (kk p e s m args below meth c C H locs cells slots ls hW hS hl hc hs)
theorem vx_ofWF {y : MethodName} {ws ws' : List Cond} {rm : Room} {Pc : Array Value → State → Prop} {Qc : Array Value → State → Outcome → State → Prop} {XC : String → State → State → Prop} {mc ms : Nat} {free : Addr → Prop} {cc : ByteArray} {maxL : Nat} {ret : Option FieldType}
    (hy : plainFor y = true) (hw : ws = Cond.code y cc maxL ret :: ws')
    (body : ∀ p e s m args below meth c s₁, BodyLoose p l y (headSpec ws rm) cc maxL ret e s m args below meth c s₁ → c.maxLocals = maxL → (∀ x ∈ c.exceptionTable.toList, False) → Pc args s →
      W p l e (headSpec ws rm).room s m args below meth c s.heap [] 0 0 (vx_MQ below Qc XC args s mc ms free) (entryFrame m args maxL)) : vx_Met l y ws rm Pc Qc XC mc ms free := by
  refine MetFree.of_bodySF (code := cc) (maxLocals := maxL) (ret := ret) hy ?_ ?_
  · intro args s m h hn
    obtain ⟨meth, c, h1, h2, h3, h4, h5, h6, -, -⟩ := Cond.code_spec hn (atoms_spec (ws := ws) h _ (by rw [hw]; exact List.mem_cons_self))
    exact ⟨meth, c, h1, h2, h3, h4, h5, h6⟩
  · intro p e s m args below meth c s₁ B hml hP _
    have hh0 : s₁.heap = s.heap := by rw [B.state]; rfl
    have ht : ∀ x ∈ c.exceptionTable.toList, False := by
      obtain ⟨meth9, c9, h1, h2, -, -, -, -, h7, -⟩ := Cond.code_spec B.named (atoms_spec (ws := ws) B.pre _ (by rw [hw]; exact List.mem_cons_self))
      cases Option.some.inj (h1.symm.trans B.method)
      cases Option.some.inj (h2.symm.trans (Stand.of_body B).code)
      intro x hx
      rw [Array.isEmpty_iff.mp h7] at hx
      cases hx
    obtain ⟨t, a1, o, b1, b2, b3⟩ := body p e s m args below meth c s₁ B hml ht hP s₁ hh0 (Stand.of_body B)
    exact ⟨t, o, a1, b1, b2, b3⟩
theorem fM_ofF {av : List Value} (hH : mH μ = []) (hy : plainFor (mY μ) = true) (hn : (lg_sl av).length ≤ mL μ) (k : fR l κ μ 0 (lv_args 0 av) [] M (mR μ).cells (mR μ).slots P) : fM l κ μ av M P := by
  intro hl
  have hcode : fCode μ = Cond.code (mY μ) (mB μ) (mL μ) (mT μ) := by unfold fCode; rw [hH]
  rw [hcode]
  refine vx_ofWF (cc := mB μ) (maxL := mL μ) (ret := mT μ) hy rfl ?_
  intro p e s m args below meth c s₁ B hml htab hv
  obtain ⟨rfl, hW, hZ, hN, hO⟩ := hv
  have htl : c.exceptionTable.toList = tableOf (mH μ) := by
    rw [hH]
    cases ht : c.exceptionTable.toList with
    | nil => rfl
    | cons x t => exact (htab x (by rw [ht]; exact List.mem_cons_self)).elim
  have hts := atoms_spec (ws := Cond.code (mY μ) (mB μ) (mL μ) (mT μ) :: lwG) B.pre
  rw [lg_entry_eq]
  exact k p e s m av.toArray below meth c ⟨hl, B.exec, B.bytes, B.returns, hml, findClass_of_methodNamed B.named, fun w hw => hts w (List.mem_cons_of_mem _ hw), B.notSynchronized, (name_of_methodNamed B.named B.method).1, htl, hZ, hN, hO⟩ s.heap [] 0 0 _ hW va_S.rf (lv_entry av hn) (Nat.le_of_eq (Nat.zero_add _)) (Nat.le_of_eq (Nat.zero_add _))
end R51
theorem i32_nn {x : Int32} : 0 ≤ x ↔ x.toBitVec.msb = false := by
  rw [Int32.le_iff_toInt_le, BitVec.msb_eq_toInt]
  show (0 : Int) ≤ x.toBitVec.toInt ↔ _
  rw [decide_eq_false_iff_not, Int.not_lt]
theorem i32_xor {x : Int32} {m : Nat} (hm : m < 2 ^ 31) : 0 ≤ x ^^^ nI m ↔ 0 ≤ x := by
  have h : (nI m).toBitVec.msb = false := by
    rw [← i32_nn, Int32.le_iff_toInt_le, nI_toInt hm]; show (0 : Int) ≤ _; omega
  rw [i32_nn, i32_nn, Int32.toBitVec_xor, BitVec.msb_xor, h, Bool.xor_false]
/-- floorDiv's two answers -/
theorem fd_pos {x : Int32} {m : Nat} (h0 : 0 < m) (hm : m < 2 ^ 31) (hx : 0 ≤ x) : x / nI m = pDiv x (nI m) := by
  have em : (nI m).toInt = (m : Int) := nI_toInt hm
  have hl := i32_lo x
  have hh := i32_hi x
  have hx' : (0 : Int) ≤ x.toInt := by have := i32_le.mp hx; rw [i32_0] at this; exact this
  have hq := Int.tdiv_eq_ediv_of_nonneg (a := x.toInt) (b := (m : Int)) hx'
  apply i32_ext
  rw [pDiv_toInt h0 hm]
  have h1 : (0 : Int) ≤ x.toInt / (m : Int) := Int.ediv_nonneg hx' (by omega)
  have h2 : x.toInt / (m : Int) ≤ x.toInt := Int.ediv_le_self _ hx'
  exact i32_div (by rw [em]; exact hq) (by omega) (by omega)
theorem fd_neg {x : Int32} {m : Nat} (h0 : 0 < m) (hm : m < 2 ^ 31) (hx : ¬ 0 ≤ x) : (if x / nI m * nI m = x then x / nI m else x / nI m - nI 1) = pDiv x (nI m) := by
  have em : (nI m).toInt = (m : Int) := nI_toInt hm
  have hl := i32_lo x
  have hh := i32_hi x
  have hx' : x.toInt < 0 := by have := Int32.not_le.mp hx; rw [i32_lt, i32_0] at this; exact this
  have hmp : (0 : Int) < m := by omega
  have hq := Int.tdiv_eq_ediv (a := x.toInt) (b := (m : Int))
  rw [Int.sign_eq_one_of_pos hmp] at hq
  have hd := Int.mul_ediv_add_emod x.toInt (m : Int)
  have hr0 := Int.emod_nonneg x.toInt (show (m : Int) ≠ 0 by omega)
  have hr1 := Int.emod_lt_of_pos x.toInt hmp
  have hqneg : x.toInt / (m : Int) < 0 := Int.ediv_neg_of_neg_of_pos hx' hmp
  have hqlo : -2147483648 ≤ x.toInt / (m : Int) := by
    apply Int.le_ediv_of_mul_le hmp
    have : (-2147483648 : Int) * m ≤ -2147483648 * 1 := by
      apply Int.mul_le_mul_of_nonpos_left <;> omega
    omega
  have hmul : (m : Int) * (x.toInt / (m : Int) + 1) = (m : Int) * (x.toInt / (m : Int)) + m := by
    rw [Int.mul_add, Int.mul_one]
  apply i32_ext
  rw [pDiv_toInt h0 hm]
  by_cases hdv : (m : Int) ∣ x.toInt
  · rw [if_pos (Or.inr hdv), Int.add_zero] at hq
    have e1 : (x / nI m).toInt = x.toInt / (m : Int) := i32_div (by rw [em]; exact hq) hqlo (by omega)
    have e2 : (x / nI m * nI m).toInt = x.toInt := i32_mul (by rw [e1, em, Int.ediv_mul_cancel hdv]) (by omega) (by omega)
    rw [if_pos (i32_ext e2)]; exact e1
  · have hnp : ¬ (0 ≤ x.toInt ∨ (m : Int) ∣ x.toInt) := fun h => h.elim (fun h => by omega) hdv
    rw [if_neg hnp] at hq
    have hrne : x.toInt % (m : Int) ≠ 0 := fun h => hdv (Int.dvd_of_emod_eq_zero h)
    have e1 : (x / nI m).toInt = x.toInt / (m : Int) + 1 := i32_div (by rw [em]; exact hq) (by omega) (by omega)
    have e2 : (x / nI m * nI m).toInt = (x.toInt / (m : Int) + 1) * m := i32_mul (by rw [e1, em]) (by rw [Int.mul_comm, hmul]; omega) (by rw [Int.mul_comm, hmul]; omega)
    rw [if_neg (fun h => by rw [h, Int.mul_comm, hmul] at e2; omega)]
    exact i32_sub (by rw [e1, show (nI 1).toInt = 1 from rfl]; omega) hqlo (by omega)
theorem pDiv_n {a m : Nat} (ha : a < 2 ^ 31) (h0 : 0 < m) (hm : m < 2 ^ 31) : pDiv (nI a) (nI m) = nI (a / m) := by
  rw [← fd_pos h0 hm (by rw [i32_le, i32_0, nI_toInt ha]; omega), pk_div ha h0 hm]
theorem tJ9_floorDiv {l : Launch} {κ : KP} {M : Mem} {x : Int32} {m : Nat} (h0 : 0 < m) (hm : m < 2 ^ 31) : fM l κ mJ9_floorDiv_7cf53 [.int (x), .int (nI (m))] M (isI (pDiv x (nI m)) M) := by
  refine fM_ofF rfl (by decide +kernel) (Nat.le_of_ble_eq_true rfl) ?_
  show fR l κ mJ9_floorDiv_7cf53 0 [(0, .int (x)), (1, .int (nI (m)))] [] M 0 0 _
  refine r_iload_n dJ9_floorDiv_7cf53_0 rfl ?_
  refine r_iload_n dJ9_floorDiv_7cf53_1 rfl ?_
  refine r_idiv dJ9_floorDiv_7cf53_2 (nI_ne0 h0 hm) ?_
  refine r_istore_n (lv' := [(2, .int (((x) / (nI (m))))), (0, .int (x)), (1, .int (nI (m)))]) dJ9_floorDiv_7cf53_3 (by decide) rfl ?_
  refine r_iload_n dJ9_floorDiv_7cf53_4 rfl ?_
  refine r_iload_n dJ9_floorDiv_7cf53_5 rfl ?_
  refine r_ixor dJ9_floorDiv_7cf53_6 ?_
  refine r_if_ge (tgt := 21) dJ9_floorDiv_7cf53_7 (by decide) (fun c1 => ?_) (fun c1 => ?_)
  · skip
    refine r_iload_n dJ9_floorDiv_7cf53_21 rfl ?_
    exact fR_iret dJ9_floorDiv_7cf53_22 rfl (isI_of (fd_pos h0 hm ((i32_xor hm).mp (by assumption))))
  · skip
    refine r_iload_n dJ9_floorDiv_7cf53_10 rfl ?_
    refine r_iload_n dJ9_floorDiv_7cf53_11 rfl ?_
    refine r_imul dJ9_floorDiv_7cf53_12 ?_
    refine r_iload_n dJ9_floorDiv_7cf53_13 rfl ?_
    refine r_icmp_eq (tgt := 21) dJ9_floorDiv_7cf53_14 (by decide) (fun c2 => ?_) (fun c2 => ?_)
    · skip
      refine r_iload_n dJ9_floorDiv_7cf53_21 rfl ?_
      exact fR_iret dJ9_floorDiv_7cf53_22 rfl (isI_of ((if_pos (by assumption)).symm.trans (fd_neg h0 hm (fun h => absurd ((i32_xor hm).mpr h) (by assumption)))))
    · skip
      refine r_iload_n dJ9_floorDiv_7cf53_17 rfl ?_
      refine r_iconst (v := nI 1) dJ9_floorDiv_7cf53_18 (by decide) ?_
      refine r_isub dJ9_floorDiv_7cf53_19 ?_
      exact fR_iret dJ9_floorDiv_7cf53_20 rfl (isI_of ((if_neg (by assumption)).symm.trans (fd_neg h0 hm (fun h => absurd ((i32_xor hm).mpr h) (by assumption)))))
theorem kJ_bc265 : Cond.constant RJ6 265 1431655765 ∈ lw_tbl := lw_of (i := 675) (by decide +kernel)
theorem kJ_bc266 : Cond.constant RJ6 266 858993459 ∈ lw_tbl := lw_of (i := 676) (by decide +kernel)
theorem kJ_bc267 : Cond.constant RJ6 267 252645135 ∈ lw_tbl := lw_of (i := 677) (by decide +kernel)
def bcF (x : Int32) : Int32 := (((((((((((((((((x) - (((((((x)).toUInt32 >>> (((nI (1))).toUInt32 &&& Int32.toUInt32 31)).toInt32)) &&& (1431655765))))) &&& (858993459))) + (((((((((x) - (((((((x)).toUInt32 >>> (((nI (1))).toUInt32 &&& Int32.toUInt32 31)).toInt32)) &&& (1431655765)))))).toUInt32 >>> (((nI (2))).toUInt32 &&& Int32.toUInt32 31)).toInt32)) &&& (858993459))))) + (((((((((((x) - (((((((x)).toUInt32 >>> (((nI (1))).toUInt32 &&& Int32.toUInt32 31)).toInt32)) &&& (1431655765))))) &&& (858993459))) + (((((((((x) - (((((((x)).toUInt32 >>> (((nI (1))).toUInt32 &&& Int32.toUInt32 31)).toInt32)) &&& (1431655765)))))).toUInt32 >>> (((nI (2))).toUInt32 &&& Int32.toUInt32 31)).toInt32)) &&& (858993459)))))).toUInt32 >>> (((nI (4))).toUInt32 &&& Int32.toUInt32 31)).toInt32)))) &&& (252645135))) + (((((((((((((((x) - (((((((x)).toUInt32 >>> (((nI (1))).toUInt32 &&& Int32.toUInt32 31)).toInt32)) &&& (1431655765))))) &&& (858993459))) + (((((((((x) - (((((((x)).toUInt32 >>> (((nI (1))).toUInt32 &&& Int32.toUInt32 31)).toInt32)) &&& (1431655765)))))).toUInt32 >>> (((nI (2))).toUInt32 &&& Int32.toUInt32 31)).toInt32)) &&& (858993459))))) + (((((((((((x) - (((((((x)).toUInt32 >>> (((nI (1))).toUInt32 &&& Int32.toUInt32 31)).toInt32)) &&& (1431655765))))) &&& (858993459))) + (((((((((x) - (((((((x)).toUInt32 >>> (((nI (1))).toUInt32 &&& Int32.toUInt32 31)).toInt32)) &&& (1431655765)))))).toUInt32 >>> (((nI (2))).toUInt32 &&& Int32.toUInt32 31)).toInt32)) &&& (858993459)))))).toUInt32 >>> (((nI (4))).toUInt32 &&& Int32.toUInt32 31)).toInt32)))) &&& (252645135)))).toUInt32 >>> (((nI (8))).toUInt32 &&& Int32.toUInt32 31)).toInt32)))) + (((((((((((((((((x) - (((((((x)).toUInt32 >>> (((nI (1))).toUInt32 &&& Int32.toUInt32 31)).toInt32)) &&& (1431655765))))) &&& (858993459))) + (((((((((x) - (((((((x)).toUInt32 >>> (((nI (1))).toUInt32 &&& Int32.toUInt32 31)).toInt32)) &&& (1431655765)))))).toUInt32 >>> (((nI (2))).toUInt32 &&& Int32.toUInt32 31)).toInt32)) &&& (858993459))))) + (((((((((((x) - (((((((x)).toUInt32 >>> (((nI (1))).toUInt32 &&& Int32.toUInt32 31)).toInt32)) &&& (1431655765))))) &&& (858993459))) + (((((((((x) - (((((((x)).toUInt32 >>> (((nI (1))).toUInt32 &&& Int32.toUInt32 31)).toInt32)) &&& (1431655765)))))).toUInt32 >>> (((nI (2))).toUInt32 &&& Int32.toUInt32 31)).toInt32)) &&& (858993459)))))).toUInt32 >>> (((nI (4))).toUInt32 &&& Int32.toUInt32 31)).toInt32)))) &&& (252645135))) + (((((((((((((((x) - (((((((x)).toUInt32 >>> (((nI (1))).toUInt32 &&& Int32.toUInt32 31)).toInt32)) &&& (1431655765))))) &&& (858993459))) + (((((((((x) - (((((((x)).toUInt32 >>> (((nI (1))).toUInt32 &&& Int32.toUInt32 31)).toInt32)) &&& (1431655765)))))).toUInt32 >>> (((nI (2))).toUInt32 &&& Int32.toUInt32 31)).toInt32)) &&& (858993459))))) + (((((((((((x) - (((((((x)).toUInt32 >>> (((nI (1))).toUInt32 &&& Int32.toUInt32 31)).toInt32)) &&& (1431655765))))) &&& (858993459))) + (((((((((x) - (((((((x)).toUInt32 >>> (((nI (1))).toUInt32 &&& Int32.toUInt32 31)).toInt32)) &&& (1431655765)))))).toUInt32 >>> (((nI (2))).toUInt32 &&& Int32.toUInt32 31)).toInt32)) &&& (858993459)))))).toUInt32 >>> (((nI (4))).toUInt32 &&& Int32.toUInt32 31)).toInt32)))) &&& (252645135)))).toUInt32 >>> (((nI (8))).toUInt32 &&& Int32.toUInt32 31)).toInt32))))).toUInt32 >>> (((nI (16))).toUInt32 &&& Int32.toUInt32 31)).toInt32)))) &&& (nI (63))))
theorem tJ6_bitCount {l : Launch} {κ : KP} {M : Mem} {x : Int32} : fM l κ mJ6_bitCount_0f7a4 [.int (x)] M (isI (bcF x) M) := by
  refine fM_ofF rfl (by decide +kernel) (Nat.le_of_ble_eq_true rfl) ?_
  show fR l κ mJ6_bitCount_0f7a4 0 [(0, .int (x))] [] M 0 0 _
  refine r_iload_n dJ6_bitCount_0f7a4_0 rfl ?_
  refine r_iload_n dJ6_bitCount_0f7a4_1 rfl ?_
  refine r_iconst (v := nI 1) dJ6_bitCount_0f7a4_2 (by decide) ?_
  refine r_iushr dJ6_bitCount_0f7a4_3 ?_
  refine r_ldcw (v := 1431655765) dJ6_bitCount_0f7a4_4 kJ_bc265 ?_
  refine r_iand dJ6_bitCount_0f7a4_7 ?_
  refine r_isub dJ6_bitCount_0f7a4_8 ?_
  refine r_istore_n (lv' := [(0, .int (((x) - (((((((x)).toUInt32 >>> (((nI (1))).toUInt32 &&& Int32.toUInt32 31)).toInt32)) &&& (1431655765))))))]) dJ6_bitCount_0f7a4_9 (by decide) rfl ?_
  refine r_iload_n dJ6_bitCount_0f7a4_10 rfl ?_
  refine r_ldcw (v := 858993459) dJ6_bitCount_0f7a4_11 kJ_bc266 ?_
  refine r_iand dJ6_bitCount_0f7a4_14 ?_
  refine r_iload_n dJ6_bitCount_0f7a4_15 rfl ?_
  refine r_iconst (v := nI 2) dJ6_bitCount_0f7a4_16 (by decide) ?_
  refine r_iushr dJ6_bitCount_0f7a4_17 ?_
  refine r_ldcw (v := 858993459) dJ6_bitCount_0f7a4_18 kJ_bc266 ?_
  refine r_iand dJ6_bitCount_0f7a4_21 ?_
  refine r_iadd dJ6_bitCount_0f7a4_22 ?_
  refine r_istore_n (lv' := [(0, .int (((((((x) - (((((((x)).toUInt32 >>> (((nI (1))).toUInt32 &&& Int32.toUInt32 31)).toInt32)) &&& (1431655765))))) &&& (858993459))) + (((((((((x) - (((((((x)).toUInt32 >>> (((nI (1))).toUInt32 &&& Int32.toUInt32 31)).toInt32)) &&& (1431655765)))))).toUInt32 >>> (((nI (2))).toUInt32 &&& Int32.toUInt32 31)).toInt32)) &&& (858993459))))))]) dJ6_bitCount_0f7a4_23 (by decide) rfl ?_
  refine r_iload_n dJ6_bitCount_0f7a4_24 rfl ?_
  refine r_iload_n dJ6_bitCount_0f7a4_25 rfl ?_
  refine r_iconst (v := nI 4) dJ6_bitCount_0f7a4_26 (by decide) ?_
  refine r_iushr dJ6_bitCount_0f7a4_27 ?_
  refine r_iadd dJ6_bitCount_0f7a4_28 ?_
  refine r_ldcw (v := 252645135) dJ6_bitCount_0f7a4_29 kJ_bc267 ?_
  refine r_iand dJ6_bitCount_0f7a4_32 ?_
  refine r_istore_n (lv' := [(0, .int (((((((((((x) - (((((((x)).toUInt32 >>> (((nI (1))).toUInt32 &&& Int32.toUInt32 31)).toInt32)) &&& (1431655765))))) &&& (858993459))) + (((((((((x) - (((((((x)).toUInt32 >>> (((nI (1))).toUInt32 &&& Int32.toUInt32 31)).toInt32)) &&& (1431655765)))))).toUInt32 >>> (((nI (2))).toUInt32 &&& Int32.toUInt32 31)).toInt32)) &&& (858993459))))) + (((((((((((x) - (((((((x)).toUInt32 >>> (((nI (1))).toUInt32 &&& Int32.toUInt32 31)).toInt32)) &&& (1431655765))))) &&& (858993459))) + (((((((((x) - (((((((x)).toUInt32 >>> (((nI (1))).toUInt32 &&& Int32.toUInt32 31)).toInt32)) &&& (1431655765)))))).toUInt32 >>> (((nI (2))).toUInt32 &&& Int32.toUInt32 31)).toInt32)) &&& (858993459)))))).toUInt32 >>> (((nI (4))).toUInt32 &&& Int32.toUInt32 31)).toInt32)))) &&& (252645135))))]) dJ6_bitCount_0f7a4_33 (by decide) rfl ?_
  refine r_iload_n dJ6_bitCount_0f7a4_34 rfl ?_
  refine r_iload_n dJ6_bitCount_0f7a4_35 rfl ?_
  refine r_bipush (v := nI 8) dJ6_bitCount_0f7a4_36 (by decide) ?_
  refine r_iushr dJ6_bitCount_0f7a4_38 ?_
  refine r_iadd dJ6_bitCount_0f7a4_39 ?_
  refine r_istore_n (lv' := [(0, .int (((((((((((((x) - (((((((x)).toUInt32 >>> (((nI (1))).toUInt32 &&& Int32.toUInt32 31)).toInt32)) &&& (1431655765))))) &&& (858993459))) + (((((((((x) - (((((((x)).toUInt32 >>> (((nI (1))).toUInt32 &&& Int32.toUInt32 31)).toInt32)) &&& (1431655765)))))).toUInt32 >>> (((nI (2))).toUInt32 &&& Int32.toUInt32 31)).toInt32)) &&& (858993459))))) + (((((((((((x) - (((((((x)).toUInt32 >>> (((nI (1))).toUInt32 &&& Int32.toUInt32 31)).toInt32)) &&& (1431655765))))) &&& (858993459))) + (((((((((x) - (((((((x)).toUInt32 >>> (((nI (1))).toUInt32 &&& Int32.toUInt32 31)).toInt32)) &&& (1431655765)))))).toUInt32 >>> (((nI (2))).toUInt32 &&& Int32.toUInt32 31)).toInt32)) &&& (858993459)))))).toUInt32 >>> (((nI (4))).toUInt32 &&& Int32.toUInt32 31)).toInt32)))) &&& (252645135))) + (((((((((((((((x) - (((((((x)).toUInt32 >>> (((nI (1))).toUInt32 &&& Int32.toUInt32 31)).toInt32)) &&& (1431655765))))) &&& (858993459))) + (((((((((x) - (((((((x)).toUInt32 >>> (((nI (1))).toUInt32 &&& Int32.toUInt32 31)).toInt32)) &&& (1431655765)))))).toUInt32 >>> (((nI (2))).toUInt32 &&& Int32.toUInt32 31)).toInt32)) &&& (858993459))))) + (((((((((((x) - (((((((x)).toUInt32 >>> (((nI (1))).toUInt32 &&& Int32.toUInt32 31)).toInt32)) &&& (1431655765))))) &&& (858993459))) + (((((((((x) - (((((((x)).toUInt32 >>> (((nI (1))).toUInt32 &&& Int32.toUInt32 31)).toInt32)) &&& (1431655765)))))).toUInt32 >>> (((nI (2))).toUInt32 &&& Int32.toUInt32 31)).toInt32)) &&& (858993459)))))).toUInt32 >>> (((nI (4))).toUInt32 &&& Int32.toUInt32 31)).toInt32)))) &&& (252645135)))).toUInt32 >>> (((nI (8))).toUInt32 &&& Int32.toUInt32 31)).toInt32)))))]) dJ6_bitCount_0f7a4_40 (by decide) rfl ?_
  refine r_iload_n dJ6_bitCount_0f7a4_41 rfl ?_
  refine r_iload_n dJ6_bitCount_0f7a4_42 rfl ?_
  refine r_bipush (v := nI 16) dJ6_bitCount_0f7a4_43 (by decide) ?_
  refine r_iushr dJ6_bitCount_0f7a4_45 ?_
  refine r_iadd dJ6_bitCount_0f7a4_46 ?_
  refine r_istore_n (lv' := [(0, .int (((((((((((((((x) - (((((((x)).toUInt32 >>> (((nI (1))).toUInt32 &&& Int32.toUInt32 31)).toInt32)) &&& (1431655765))))) &&& (858993459))) + (((((((((x) - (((((((x)).toUInt32 >>> (((nI (1))).toUInt32 &&& Int32.toUInt32 31)).toInt32)) &&& (1431655765)))))).toUInt32 >>> (((nI (2))).toUInt32 &&& Int32.toUInt32 31)).toInt32)) &&& (858993459))))) + (((((((((((x) - (((((((x)).toUInt32 >>> (((nI (1))).toUInt32 &&& Int32.toUInt32 31)).toInt32)) &&& (1431655765))))) &&& (858993459))) + (((((((((x) - (((((((x)).toUInt32 >>> (((nI (1))).toUInt32 &&& Int32.toUInt32 31)).toInt32)) &&& (1431655765)))))).toUInt32 >>> (((nI (2))).toUInt32 &&& Int32.toUInt32 31)).toInt32)) &&& (858993459)))))).toUInt32 >>> (((nI (4))).toUInt32 &&& Int32.toUInt32 31)).toInt32)))) &&& (252645135))) + (((((((((((((((x) - (((((((x)).toUInt32 >>> (((nI (1))).toUInt32 &&& Int32.toUInt32 31)).toInt32)) &&& (1431655765))))) &&& (858993459))) + (((((((((x) - (((((((x)).toUInt32 >>> (((nI (1))).toUInt32 &&& Int32.toUInt32 31)).toInt32)) &&& (1431655765)))))).toUInt32 >>> (((nI (2))).toUInt32 &&& Int32.toUInt32 31)).toInt32)) &&& (858993459))))) + (((((((((((x) - (((((((x)).toUInt32 >>> (((nI (1))).toUInt32 &&& Int32.toUInt32 31)).toInt32)) &&& (1431655765))))) &&& (858993459))) + (((((((((x) - (((((((x)).toUInt32 >>> (((nI (1))).toUInt32 &&& Int32.toUInt32 31)).toInt32)) &&& (1431655765)))))).toUInt32 >>> (((nI (2))).toUInt32 &&& Int32.toUInt32 31)).toInt32)) &&& (858993459)))))).toUInt32 >>> (((nI (4))).toUInt32 &&& Int32.toUInt32 31)).toInt32)))) &&& (252645135)))).toUInt32 >>> (((nI (8))).toUInt32 &&& Int32.toUInt32 31)).toInt32)))) + (((((((((((((((((x) - (((((((x)).toUInt32 >>> (((nI (1))).toUInt32 &&& Int32.toUInt32 31)).toInt32)) &&& (1431655765))))) &&& (858993459))) + (((((((((x) - (((((((x)).toUInt32 >>> (((nI (1))).toUInt32 &&& Int32.toUInt32 31)).toInt32)) &&& (1431655765)))))).toUInt32 >>> (((nI (2))).toUInt32 &&& Int32.toUInt32 31)).toInt32)) &&& (858993459))))) + (((((((((((x) - (((((((x)).toUInt32 >>> (((nI (1))).toUInt32 &&& Int32.toUInt32 31)).toInt32)) &&& (1431655765))))) &&& (858993459))) + (((((((((x) - (((((((x)).toUInt32 >>> (((nI (1))).toUInt32 &&& Int32.toUInt32 31)).toInt32)) &&& (1431655765)))))).toUInt32 >>> (((nI (2))).toUInt32 &&& Int32.toUInt32 31)).toInt32)) &&& (858993459)))))).toUInt32 >>> (((nI (4))).toUInt32 &&& Int32.toUInt32 31)).toInt32)))) &&& (252645135))) + (((((((((((((((x) - (((((((x)).toUInt32 >>> (((nI (1))).toUInt32 &&& Int32.toUInt32 31)).toInt32)) &&& (1431655765))))) &&& (858993459))) + (((((((((x) - (((((((x)).toUInt32 >>> (((nI (1))).toUInt32 &&& Int32.toUInt32 31)).toInt32)) &&& (1431655765)))))).toUInt32 >>> (((nI (2))).toUInt32 &&& Int32.toUInt32 31)).toInt32)) &&& (858993459))))) + (((((((((((x) - (((((((x)).toUInt32 >>> (((nI (1))).toUInt32 &&& Int32.toUInt32 31)).toInt32)) &&& (1431655765))))) &&& (858993459))) + (((((((((x) - (((((((x)).toUInt32 >>> (((nI (1))).toUInt32 &&& Int32.toUInt32 31)).toInt32)) &&& (1431655765)))))).toUInt32 >>> (((nI (2))).toUInt32 &&& Int32.toUInt32 31)).toInt32)) &&& (858993459)))))).toUInt32 >>> (((nI (4))).toUInt32 &&& Int32.toUInt32 31)).toInt32)))) &&& (252645135)))).toUInt32 >>> (((nI (8))).toUInt32 &&& Int32.toUInt32 31)).toInt32))))).toUInt32 >>> (((nI (16))).toUInt32 &&& Int32.toUInt32 31)).toInt32)))))]) dJ6_bitCount_0f7a4_47 (by decide) rfl ?_
  refine r_iload_n dJ6_bitCount_0f7a4_48 rfl ?_
  refine r_bipush (v := nI 63) dJ6_bitCount_0f7a4_49 (by decide) ?_
  refine r_iand dJ6_bitCount_0f7a4_51 ?_
  exact fR_iret dJ6_bitCount_0f7a4_52 rfl (isI_of rfl)
theorem bcF_lt {m : Nat} (hm : m < 8) : (bcF (nI m) < nI 2 ↔ m = 0 ∨ m = 1 ∨ m = 2 ∨ m = 4) := by
  have h : m = 0 ∨ m = 1 ∨ m = 2 ∨ m = 3 ∨ m = 4 ∨ m = 5 ∨ m = 6 ∨ m = 7 := by omega
  rcases h with rfl | rfl | rfl | rfl | rfl | rfl | rfl | rfl <;> decide
theorem tX8_divided {l : Launch} {κ : KP} {M : Mem} {a b : Nat} (ha : a < 2 ^ 31) (h0 : 0 < b) (hb : b < 2 ^ 31) : fM l κ mX8_divided [.int (nI (a)), .int (nI (b))] M (isI (nI (a / b)) M) := by
  refine fM_of rfl (by decide +kernel) (Nat.le_of_ble_eq_true rfl) ?_
  show fR l κ mX8_divided 0 [(0, .int (nI (a))), (1, .int (nI (b)))] [] M 0 0 _
  refine r_iload_n dX8_divided_0 rfl ?_
  refine r_if_leN (tgt := 12) dX8_divided_1 (by decide) (by omega) (fun c1 => ?_) (fun c1 => ?_)
  · skip
    exact absurd c1 (by omega)
  · skip
    refine r_iload_n dX8_divided_4 rfl ?_
    refine r_iload_n dX8_divided_5 rfl ?_
    have hfd := tJ9_floorDiv (l := l) (κ := κ) (M := M) (x := (nI (a))) (m := b) (by omega) (by omega)
    rw [pDiv_n (by omega) (by omega) (by omega)] at hfd
    refine r_callS (As := [.int (nI (a)), .int (nI (b))]) dX8_divided_6 hfd rfl oJ9_floorDiv_7cf53 rfl kX8_292M sJ9_floorDiv_7cf53 (by unfold fRoom; decide) (Nat.le_of_ble_eq_true rfl) rfl (bc' := 0) (bs' := 0) rfl rfl ?_
    show fR _ _ _ 9 _ (.int (nI ((a / b))) :: _) _ _ _ _
    refine r_goto (tgt := 13) dX8_divided_9 (by decide) ?_
    exact fR_iret dX8_divided_13 rfl (isI_of (by rfl))
theorem wm_eq {d b : Int32} : (d + (if pDiv (b - d) (nI 4) = 0 then (if d < b then nI 1 else pDiv (b - d) (nI 4)) else pDiv (b - d) (nI 4))) = pWarm d b := by
  unfold pWarm
  by_cases h : pDiv (b - d) (nI 4) = 0
  · rw [if_pos h, if_pos h, h]
    by_cases h2 : d < b
    · rw [if_pos h2, if_pos h2, Int32.add_assoc, Int32.zero_add]
    · rw [if_neg h2, if_neg h2, Int32.add_assoc]; rfl
  · rw [if_neg h, if_neg h, Int32.add_assoc]
    exact congrArg (d + ·) (Int32.add_zero _).symm
theorem tX8_degreeNext {l : Launch} {κ : KP} {M : Mem} {d b : Int32} : fM l κ mX8_degreeNext [.int (d), .int (b)] M (isI (pWarm d b) M) := by
  refine fM_of rfl (by decide +kernel) (Nat.le_of_ble_eq_true rfl) ?_
  show fR l κ mX8_degreeNext 0 [(0, .int (d)), (1, .int (b))] [] M 0 0 _
  refine r_iload_n dX8_degreeNext_0 rfl ?_
  refine r_iload_n dX8_degreeNext_1 rfl ?_
  refine r_isub dX8_degreeNext_2 ?_
  refine r_iconst (v := nI 4) dX8_degreeNext_3 (by decide) ?_
  refine r_callS (As := [.int (((b) - (d))), .int (nI (4))]) dX8_degreeNext_4 (tJ9_floorDiv (by omega) (by omega)) rfl oJ9_floorDiv_7cf53 rfl kX8_292M sJ9_floorDiv_7cf53 (by unfold fRoom; decide) (Nat.le_of_ble_eq_true rfl) rfl (bc' := 0) (bs' := 0) rfl rfl ?_
  show fR _ _ _ 7 _ (.int (pDiv (((b) - (d))) (nI (4))) :: _) _ _ _ _
  refine r_istore_n (lv' := [(2, .int (pDiv (((b) - (d))) (nI (4)))), (0, .int (d)), (1, .int (b))]) dX8_degreeNext_7 (by decide) rfl ?_
  refine r_iload_n dX8_degreeNext_8 rfl ?_
  refine r_if_ne (tgt := 19) dX8_degreeNext_9 (by decide) (fun c1 => ?_) (fun c1 => ?_)
  · skip
    refine r_iload_n dX8_degreeNext_19 rfl ?_
    refine r_iload_n dX8_degreeNext_20 rfl ?_
    refine r_iadd dX8_degreeNext_21 ?_
    exact fR_iret dX8_degreeNext_22 rfl (isI_of (by rw [← wm_eq]; (repeat (first | rw [if_pos (by first | assumption | exact Int32.not_le.mp (by assumption) | exact Int32.not_lt.mp (by assumption) | omega)] | rw [if_neg (by first | assumption | exact Int32.not_lt.mpr (by assumption) | exact Int32.not_le.mpr (by assumption) | exact bne_of (by assumption) | exact not_not_intro (by assumption) | omega)])); first | done | rfl))
  · skip
    refine r_iload_n dX8_degreeNext_12 rfl ?_
    refine r_iload_n dX8_degreeNext_13 rfl ?_
    refine r_icmp_le (tgt := 19) dX8_degreeNext_14 (by decide) (fun c2 => ?_) (fun c2 => ?_)
    · skip
      refine r_iload_n dX8_degreeNext_19 rfl ?_
      refine r_iload_n dX8_degreeNext_20 rfl ?_
      refine r_iadd dX8_degreeNext_21 ?_
      exact fR_iret dX8_degreeNext_22 rfl (isI_of (by rw [← wm_eq]; (repeat (first | rw [if_pos (by first | assumption | exact Int32.not_le.mp (by assumption) | exact Int32.not_lt.mp (by assumption) | omega)] | rw [if_neg (by first | assumption | exact Int32.not_lt.mpr (by assumption) | exact Int32.not_le.mpr (by assumption) | exact bne_of (by assumption) | exact not_not_intro (by assumption) | omega)])); first | done | rfl))
    · skip
      refine r_iconst (v := nI 1) dX8_degreeNext_17 (by decide) ?_
      refine r_istore_n (lv' := [(2, .int (nI (1))), (0, .int (d)), (1, .int (b))]) dX8_degreeNext_18 (by decide) rfl ?_
      refine r_iload_n dX8_degreeNext_19 rfl ?_
      refine r_iload_n dX8_degreeNext_20 rfl ?_
      refine r_iadd dX8_degreeNext_21 ?_
      exact fR_iret dX8_degreeNext_22 rfl (isI_of (by rw [← wm_eq]; (repeat (first | rw [if_pos (by first | assumption | exact Int32.not_le.mp (by assumption) | exact Int32.not_lt.mp (by assumption) | omega)] | rw [if_neg (by first | assumption | exact Int32.not_lt.mpr (by assumption) | exact Int32.not_le.mpr (by assumption) | exact bne_of (by assumption) | exact not_not_intro (by assumption) | omega)])); first | done | rfl))
