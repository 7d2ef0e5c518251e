/-! REFUSALS -/
section FR55
variable {l : Launch} {κ : KP} {μ μ' : MD} {pc : Nat} {lv lv' : List (Nat × Value)} {st rest : List Value} {M M1 : Mem} {bc bs : Nat} {P P' : FPost}
theorem r_throwW {ik is ic j : Nat} {cls tx : String} (hh : fThr (mY μ).cls ik ic cls = true) (d0 : decode (mB μ) pc = .ok (.new ik, 3)) (d3 : decode (mB μ) (pc + 3) = .ok (.dup, 1)) (d4 : decode (mB μ) (pc + 4) = .ok (.ldc_w is, 3)) (d7 : decode (mB μ) (pc + 7) = .ok (.invokespecial ic, 3)) (d10 : decode (mB μ) (pc + 10) = .ok (.athrow, 1))
    (hstr : ((mY μ).cls, is, tx, j) ∈ fStr) (hfr : 5 < (mR μ).frames) (hlo : (st.map fun v => v.category).sum + 82 ≤ (mR μ).locals) (hbc : 1 ≤ bc) (hbs : 6 ≤ bs) (hH : mH μ = []) (hp : P (.inr cls) M) : fR l κ μ pc lv st M bc bs P := by
  intro p e s m args below meth c C H locs cells slots ls hW hS hl hc hs
  have hts := C.2.2.2.2.2.2.1
  have hN := C.2.2.2.2.2.2.2.2.2.2.2.1
  have hZ := C.2.2.2.2.2.2.2.2.2.2.1.2.2.2.2.1
  simp only [fThr, Bool.and_eq_true, List.all_eq_true, decide_eq_true_eq, Bool.or_eq_true] at hh
  obtain ⟨⟨⟨⟨⟨h1, h2⟩, h3⟩, h4⟩, h5⟩, h6⟩ := hh
  have htab : ∀ x ∈ c.exceptionTable.toList, covers x (pc + 10) = false := by
    have h9 := C.2.2.2.2.2.2.2.2.2.1
    rw [hH] at h9
    intro x hx
    rw [h9] at hx
    cases hx
  refine vx_throwSW (ik := ik) (is := is) (ic := ic) (sa := kK κ j) (cls := cls) (text := tx) (names := ["java/lang/RuntimeException", "java/lang/Exception"]) (A := fA (kO κ)) C.2.1 C.2.2.1 C.1 C.2.2.2.2.2.1 h5 h6 (hts _ (lwG_of h3 rfl)) (hts _ (lwG_of h4 rfl)) (hN.2.2.1 _ hstr) ?_ h2 hZ.1 hZ.2 hS (by rw [C.2.2.2.2.1]; exact hl.1) d0 d3 d4 d7 d10 htab (show 2 + 3 < _ by omega) (show _ + (13 * (2 + 1) + 43) ≤ _ by omega) (by omega) (by omega) C.2.2.2.2.2.2.2.1 ?_ hS.2.2 (by omega) (by omega)
  · intro w hw
    obtain ⟨g1, g2⟩ := h1 w hw
    rcases g2 with g2 | g2
    · exact hts _ (lwG_of g1 g2)
    · exact va_Nw.use g2.2 (hN.1 w g1 g2.1)
  · intro t hal hz hk
    obtain ⟨dC, dI, tys, ws, hK, hP, hD, hM9⟩ := hW
    refine ⟨⟨M, hp, fW.moved hal ⟨dC, dI, tys, ws, hK, hP.kept (fun k q hq => hk q.1 (hP k q hq).lt), hD, hM9⟩⟩, Nat.le_trans hS.1 hz, fun q h1 h2 => ?_⟩
    rw [hk q (Nat.lt_of_lt_of_le h1 hS.1)]
    exact hS.2.1 q h1 h2
end FR55
theorem xT_150_154 : fThr RX8 150 154 "java/lang/IllegalArgumentException" = true := by decide +kernel
theorem xT_177_181 : fThr RX8 177 181 "java/lang/IllegalStateException" = true := by decide +kernel
theorem xT_254_258 : fThr RX8 254 258 "java/lang/IndexOutOfBoundsException" = true := by decide +kernel
theorem bI_ne {b : Bool} (h : nI 0 = bI b) : b = false := by cases b with | false => rfl | true => exact absurd h (by decide)
theorem bI_t1 {b : Bool} (h : nI 1 = bI b) : b = true := by cases b with | true => rfl | false => exact absurd h (by decide)
theorem tX8_mindNumber_t {l : Launch} {κ : KP} {M : Mem} {v : Int32} {n : Nat} (hn : n < 2 ^ 30) (h : pNo v n = true) : fM l κ mX8_mindNumber [.int (v), .int (nI (n))] M (isR none M) := by
  refine fM_of rfl (by decide +kernel) (Nat.le_of_ble_eq_true rfl) ?_
  show fR l κ mX8_mindNumber 0 [(0, .int (v)), (1, .int (nI (n)))] [] M 1 6 _
  refine r_iload_n dX8_mindNumber_0 rfl ?_
  refine r_if_lt (tgt := 9) dX8_mindNumber_1 (by decide) (fun c1 => ?_) (fun c1 => ?_)
  · exact absurd (bI_ne (pNo_c1 c1)) (by rw [h]; decide)
  · skip
    refine r_iload_n dX8_mindNumber_4 rfl ?_
    refine r_iload_n dX8_mindNumber_5 rfl ?_
    refine r_icmp_lt (tgt := 20) dX8_mindNumber_6 (by decide) (fun c2 => ?_) (fun c2 => ?_)
    · skip
      exact fR_vret dX8_mindNumber_20 rfl isR_of
    · exact absurd (bI_ne (pNo_c2 hn (Int32.not_lt.mp c2))) (by rw [h]; decide)
theorem tX8_mindNumber_f {l : Launch} {κ : KP} {M : Mem} {v : Int32} {n : Nat} (hn : n < 2 ^ 30) (h : pNo v n = false) : fM l κ mX8_mindNumber [.int (v), .int (nI (n))] M (isX "java/lang/IndexOutOfBoundsException" M) := by
  refine fM_of rfl (by decide +kernel) (Nat.le_of_ble_eq_true rfl) ?_
  show fR l κ mX8_mindNumber 0 [(0, .int (v)), (1, .int (nI (n)))] [] M 1 6 _
  refine r_iload_n dX8_mindNumber_0 rfl ?_
  refine r_if_lt (tgt := 9) dX8_mindNumber_1 (by decide) (fun c1 => ?_) (fun c1 => ?_)
  · skip
    exact r_throwW xT_254_258 dX8_mindNumber_9 dX8_mindNumber_12 dX8_mindNumber_13 dX8_mindNumber_16 dX8_mindNumber_19 (List.mem_of_getElem? (i := 9) rfl) (by decide) (Nat.le_of_ble_eq_true rfl) (by decide) (by decide) rfl isX_of
  · skip
    refine r_iload_n dX8_mindNumber_4 rfl ?_
    refine r_iload_n dX8_mindNumber_5 rfl ?_
    refine r_icmp_lt (tgt := 20) dX8_mindNumber_6 (by decide) (fun c2 => ?_) (fun c2 => ?_)
    · exact absurd (bI_t1 (pNo_c3 hn (by assumption) (Int32.not_le.mpr c2))) (by rw [h]; decide)
    · skip
      exact r_throwW xT_254_258 dX8_mindNumber_9 dX8_mindNumber_12 dX8_mindNumber_13 dX8_mindNumber_16 dX8_mindNumber_19 (List.mem_of_getElem? (i := 9) rfl) (by decide) (Nat.le_of_ble_eq_true rfl) (by decide) (by decide) rfl isX_of
theorem tX8_mindRange_t {l : Launch} {κ : KP} {M : Mem} {v lo hi : Int32} (h : pIn v lo hi = true) : fM l κ mX8_mindRange [.int (v), .int (lo), .int (hi)] M (isR none M) := by
  refine fM_of rfl (by decide +kernel) (Nat.le_of_ble_eq_true rfl) ?_
  show fR l κ mX8_mindRange 0 [(0, .int (v)), (1, .int (lo)), (2, .int (hi))] [] M 1 6 _
  refine r_iload_n dX8_mindRange_0 rfl ?_
  refine r_iload_n dX8_mindRange_1 rfl ?_
  refine r_icmp_lt (tgt := 10) dX8_mindRange_2 (by decide) (fun c1 => ?_) (fun c1 => ?_)
  · exact absurd (bI_ne (pIn_f1 c1)) (by rw [h]; decide)
  · skip
    refine r_iload_n dX8_mindRange_5 rfl ?_
    refine r_iload_n dX8_mindRange_6 rfl ?_
    refine r_icmp_le (tgt := 21) dX8_mindRange_7 (by decide) (fun c2 => ?_) (fun c2 => ?_)
    · skip
      exact fR_vret dX8_mindRange_21 rfl isR_of
    · exact absurd (bI_ne (pIn_f2 (Int32.not_le.mp c2))) (by rw [h]; decide)
theorem tX8_mindRange_f {l : Launch} {κ : KP} {M : Mem} {v lo hi : Int32} (h : pIn v lo hi = false) : fM l κ mX8_mindRange [.int (v), .int (lo), .int (hi)] M (isX "java/lang/IllegalArgumentException" M) := by
  refine fM_of rfl (by decide +kernel) (Nat.le_of_ble_eq_true rfl) ?_
  show fR l κ mX8_mindRange 0 [(0, .int (v)), (1, .int (lo)), (2, .int (hi))] [] M 1 6 _
  refine r_iload_n dX8_mindRange_0 rfl ?_
  refine r_iload_n dX8_mindRange_1 rfl ?_
  refine r_icmp_lt (tgt := 10) dX8_mindRange_2 (by decide) (fun c1 => ?_) (fun c1 => ?_)
  · skip
    exact r_throwW xT_150_154 dX8_mindRange_10 dX8_mindRange_13 dX8_mindRange_14 dX8_mindRange_17 dX8_mindRange_20 (List.mem_of_getElem? (i := 6) rfl) (by decide) (Nat.le_of_ble_eq_true rfl) (by decide) (by decide) rfl isX_of
  · skip
    refine r_iload_n dX8_mindRange_5 rfl ?_
    refine r_iload_n dX8_mindRange_6 rfl ?_
    refine r_icmp_le (tgt := 21) dX8_mindRange_7 (by decide) (fun c2 => ?_) (fun c2 => ?_)
    · exact absurd (bI_t1 (pIn_t (by assumption) (Int32.not_lt.mpr c2))) (by rw [h]; decide)
    · skip
      exact r_throwW xT_150_154 dX8_mindRange_10 dX8_mindRange_13 dX8_mindRange_14 dX8_mindRange_17 dX8_mindRange_20 (List.mem_of_getElem? (i := 6) rfl) (by decide) (Nat.le_of_ble_eq_true rfl) (by decide) (by decide) rfl isX_of
theorem tX8_refuse_0 {l : Launch} {κ : KP} {M : Mem} {v : Int32} (h : v = nI 0) : fM l κ mX8_refuseFor [.int (v)] M (isR none M) := by
  refine fM_of rfl (by decide +kernel) (Nat.le_of_ble_eq_true rfl) ?_
  show fR l κ mX8_refuseFor 0 [(0, .int (v))] [] M 1 6 _
  refine r_iload_n dX8_refuseFor_0 rfl ?_
  refine r_bipush (v := nI 13) dX8_refuseFor_1 (by decide) ?_
  refine r_icmp_ne (tgt := 17) dX8_refuseFor_3 (by decide) (fun c1 => ?_) (fun c1 => ?_)
  · skip
    refine r_iload_n dX8_refuseFor_17 rfl ?_
    refine r_if_eq (tgt := 32) dX8_refuseFor_18 (by decide) (fun c2 => ?_) (fun c2 => ?_)
    · skip
      exact fR_vret dX8_refuseFor_32 rfl isR_of
    · exact absurd h c2
  · exact absurd (h.symm.trans c1) (by decide)
theorem tX8_refuse_13 {l : Launch} {κ : KP} {M : Mem} {v : Int32} (h : v = nI 13) : fM l κ mX8_refuseFor [.int (v)] M (isX "java/lang/IndexOutOfBoundsException" M) := by
  refine fM_of rfl (by decide +kernel) (Nat.le_of_ble_eq_true rfl) ?_
  show fR l κ mX8_refuseFor 0 [(0, .int (v))] [] M 1 6 _
  refine r_iload_n dX8_refuseFor_0 rfl ?_
  refine r_bipush (v := nI 13) dX8_refuseFor_1 (by decide) ?_
  refine r_icmp_ne (tgt := 17) dX8_refuseFor_3 (by decide) (fun c1 => ?_) (fun c1 => ?_)
  · exact absurd h c1
  · skip
    exact r_throwW xT_254_258 dX8_refuseFor_6 dX8_refuseFor_9 dX8_refuseFor_10 dX8_refuseFor_13 dX8_refuseFor_16 (List.mem_of_getElem? (i := 7) rfl) (by decide) (Nat.le_of_ble_eq_true rfl) (by decide) (by decide) rfl isX_of
theorem tX8_refuse_x {l : Launch} {κ : KP} {M : Mem} {v : Int32} (h0 : ¬ v = nI 0) (h : ¬ v = nI 13) : fM l κ mX8_refuseFor [.int (v)] M (isX "java/lang/IllegalStateException" M) := by
  refine fM_of rfl (by decide +kernel) (Nat.le_of_ble_eq_true rfl) ?_
  show fR l κ mX8_refuseFor 0 [(0, .int (v))] [] M 1 6 _
  refine r_iload_n dX8_refuseFor_0 rfl ?_
  refine r_bipush (v := nI 13) dX8_refuseFor_1 (by decide) ?_
  refine r_icmp_ne (tgt := 17) dX8_refuseFor_3 (by decide) (fun c1 => ?_) (fun c1 => ?_)
  · skip
    refine r_iload_n dX8_refuseFor_17 rfl ?_
    refine r_if_eq (tgt := 32) dX8_refuseFor_18 (by decide) (fun c2 => ?_) (fun c2 => ?_)
    · exact absurd c2 h0
    · skip
      exact r_throwW xT_177_181 dX8_refuseFor_21 dX8_refuseFor_24 dX8_refuseFor_25 dX8_refuseFor_28 dX8_refuseFor_31 (List.mem_of_getElem? (i := 8) rfl) (by decide) (Nat.le_of_ble_eq_true rfl) (by decide) (by decide) rfl isX_of
  · exact absurd c1 h
