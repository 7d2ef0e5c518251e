/-! STRING CONSTANTS: isEmpty, length, charAt -/
section FR63
variable {l : Launch} {κ : KP} {μ μ' : MD} {pc : Nat} {lv lv' : List (Nat × Value)} {st rest : List Value} {M M1 : Mem} {bc bs : Nat} {P P' : FPost}
theorem r_ishr {x y : Int32} (d : decode (mB μ) pc = .ok (.ishr, 1)) (kk : fR l κ μ (pc + 1) lv (.int (x >>> (y &&& 31)) :: st) M bc bs P) : fR l κ μ pc lv (.int y :: .int x :: st) M bc bs P := by
  intro p e s m args below meth c C H locs cells slots ls hW hS hl hc hs
  exact lv_ishr C.2.1 C.2.2.1 d (kk p e s m args below meth c C H locs cells slots ls hW hS hl hc hs)
theorem r_strV {idx j : Nat} (d : decode (mB μ) pc = .ok (.getfield idx, 3)) (hj : j < 6) (hlink : Cond.fieldLink (mY μ).cls idx "java/lang/String" "value" "[B" ∈ lw_tbl) (kk : fR l κ μ (pc + 3) lv (.ref (kV κ j) :: st) M bc bs P) : fR l κ μ pc lv (.ref (kK κ j) :: st) M bc bs P := by
  intro p e s m args below meth c C H locs cells slots ls hW hS hl hc hs
  have hE := C.2.2.2.2.2.2.2.2.2.2.1.2.2.2.2.2.1
  exact vk_getf C.2.1 C.2.2.1 (hE.1 j hj).2.2.1 hS C.2.2.2.2.2.1 (C.2.2.2.2.2.2.1 _ (lwG_of hlink rfl)) (fun x h => h) d (kk p e s m args below meth c C H locs cells slots ls hW hS hl hc hs)
theorem r_strC {idx j : Nat} (d : decode (mB μ) pc = .ok (.getfield idx, 3)) (hj : j < 6) (hlink : Cond.fieldLink (mY μ).cls idx "java/lang/String" "coder" "B" ∈ lw_tbl) (kk : fR l κ μ (pc + 3) lv (.int 0 :: st) M bc bs P) : fR l κ μ pc lv (.ref (kK κ j) :: st) M bc bs P := by
  intro p e s m args below meth c C H locs cells slots ls hW hS hl hc hs
  have hE := C.2.2.2.2.2.2.2.2.2.2.1.2.2.2.2.2.1
  exact vk_getf C.2.1 C.2.2.1 (hE.1 j hj).2.1 hS C.2.2.2.2.2.1 (C.2.2.2.2.2.2.1 _ (lwG_of hlink rfl)) (fun x h => h) d (kk p e s m args below meth c C H locs cells slots ls hW hS hl hc hs)
theorem r_strL {j : Nat} (d : decode (mB μ) pc = .ok (.arraylength, 1)) (hj : j < 6) (kk : fR l κ μ (pc + 1) lv (.int (nI (fLen.getD j 0)) :: st) M bc bs P) : fR l κ μ pc lv (.ref (kV κ j) :: st) M bc bs P := by
  intro p e s m args below meth c C H locs cells slots ls hW hS hl hc hs
  have hE := C.2.2.2.2.2.2.2.2.2.2.1.2.2.2.2.2.1
  exact va_tlen C.2.1 C.2.2.1 (hE.1 j hj).2.2.2 hS rfl d (kk p e s m args below meth c C H locs cells slots ls hW hS hl hc hs)
theorem r_strB {j i : Nat} (d : decode (mB μ) pc = .ok (.baload, 1)) (hj : j < 6) (hi : i < fLen.getD j 0) (hl9 : fLen.getD j 0 < 2 ^ 31) (kk : fR l κ μ (pc + 1) lv (.int ((fByt.getD j []).getD i 0) :: st) M bc bs P) : fR l κ μ pc lv (.int (nI i) :: .ref (kV κ j) :: st) M bc bs P := by
  intro p e s m args below meth c C H locs cells slots ls hW hS hl hc hs
  have hE := C.2.2.2.2.2.2.2.2.2.2.1.2.2.2.2.2.1
  exact va_tb C.2.1 C.2.2.1 (hE.1 j hj).2.2.2 hS (vp_in_nI hi hl9) (by rw [nI_clamp (by omega)]) d (kk p e s m args below meth c C H locs cells slots ls hW hS hl hc hs)
theorem r_getsCS {idx : Nat} (d : decode (mB μ) pc = .ok (.getstatic idx, 3)) (hlink : Cond.fieldLink (mY μ).cls idx "java/lang/String" "COMPACT_STRINGS" "Z" ∈ lw_tbl) (kk : fR l κ μ (pc + 3) lv (.int 1 :: st) M bc bs P) : fR l κ μ pc lv st M bc bs P := by
  intro p e s m args below meth c C H locs cells slots ls hW hS hl hc hs
  exact va_gets C.2.1 C.2.2.1 C.2.2.2.2.2.2.2.2.2.2.1.2.2.2.2.2.2.1 hS C.2.2.2.2.2.1 (C.2.2.2.2.2.2.1 _ (lwG_of hlink rfl)) (fun x h => h) d (kk p e s m args below meth c C H locs cells slots ls hW hS hl hc hs)
theorem r_getsSF {idx : Nat} (d : decode (mB μ) pc = .ok (.getstatic idx, 3)) (hlink : Cond.fieldLink (mY μ).cls idx "jdk/internal/util/Preconditions" "SIOOBE_FORMATTER" "Ljava/util/function/BiFunction;" ∈ lw_tbl) (k0 : fR l κ μ (pc + 3) lv (.null :: st) M bc bs P) (k1 : ∀ t, fR l κ μ (pc + 3) lv (.ref t :: st) M bc bs P) : fR l κ μ pc lv st M bc bs P := by
  intro p e s m args below meth c C H locs cells slots ls hW hS hl hc hs
  rcases C.2.2.2.2.2.2.2.2.2.2.1.2.2.2.2.2.2.2 with h | ⟨t, h⟩
  · exact va_gets C.2.1 C.2.2.1 h hS C.2.2.2.2.2.1 (C.2.2.2.2.2.2.1 _ (lwG_of hlink rfl)) (fun x h => h) d (k0 p e s m args below meth c C H locs cells slots ls hW hS hl hc hs)
  · exact va_gets C.2.1 C.2.2.1 h hS C.2.2.2.2.2.1 (C.2.2.2.2.2.2.1 _ (lwG_of hlink rfl)) (fun x h => h) d (k1 t p e s m args below meth c C H locs cells slots ls hW hS hl hc hs)
/-- a call of a method of String at a constant -/
theorem r_callStr {idx n j : Nat} {As : List Value} {v : Option Value} (d : decode (mB μ) pc = .ok (.invokevirtual idx, 3)) (hM : fM l κ μ' (.ref (kK κ j) :: As) M (isR v M)) (hst : st = As.reverse ++ .ref (kK κ j) :: rest)
    (hj : j < 6) (hq : (mY μ').cls = "java/lang/String") (hok : fOK μ' n) (hn : As.length = n) (hlink : Cond.methodLink (mY μ).cls idx (mY μ') ∈ lw_tbl) (hin : Cond.instanceMethod (mY μ') ∈ lw_tbl) (hse : Cond.selects (mY μ').cls (mY μ') (mY μ') ∈ lw_tbl)
    (hR : fRoom μ μ' bc bs) (hcat : (rest.map fun v => v.category).sum ≤ 8) (hH : mH μ = []) {bc' bs' : Nat} (hbc : bc' + (mR μ').cells = bc) (hbs : bs' + (mR μ').slots = bs)
    (kk : fR l κ μ (pc + 3) lv (v.toList ++ rest) M bc' bs' P) : fR l κ μ pc lv st M bc bs P := by
  subst hst
  intro p e s m args below meth c C H locs cells slots ls hW hS hl hc hs
  have hts := C.2.2.2.2.2.2.1
  have hE := C.2.2.2.2.2.2.2.2.2.2.1.2.2.2.2.2.1
  refine fR_run C hH hS hl hc hs hR.2.2 (vx_runV (As := As) (rest := rest) (n := n) (C := (mY μ').cls) (own := (mY μ).cls) (index := idx) ⟨C.2.1, C.2.2.1, C.2.2.2.2.1, C.2.2.2.2.2.1, hts⟩ (hM C.1) ⟨fcallB hts hok hlink hR, hts _ (lwG_of hin rfl), hts _ (lwG_of hse rfl)⟩ ⟨fP_blind, ?_, ?_⟩ rfl hn hl.1 rfl (lv_room hcat) d ⟨?_, ?_⟩) (fun v' M' h => by
      obtain ⟨h1, h2⟩ := h; cases h1; subst h2
      rw [show bc - (mR μ').cells = bc' by omega, show bs - (mR μ').slots = bs' by omega]; exact kk) (fun E M' h => by cases h.1)
  · rw [hq]; exact vk_recv hE hj hS
  · intro U hU hw
    exact ⟨rfl, by rw [hU]; exact hW.moved hw.alike, by rw [hU]; exact (C.2.2.2.2.2.2.2.2.2.2.1.at hS).moved hw.alike, fN.warm hw C.2.2.2.2.2.2.2.2.2.2.2.1, by rw [hU]; exact Nat.le_trans C.2.2.2.2.2.2.2.2.2.2.2.2 hS.1⟩
  · have := hR.2.2.1; omega
  · have := hR.2.2.2; omega
end FR63
def kdL : List (List Nat) := [[], [68], [80, 66], [78, 80, 42, 87, 47, 83], [80], [77]]
def kd (j i : Nat) : Nat := (kdL.getD j []).getD i 32
def sLen (j : Nat) : Nat := fLen.getD j 0
theorem sLen_lt {j : Nat} (h : j < 6) : sLen j ≤ 6 := by
  have hc : j = 0 ∨ j = 1 ∨ j = 2 ∨ j = 3 ∨ j = 4 ∨ j = 5 := by omega
  rcases hc with rfl | rfl | rfl | rfl | rfl | rfl <;> decide
theorem sLen_0 {j : Nat} (h : j < 6) : sLen j = 0 ↔ j = 0 := by
  have hc : j = 0 ∨ j = 1 ∨ j = 2 ∨ j = 3 ∨ j = 4 ∨ j = 5 := by omega
  rcases hc with rfl | rfl | rfl | rfl | rfl | rfl <;> decide
theorem chr_ok : ∀ j, j < 6 → ∀ i, i < 6 → i < fLen.getD j 0 → ((((fByt.getD j []).getD i 0) &&& nI 255).toUInt32 % 65536).toInt32 = nI (kd j i) := by decide
theorem kd_lt : ∀ j, j < 6 → ∀ i, i < 6 → kd j i < 128 := by decide
theorem kd_out {j i : Nat} (hj : j < 6) (h : sLen j ≤ i) : kd j i = 32 := by
  have hc : j = 0 ∨ j = 1 ∨ j = 2 ∨ j = 3 ∨ j = 4 ∨ j = 5 := by omega
  unfold kd
  rcases hc with rfl | rfl | rfl | rfl | rfl | rfl <;> rw [List.getD_eq_getElem?_getD, List.getElem?_eq_none h] <;> rfl
theorem tJ0_isEmpty {l : Launch} {κ : KP} {M : Mem} {j : Nat} (hj : j < 6) : fM l κ mJ0_isEmpty_aae02 [.ref (kK κ j)] M (isI (bI (decide (j = 0))) M) := by
  have h6 := sLen_lt hj
  have h0 := sLen_0 hj
  refine fM_ofF rfl (by decide +kernel) (Nat.le_of_ble_eq_true rfl) ?_
  show fR l κ mJ0_isEmpty_aae02 0 [(0, .ref (kK κ j))] [] M 0 0 _
  refine r_aload_n dJ0_isEmpty_aae02_0 rfl ?_
  refine r_strV dJ0_isEmpty_aae02_1 hj kJ0_9F ?_
  refine r_strL dJ0_isEmpty_aae02_4 hj ?_
  refine r_if_neN (a := sLen j) (tgt := 12) dJ0_isEmpty_aae02_5 (by decide) (by omega) (fun c1 => ?_) (fun c1 => ?_)
  · refine r_iconst (v := nI 0) dJ0_isEmpty_aae02_12 (by decide) ?_
    exact fR_zret dJ0_isEmpty_aae02_13 rfl rfl (isI_of (bJ_f (decide_eq_false (fun e => c1 (h0.mpr e)))))
  · refine r_iconst (v := nI 1) dJ0_isEmpty_aae02_8 (by decide) ?_
    refine r_goto (tgt := 13) dJ0_isEmpty_aae02_9 (by decide) ?_
    exact fR_zret dJ0_isEmpty_aae02_13 rfl rfl (isI_of (bJ_t (decide_eq_true (h0.mp (by omega)))))
theorem tJ0_coder {l : Launch} {κ : KP} {M : Mem} {j : Nat} (hj : j < 6) : fM l κ mJ0_coder_7d493 [.ref (kK κ j)] M (isI 0 M) := by
  refine fM_ofF rfl (by decide +kernel) (Nat.le_of_ble_eq_true rfl) ?_
  show fR l κ mJ0_coder_7d493 0 [(0, .ref (kK κ j))] [] M 0 0 _
  refine r_getsCS dJ0_coder_7d493_0 kJ0_38F ?_
  refine r_if_eq (tgt := 13) dJ0_coder_7d493_3 (by decide) (fun c1 => absurd c1 (by decide)) (fun c1 => ?_)
  refine r_aload_n dJ0_coder_7d493_6 rfl ?_
  refine r_strC dJ0_coder_7d493_7 hj kJ0_15F ?_
  refine r_goto (tgt := 14) dJ0_coder_7d493_10 (by decide) ?_
  exact fR_zret dJ0_coder_7d493_14 rfl rfl (isI_of rfl)
theorem tJ0_isLatin1 {l : Launch} {κ : KP} {M : Mem} {j : Nat} (hj : j < 6) : fM l κ mJ0_isLatin1_aae02 [.ref (kK κ j)] M (isI (bI true) M) := by
  refine fM_ofF rfl (by decide +kernel) (Nat.le_of_ble_eq_true rfl) ?_
  show fR l κ mJ0_isLatin1_aae02 0 [(0, .ref (kK κ j))] [] M 0 0 _
  refine r_getsCS dJ0_isLatin1_aae02_0 kJ0_38F ?_
  refine r_if_eq (tgt := 17) dJ0_isLatin1_aae02_3 (by decide) (fun c1 => absurd c1 (by decide)) (fun c1 => ?_)
  refine r_aload_n dJ0_isLatin1_aae02_6 rfl ?_
  refine r_strC dJ0_isLatin1_aae02_7 hj kJ0_15F ?_
  refine r_if_ne (tgt := 17) dJ0_isLatin1_aae02_10 (by decide) (fun c2 => absurd rfl c2) (fun c2 => ?_)
  refine r_iconst (v := nI 1) dJ0_isLatin1_aae02_13 (by decide) ?_
  refine r_goto (tgt := 18) dJ0_isLatin1_aae02_14 (by decide) ?_
  exact fR_zret dJ0_isLatin1_aae02_18 rfl rfl (isI_of rfl)
theorem tJ0_length {l : Launch} {κ : KP} {M : Mem} {j : Nat} (hj : j < 6) : fM l κ mJ0_length_8abf5 [.ref (kK κ j)] M (isI (nI (sLen j)) M) := by
  refine fM_ofF rfl (by decide +kernel) (Nat.le_of_ble_eq_true rfl) ?_
  show fR l κ mJ0_length_8abf5 0 [(0, .ref (kK κ j))] [] M 0 0 _
  refine r_aload_n dJ0_length_8abf5_0 rfl ?_
  refine r_strV dJ0_length_8abf5_1 hj kJ0_9F ?_
  refine r_strL dJ0_length_8abf5_4 hj ?_
  refine r_aload_n dJ0_length_8abf5_5 rfl ?_
  refine r_callStr (As := []) dJ0_length_8abf5_6 (tJ0_coder hj) rfl hj rfl oJ0_coder_7d493 rfl kJ0_335M nJ0_coder_7d493 eJ0_coder_7d493 (by unfold fRoom; decide) (Nat.le_of_ble_eq_true rfl) rfl (bc' := 0) (bs' := 0) rfl rfl ?_
  show fR _ _ _ 9 _ (.int 0 :: .int (nI (sLen j)) :: _) _ _ _ _
  refine r_ishr dJ0_length_8abf5_9 ?_
  refine fR_iret dJ0_length_8abf5_10 rfl (isI_of ?_)
  have hc : j = 0 ∨ j = 1 ∨ j = 2 ∨ j = 3 ∨ j = 4 ∨ j = 5 := by omega
  rcases hc with rfl | rfl | rfl | rfl | rfl | rfl <;> decide
theorem tJ3_check_n {l : Launch} {κ : KP} {M : Mem} {i n : Nat} (hi : i < n) (hn : n < 2 ^ 31) : fM l κ mJ3_checkIndex_8e157 [.int (nI i), .int (nI n), .null] M (isI (nI i) M) := by
  refine fM_ofF rfl (by decide +kernel) (Nat.le_of_ble_eq_true rfl) ?_
  show fR l κ mJ3_checkIndex_8e157 0 [(0, .int (nI i)), (1, .int (nI n)), (2, .null)] [] M 0 0 _
  refine r_iload_n dJ3_checkIndex_8e157_0 rfl ?_
  refine r_if_ltN (tgt := 9) dJ3_checkIndex_8e157_1 (by decide) (by omega) (fun c1 => absurd c1 (by omega)) (fun c1 => ?_)
  refine r_iload_n dJ3_checkIndex_8e157_4 rfl ?_
  refine r_iload_n dJ3_checkIndex_8e157_5 rfl ?_
  refine r_icmp_ltN (tgt := 16) dJ3_checkIndex_8e157_6 (by decide) (by omega) (by omega) (fun c2 => ?_) (fun c2 => absurd hi c2)
  refine r_iload_n dJ3_checkIndex_8e157_16 rfl ?_
  exact fR_iret dJ3_checkIndex_8e157_17 rfl (isI_of rfl)
theorem tJ3_check_r {l : Launch} {κ : KP} {M : Mem} {i n t : Nat} (hi : i < n) (hn : n < 2 ^ 31) : fM l κ mJ3_checkIndex_8e157 [.int (nI i), .int (nI n), .ref t] M (isI (nI i) M) := by
  refine fM_ofF rfl (by decide +kernel) (Nat.le_of_ble_eq_true rfl) ?_
  show fR l κ mJ3_checkIndex_8e157 0 [(0, .int (nI i)), (1, .int (nI n)), (2, .ref t)] [] M 0 0 _
  refine r_iload_n dJ3_checkIndex_8e157_0 rfl ?_
  refine r_if_ltN (tgt := 9) dJ3_checkIndex_8e157_1 (by decide) (by omega) (fun c1 => absurd c1 (by omega)) (fun c1 => ?_)
  refine r_iload_n dJ3_checkIndex_8e157_4 rfl ?_
  refine r_iload_n dJ3_checkIndex_8e157_5 rfl ?_
  refine r_icmp_ltN (tgt := 16) dJ3_checkIndex_8e157_6 (by decide) (by omega) (by omega) (fun c2 => ?_) (fun c2 => absurd hi c2)
  refine r_iload_n dJ3_checkIndex_8e157_16 rfl ?_
  exact fR_iret dJ3_checkIndex_8e157_17 rfl (isI_of rfl)
theorem tJ0_check {l : Launch} {κ : KP} {M : Mem} {i n : Nat} (hi : i < n) (hn : n < 2 ^ 31) : fM l κ mJ0_checkIndex_df160 [.int (nI i), .int (nI n)] M (isR none M) := by
  refine fM_ofF rfl (by decide +kernel) (Nat.le_of_ble_eq_true rfl) ?_
  show fR l κ mJ0_checkIndex_df160 0 [(0, .int (nI i)), (1, .int (nI n))] [] M 0 0 _
  refine r_iload_n dJ0_checkIndex_df160_0 rfl ?_
  refine r_iload_n dJ0_checkIndex_df160_1 rfl ?_
  refine r_getsSF dJ0_checkIndex_df160_2 kJ0_1053F ?_ (fun t => ?_)
  · refine r_callS (As := [.int (nI i), .int (nI n), .null]) dJ0_checkIndex_df160_5 (tJ3_check_n hi hn) rfl oJ3_checkIndex_8e157 rfl kJ0_1059M sJ3_checkIndex_8e157 (by unfold fRoom; decide) (Nat.le_of_ble_eq_true rfl) rfl (bc' := 0) (bs' := 0) rfl rfl ?_
    show fR _ _ _ 8 _ (.int (nI i) :: _) _ _ _ _
    refine r_pop dJ0_checkIndex_df160_8 rfl ?_
    exact fR_vret dJ0_checkIndex_df160_9 rfl isR_of
  · refine r_callS (As := [.int (nI i), .int (nI n), .ref t]) dJ0_checkIndex_df160_5 (tJ3_check_r hi hn) rfl oJ3_checkIndex_8e157 rfl kJ0_1059M sJ3_checkIndex_8e157 (by unfold fRoom; decide) (Nat.le_of_ble_eq_true rfl) rfl (bc' := 0) (bs' := 0) rfl rfl ?_
    show fR _ _ _ 8 _ (.int (nI i) :: _) _ _ _ _
    refine r_pop dJ0_checkIndex_df160_8 rfl ?_
    exact fR_vret dJ0_checkIndex_df160_9 rfl isR_of
theorem tJ1_charAt {l : Launch} {κ : KP} {M : Mem} {j i : Nat} (hj : j < 6) (hi : i < sLen j) : fM l κ mJ1_charAt_3b067 [.ref (kV κ j), .int (nI i)] M (isI (nI (kd j i)) M) := by
  have h6 := sLen_lt hj
  refine fM_ofF rfl (by decide +kernel) (Nat.le_of_ble_eq_true rfl) ?_
  show fR l κ mJ1_charAt_3b067 0 [(0, .ref (kV κ j)), (1, .int (nI i))] [] M 0 0 _
  refine r_iload_n dJ1_charAt_3b067_0 rfl ?_
  refine r_aload_n dJ1_charAt_3b067_1 rfl ?_
  refine r_strL dJ1_charAt_3b067_2 hj ?_
  refine r_callS (As := [.int (nI i), .int (nI (sLen j))]) dJ1_charAt_3b067_3 (tJ0_check hi (by omega)) rfl oJ0_checkIndex_df160 rfl kJ1_9M sJ0_checkIndex_df160 (by unfold fRoom; decide) (Nat.le_of_ble_eq_true rfl) rfl (bc' := 0) (bs' := 0) rfl rfl ?_
  show fR _ _ _ 6 _ _ _ _ _ _
  refine r_aload_n dJ1_charAt_3b067_6 rfl ?_
  refine r_iload_n dJ1_charAt_3b067_7 rfl ?_
  refine r_strB dJ1_charAt_3b067_8 hj hi (show sLen j < 2 ^ 31 by omega) ?_
  refine r_sipush (v := nI 255) dJ1_charAt_3b067_9 (by decide) ?_
  refine r_iand dJ1_charAt_3b067_12 ?_
  refine r_i2c dJ1_charAt_3b067_13 ?_
  rw [chr_ok j hj i (by omega) hi]
  refine fR_zret dJ1_charAt_3b067_14 rfl ?_ (isI_of rfl)
  have := kd_lt j hj i (by omega)
  exact congrArg Value.int (i2c_n (by omega))
theorem tJ0_charAt {l : Launch} {κ : KP} {M : Mem} {j i : Nat} (hj : j < 6) (hi : i < sLen j) : fM l κ mJ0_charAt_5068e [.ref (kK κ j), .int (nI i)] M (isI (nI (kd j i)) M) := by
  have h6 := sLen_lt hj
  refine fM_ofF rfl (by decide +kernel) (Nat.le_of_ble_eq_true rfl) ?_
  show fR l κ mJ0_charAt_5068e 0 [(0, .ref (kK κ j)), (1, .int (nI i))] [] M 0 0 _
  refine r_aload_n dJ0_charAt_5068e_0 rfl ?_
  refine r_callStr (As := []) dJ0_charAt_5068e_1 (tJ0_isLatin1 hj) rfl hj rfl oJ0_isLatin1_aae02 rfl kJ0_492M nJ0_isLatin1_aae02 eJ0_isLatin1_aae02 (by unfold fRoom; decide) (Nat.le_of_ble_eq_true rfl) rfl (bc' := 0) (bs' := 0) rfl rfl ?_
  show fR _ _ _ 4 _ (.int (bI true) :: _) _ _ _ _
  refine r_if_eqB (tgt := 16) dJ0_charAt_5068e_4 (by decide) (fun c1 => absurd c1 (by decide)) (fun c1 => ?_)
  refine r_aload_n dJ0_charAt_5068e_7 rfl ?_
  refine r_strV dJ0_charAt_5068e_8 hj kJ0_9F ?_
  refine r_iload_n dJ0_charAt_5068e_11 rfl ?_
  refine r_callS (As := [.ref (kV κ j), .int (nI i)]) dJ0_charAt_5068e_12 (tJ1_charAt hj hi) rfl oJ1_charAt_3b067 rfl kJ0_495M sJ1_charAt_3b067 (by unfold fRoom; decide) (Nat.le_of_ble_eq_true rfl) rfl (bc' := 0) (bs' := 0) rfl rfl ?_
  show fR _ _ _ 15 _ (.int (nI (kd j i)) :: _) _ _ _ _
  refine fR_zret dJ0_charAt_5068e_15 rfl ?_ (isI_of rfl)
  have := kd_lt j hj i (by omega)
  exact congrArg Value.int (i2c_n (by omega))
