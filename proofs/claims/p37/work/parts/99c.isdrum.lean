/-! A DRUM HANGS TOGETHER -/
theorem pDMask_t {f : Nat → Int32} {d k : Nat} (h : pIs f d true k) : pDMask f d (k + 1) = pDMask f d k ||| pNeed f k := by
  show _ ||| (if pIs f d true k then pNeed f k else nI 0) = _
  rw [if_pos h]
theorem pDMask_f {f : Nat → Int32} {d k : Nat} (h : ¬ pIs f d true k) : pDMask f d (k + 1) = pDMask f d k ||| nI 0 := by
  show _ ||| (if pIs f d true k then pNeed f k else nI 0) = _
  rw [if_neg h]
theorem lL_isDrum1 {l : Launch} {κ : KP} {M : Mem} {ad : Nat → Nat} {g tx : Nat → Int32} {dn n sn ln : Nat} {kp : Bool} (hA : aInj ad) (hC : ClsAt κ ad M ⟨g, sn, kp, tx, ln⟩ dn n) {d : Nat} (hd : d < dn) {P : FPost} (kk : fR l κ mL_isDrum 85 [(4, .int (nI (n))), (3, .int ((pDMask g d n))), (2, .int (nI ((pNum g d true n)))), (1, .int (nI (d))), (0, .ref (ad 254))] [] M 0 0 P) : ∀ (N j : Nat), N + j = n → fR l κ mL_isDrum 7 [(4, .int (nI (j))), (3, .int ((pDMask g d j))), (2, .int (nI ((pNum g d true j)))), (1, .int (nI (d))), (0, .ref (ad 254))] [] M 0 0 P := by
  have hI : BI g dn n := hC.2.2.1
  have hdn := hI.dle
  have hn := hI.nle
  have hsn : sn ≤ 6 := hC.2.1.s6
  have hpl : ∀ t, pNum g d true t ≤ t := fun t => pCnt_le _ t
  intro N
  induction N with
  | zero =>
    intro j hj
    refine r_iload dL_isDrum_7 rfl ?_
    refine r_aload_n dL_isDrum_9 rfl ?_
    refine r_iconst (v := nI 1) dL_isDrum_10 (by decide) ?_
    refine r_callV (As := [.int (nI (1))]) dL_isDrum_11 (fM_isI (v' := (nI (n))) (tZ_count hA hC (by omega)) hC.2.2.1.n0) rfl hC.1 rfl rfl oX8_countZ rfl kL_13M nX8_countZ eX8_countZ (by unfold fRoom; decide) (Nat.le_of_ble_eq_true rfl) rfl (bc' := 0) (bs' := 0) rfl rfl ?_
    show fR _ _ _ 14 _ (.int (nI (n)) :: _) _ _ _ _
    refine r_icmp_geN (tgt := 85) dL_isDrum_14 (by decide) (by omega) (by omega) (fun c1 => ?_) (fun c1 => ?_)
    · skip
      have ej : j = n := by omega
      rw [ej]
      skip
      exact kk
    · exact absurd c1 (by omega)
  | succ N ih =>
    intro j hj
    refine r_iload dL_isDrum_7 rfl ?_
    refine r_aload_n dL_isDrum_9 rfl ?_
    refine r_iconst (v := nI 1) dL_isDrum_10 (by decide) ?_
    refine r_callV (As := [.int (nI (1))]) dL_isDrum_11 (fM_isI (v' := (nI (n))) (tZ_count hA hC (by omega)) hC.2.2.1.n0) rfl hC.1 rfl rfl oX8_countZ rfl kL_13M nX8_countZ eX8_countZ (by unfold fRoom; decide) (Nat.le_of_ble_eq_true rfl) rfl (bc' := 0) (bs' := 0) rfl rfl ?_
    show fR _ _ _ 14 _ (.int (nI (n)) :: _) _ _ _ _
    refine r_icmp_geN (tgt := 85) dL_isDrum_14 (by decide) (by omega) (by omega) (fun c1 => ?_) (fun c1 => ?_)
    · exact absurd c1 (by omega)
    · skip
      refine r_aload_n dL_isDrum_17 rfl ?_
      refine r_iload dL_isDrum_18 rfl ?_
      refine r_iconst (v := nI 0) dL_isDrum_20 (by decide) ?_
      refine r_callV (As := [.int (nI (j)), .int (nI (0))]) dL_isDrum_21 (fM_isI (v' := (pOf g j 0)) (tZ_sampleOf hA hC (by omega) (by omega)) rfl) rfl hC.1 rfl rfl oX8_sampleOfZ rfl kL_23M nX8_sampleOfZ eX8_sampleOfZ (by unfold fRoom; decide) (Nat.le_of_ble_eq_true rfl) rfl (bc' := 0) (bs' := 0) rfl rfl ?_
      show fR _ _ _ 24 _ (.int (pOf g j 0) :: _) _ _ _ _
      refine r_iload_n dL_isDrum_24 rfl ?_
      refine r_icmp_ne (tgt := 43) dL_isDrum_25 (by decide) (fun c2 => ?_) (fun c2 => ?_)
      · skip
        refine r_iconst (v := nI 0) dL_isDrum_43 (by decide) ?_
        refine r_istore (lv' := [(5, .int (nI (0))), (4, .int (nI (j))), (3, .int ((pDMask g d j))), (2, .int (nI ((pNum g d true j)))), (1, .int (nI (d))), (0, .ref (ad 254))]) dL_isDrum_44 (by decide) rfl ?_
        refine r_iload_n dL_isDrum_46 rfl ?_
        refine r_iload dL_isDrum_47 rfl ?_
        refine r_if_eqN (tgt := 56) dL_isDrum_49 (by decide) (by omega) (fun c3 => ?_) (fun c3 => absurd c3 (by omega))
        refine r_iconst (v := nI 0) dL_isDrum_56 (by decide) ?_
        refine r_iaddN dL_isDrum_57 ?_
        refine r_istore_n (lv' := [(2, .int (nI (((pNum g d true j) + 0)))), (5, .int (nI (0))), (4, .int (nI (j))), (3, .int ((pDMask g d j))), (1, .int (nI (d))), (0, .ref (ad 254))]) dL_isDrum_58 (by decide) rfl ?_
        refine r_iload_n dL_isDrum_59 rfl ?_
        refine r_iload dL_isDrum_60 rfl ?_
        refine r_if_eqN (tgt := 76) dL_isDrum_62 (by decide) (by omega) (fun c4 => ?_) (fun c4 => absurd c4 (by omega))
        refine r_iconst (v := nI 0) dL_isDrum_76 (by decide) ?_
        refine r_ior dL_isDrum_77 ?_
        refine r_istore_n (lv' := [(3, .int ((((pDMask g d j)) ||| (nI (0))))), (2, .int (nI (((pNum g d true j) + 0)))), (5, .int (nI (0))), (4, .int (nI (j))), (1, .int (nI (d))), (0, .ref (ad 254))]) dL_isDrum_78 (by decide) rfl ?_
        refine r_iinc (v := (nI (j + 1))) (lv' := [(4, .int (nI (j + 1))), (3, .int ((((pDMask g d j)) ||| (nI (0))))), (2, .int (nI (((pNum g d true j) + 0)))), (5, .int (nI (0))), (1, .int (nI (d))), (0, .ref (ad 254))]) dL_isDrum_79 rfl (nI_inc _) (by decide) rfl ?_
        refine r_goto (tgt := 7) dL_isDrum_82 (by decide) ?_
        refine r_lv (lv' := [(4, .int (nI (j + 1))), (3, .int ((((pDMask g d j)) ||| (nI (0))))), (2, .int (nI (((pNum g d true j) + 0)))), (1, .int (nI (d))), (0, .ref (ad 254))]) (by simp) ?_
        rw [show (pNum g d true j + 0) = pNum g d true (j + 1) from pCnt_f (show ¬ pIs g d true j from fun z => by first | exact absurd z.1 (by assumption) | exact absurd (show pPen g j = -1 by assumption) z.2), ← (pDMask_f (show ¬ pIs g d true j from fun z => by first | exact absurd z.1 (by assumption) | exact absurd (show pPen g j = -1 by assumption) z.2))]
        exact ih (j + 1) (by omega)
      · skip
        refine r_aload_n dL_isDrum_28 rfl ?_
        refine r_iload dL_isDrum_29 rfl ?_
        refine r_iconst (v := nI 5) dL_isDrum_31 (by decide) ?_
        refine r_callV (As := [.int (nI (j)), .int (nI (5))]) dL_isDrum_32 (fM_isI (v' := (pPen g j)) (tZ_sampleOf hA hC (by omega) (by omega)) rfl) rfl hC.1 rfl rfl oX8_sampleOfZ rfl kL_23M nX8_sampleOfZ eX8_sampleOfZ (by unfold fRoom; decide) (Nat.le_of_ble_eq_true rfl) rfl (bc' := 0) (bs' := 0) rfl rfl ?_
        show fR _ _ _ 35 _ (.int (pPen g j) :: _) _ _ _ _
        refine r_iconst (v := (-1)) dL_isDrum_35 (by decide) ?_
        refine r_icmp_eq (tgt := 43) dL_isDrum_36 (by decide) (fun c5 => ?_) (fun c5 => ?_)
        · skip
          refine r_iconst (v := nI 0) dL_isDrum_43 (by decide) ?_
          refine r_istore (lv' := [(5, .int (nI (0))), (4, .int (nI (j))), (3, .int ((pDMask g d j))), (2, .int (nI ((pNum g d true j)))), (1, .int (nI (d))), (0, .ref (ad 254))]) dL_isDrum_44 (by decide) rfl ?_
          refine r_iload_n dL_isDrum_46 rfl ?_
          refine r_iload dL_isDrum_47 rfl ?_
          refine r_if_eqN (tgt := 56) dL_isDrum_49 (by decide) (by omega) (fun c6 => ?_) (fun c6 => absurd c6 (by omega))
          refine r_iconst (v := nI 0) dL_isDrum_56 (by decide) ?_
          refine r_iaddN dL_isDrum_57 ?_
          refine r_istore_n (lv' := [(2, .int (nI (((pNum g d true j) + 0)))), (5, .int (nI (0))), (4, .int (nI (j))), (3, .int ((pDMask g d j))), (1, .int (nI (d))), (0, .ref (ad 254))]) dL_isDrum_58 (by decide) rfl ?_
          refine r_iload_n dL_isDrum_59 rfl ?_
          refine r_iload dL_isDrum_60 rfl ?_
          refine r_if_eqN (tgt := 76) dL_isDrum_62 (by decide) (by omega) (fun c7 => ?_) (fun c7 => absurd c7 (by omega))
          refine r_iconst (v := nI 0) dL_isDrum_76 (by decide) ?_
          refine r_ior dL_isDrum_77 ?_
          refine r_istore_n (lv' := [(3, .int ((((pDMask g d j)) ||| (nI (0))))), (2, .int (nI (((pNum g d true j) + 0)))), (5, .int (nI (0))), (4, .int (nI (j))), (1, .int (nI (d))), (0, .ref (ad 254))]) dL_isDrum_78 (by decide) rfl ?_
          refine r_iinc (v := (nI (j + 1))) (lv' := [(4, .int (nI (j + 1))), (3, .int ((((pDMask g d j)) ||| (nI (0))))), (2, .int (nI (((pNum g d true j) + 0)))), (5, .int (nI (0))), (1, .int (nI (d))), (0, .ref (ad 254))]) dL_isDrum_79 rfl (nI_inc _) (by decide) rfl ?_
          refine r_goto (tgt := 7) dL_isDrum_82 (by decide) ?_
          refine r_lv (lv' := [(4, .int (nI (j + 1))), (3, .int ((((pDMask g d j)) ||| (nI (0))))), (2, .int (nI (((pNum g d true j) + 0)))), (1, .int (nI (d))), (0, .ref (ad 254))]) (by simp) ?_
          rw [show (pNum g d true j + 0) = pNum g d true (j + 1) from pCnt_f (show ¬ pIs g d true j from fun z => by first | exact absurd z.1 (by assumption) | exact absurd (show pPen g j = -1 by assumption) z.2), ← (pDMask_f (show ¬ pIs g d true j from fun z => by first | exact absurd z.1 (by assumption) | exact absurd (show pPen g j = -1 by assumption) z.2))]
          exact ih (j + 1) (by omega)
        · skip
          refine r_iconst (v := nI 1) dL_isDrum_39 (by decide) ?_
          refine r_goto (tgt := 44) dL_isDrum_40 (by decide) ?_
          refine r_istore (lv' := [(5, .int (nI (1))), (4, .int (nI (j))), (3, .int ((pDMask g d j))), (2, .int (nI ((pNum g d true j)))), (1, .int (nI (d))), (0, .ref (ad 254))]) dL_isDrum_44 (by decide) rfl ?_
          refine r_iload_n dL_isDrum_46 rfl ?_
          refine r_iload dL_isDrum_47 rfl ?_
          refine r_if_eqN (tgt := 56) dL_isDrum_49 (by decide) (by omega) (fun c8 => absurd c8 (by omega)) (fun c8 => ?_)
          refine r_iconst (v := nI 1) dL_isDrum_52 (by decide) ?_
          refine r_goto (tgt := 57) dL_isDrum_53 (by decide) ?_
          refine r_iaddN dL_isDrum_57 ?_
          refine r_istore_n (lv' := [(2, .int (nI (((pNum g d true j) + 1)))), (5, .int (nI (1))), (4, .int (nI (j))), (3, .int ((pDMask g d j))), (1, .int (nI (d))), (0, .ref (ad 254))]) dL_isDrum_58 (by decide) rfl ?_
          refine r_iload_n dL_isDrum_59 rfl ?_
          refine r_iload dL_isDrum_60 rfl ?_
          refine r_if_eqN (tgt := 76) dL_isDrum_62 (by decide) (by omega) (fun c9 => absurd c9 (by omega)) (fun c9 => ?_)
          refine r_aload_n dL_isDrum_65 rfl ?_
          refine r_iload dL_isDrum_66 rfl ?_
          refine r_bipush (v := nI 8) dL_isDrum_68 (by decide) ?_
          refine r_callV (As := [.int (nI (j)), .int (nI (8))]) dL_isDrum_70 (fM_isI (v' := (pNeed g j)) (tZ_sampleOf hA hC (by omega) (by omega)) rfl) rfl hC.1 rfl rfl oX8_sampleOfZ rfl kL_23M nX8_sampleOfZ eX8_sampleOfZ (by unfold fRoom; decide) (Nat.le_of_ble_eq_true rfl) rfl (bc' := 0) (bs' := 0) rfl rfl ?_
          show fR _ _ _ 73 _ (.int (pNeed g j) :: _) _ _ _ _
          refine r_goto (tgt := 77) dL_isDrum_73 (by decide) ?_
          refine r_ior dL_isDrum_77 ?_
          refine r_istore_n (lv' := [(3, .int ((((pDMask g d j)) ||| (pNeed g j)))), (2, .int (nI (((pNum g d true j) + 1)))), (5, .int (nI (1))), (4, .int (nI (j))), (1, .int (nI (d))), (0, .ref (ad 254))]) dL_isDrum_78 (by decide) rfl ?_
          refine r_iinc (v := (nI (j + 1))) (lv' := [(4, .int (nI (j + 1))), (3, .int ((((pDMask g d j)) ||| (pNeed g j)))), (2, .int (nI (((pNum g d true j) + 1)))), (5, .int (nI (1))), (1, .int (nI (d))), (0, .ref (ad 254))]) dL_isDrum_79 rfl (nI_inc _) (by decide) rfl ?_
          refine r_goto (tgt := 7) dL_isDrum_82 (by decide) ?_
          refine r_lv (lv' := [(4, .int (nI (j + 1))), (3, .int ((((pDMask g d j)) ||| (pNeed g j)))), (2, .int (nI (((pNum g d true j) + 1)))), (1, .int (nI (d))), (0, .ref (ad 254))]) (by simp) ?_
          rw [show (pNum g d true j + 1) = pNum g d true (j + 1) from pCnt_t (show pIs g d true j from ⟨by assumption, by show ¬ pPen g j = -1; assumption⟩), ← (pDMask_t (show pIs g d true j from ⟨by assumption, by show ¬ pPen g j = -1; assumption⟩))]
          exact ih (j + 1) (by omega)
theorem lL_isDrum_152 {l : Launch} {κ : KP} {M : Mem} {ad : Nat → Nat} {g tx : Nat → Int32} {dn n sn ln : Nat} {kp : Bool} (hA : aInj ad) (hC : ClsAt κ ad M ⟨g, sn, kp, tx, ln⟩ dn n) {d m : Nat} (hd : d < dn) (hm : m < 8) (em : pDMask g d n = nI m) (hz : m = 0 → pNum g d true n = 0) : fR l κ mL_isDrum 152 [(5, .int ((pWhyS g n d))), (4, .int ((pIndex g n d))), (3, .int (nI (m))), (2, .int (nI ((pNum g d true n)))), (1, .int (nI (d))), (0, .ref (ad 254))] [] M 0 0 (isI (nI 1) M) := by
  have hI : BI g dn n := hC.2.2.1
  have hdn := hI.dle
  have hn := hI.nle
  have hsn : sn ≤ 6 := hC.2.1.s6
  have hpl : pNum g d true n ≤ n := pCnt_le _ n
  have hbn : bitsN m ≤ 3 := by unfold bitsN; omega
  by_cases aG : g (10 + 3 * d + 2) = -1
  · skip
    refine r_iload dL_isDrum_152 rfl ?_
    refine r_bipush (v := nI 15) dL_isDrum_154 (by decide) ?_
    refine r_icmp_ne (tgt := 163) dL_isDrum_156 (by decide) (fun c1 => ?_) (fun c1 => by exact absurd c1 (pWhyS_n15 aG))
    refine r_iconst (v := nI 0) dL_isDrum_163 (by decide) ?_
    refine r_aload_n dL_isDrum_164 rfl ?_
    refine r_iload_n dL_isDrum_165 rfl ?_
    refine r_bipush (v := nI 8) dL_isDrum_166 (by decide) ?_
    refine r_callV (As := [.int (nI (d)), .int (nI (8))]) dL_isDrum_168 (fM_isI (v' := (g (10 + 3 * d + 2))) (tZ_drumOf hA hC (by omega) (by omega)) rfl) rfl hC.1 rfl rfl oX8_drumOfZ rfl kL_19M nX8_drumOfZ eX8_drumOfZ (by unfold fRoom; decide) (Nat.le_of_ble_eq_true rfl) rfl (bc' := 0) (bs' := 0) rfl rfl ?_
    show fR _ _ _ 171 _ (.int (g (10 + 3 * d + 2)) :: _) _ _ _ _
    refine r_iconst (v := (-1)) dL_isDrum_171 (by decide) ?_
    refine r_icmp_eq (tgt := 179) dL_isDrum_172 (by decide) (fun c2 => ?_) (fun c2 => by exact absurd aG c2)
    refine r_iconst (v := nI 0) dL_isDrum_179 (by decide) ?_
    refine r_icmp_neN (tgt := 253) dL_isDrum_180 (by decide) (by omega) (by omega) (fun c3 => absurd c3 (by omega)) (fun c3 => ?_)
    by_cases w0 : pWhyS g n d = 0
    · skip
      obtain ⟨q1, q2, q3, q4⟩ := pWhyS_at0 hI (w0.trans nI_0.symm) hm em hz
      refine r_iload dL_isDrum_183 rfl ?_
      refine r_if_ne (tgt := 217) dL_isDrum_185 (by decide) (fun c4 => by exact absurd w0 c4) (fun c4 => ?_)
      refine r_iload_n dL_isDrum_188 rfl ?_
      refine r_iconst (v := nI 2) dL_isDrum_189 (by decide) ?_
      refine r_icmp_ltN (tgt := 253) dL_isDrum_190 (by decide) (by omega) (by omega) (fun c5 => by omega) (fun c5 => ?_)
      refine r_iload_n dL_isDrum_193 rfl ?_
      refine r_callS (As := [.int (nI (m))]) dL_isDrum_194 (tL_bits hm) rfl oL_bits rfl kL_97M sL_bits (by unfold fRoom; decide) (Nat.le_of_ble_eq_true rfl) rfl (bc' := 0) (bs' := 0) rfl rfl ?_
      show fR _ _ _ 197 _ (.int (nI (bitsN m)) :: _) _ _ _ _
      refine r_iconst (v := nI 2) dL_isDrum_197 (by decide) ?_
      refine r_icmp_ltN (tgt := 253) dL_isDrum_198 (by decide) (by omega) (by omega) (fun c6 => by omega) (fun c6 => ?_)
      refine r_iload dL_isDrum_201 rfl ?_
      refine r_sipush (v := nI 980) dL_isDrum_203 (by decide) ?_
      refine r_icmp_lt (tgt := 253) dL_isDrum_206 (by decide) (fun c7 => by exact absurd c7 q3) (fun c7 => ?_)
      refine r_iload dL_isDrum_209 rfl ?_
      refine r_sipush (v := nI 1020) dL_isDrum_211 (by decide) ?_
      refine r_icmp_gt (tgt := 253) dL_isDrum_214 (by decide) (fun c8 => by exact absurd c8 q4) (fun c8 => ?_)
      by_cases w9 : pWhyS g n d = nI 9
      · skip
        have q9 := pWhyS_at9 w9
        refine r_iload dL_isDrum_217 rfl ?_
        refine r_bipush (v := nI 9) dL_isDrum_219 (by decide) ?_
        refine r_icmp_ne (tgt := 229) dL_isDrum_221 (by decide) (fun c9 => by exact absurd w9 c9) (fun c9 => ?_)
        refine r_iload_n dL_isDrum_224 rfl ?_
        refine r_iconst (v := nI 2) dL_isDrum_225 (by decide) ?_
        refine r_icmp_geN (tgt := 253) dL_isDrum_226 (by decide) (by omega) (by omega) (fun c10 => by omega) (fun c10 => ?_)
        by_cases wt : pWhyS g n d = nI 10
        · skip
          have q10 := pWhyS_at10 wt hm em
          refine r_iload dL_isDrum_229 rfl ?_
          refine r_bipush (v := nI 10) dL_isDrum_231 (by decide) ?_
          refine r_icmp_ne (tgt := 249) dL_isDrum_233 (by decide) (fun c11 => by exact absurd wt c11) (fun c11 => ?_)
          refine r_iload_n dL_isDrum_236 rfl ?_
          refine r_iconst (v := nI 2) dL_isDrum_237 (by decide) ?_
          refine r_icmp_ltN (tgt := 253) dL_isDrum_238 (by decide) (by omega) (by omega) (fun c12 => by omega) (fun c12 => ?_)
          refine r_iload_n dL_isDrum_241 rfl ?_
          refine r_callS (As := [.int (nI (m))]) dL_isDrum_242 (tL_bits hm) rfl oL_bits rfl kL_97M sL_bits (by unfold fRoom; decide) (Nat.le_of_ble_eq_true rfl) rfl (bc' := 0) (bs' := 0) rfl rfl ?_
          show fR _ _ _ 245 _ (.int (nI (bitsN m)) :: _) _ _ _ _
          refine r_iconst (v := nI 2) dL_isDrum_245 (by decide) ?_
          refine r_icmp_geN (tgt := 253) dL_isDrum_246 (by decide) (by omega) (by omega) (fun c13 => by omega) (fun c13 => ?_)
          refine r_iconst (v := nI 1) dL_isDrum_249 (by decide) ?_
          refine r_goto (tgt := 254) dL_isDrum_250 (by decide) ?_
          exact fR_zret dL_isDrum_254 rfl rfl (isI_of (by rfl))
        · skip
          refine r_iload dL_isDrum_229 rfl ?_
          refine r_bipush (v := nI 10) dL_isDrum_231 (by decide) ?_
          refine r_icmp_ne (tgt := 249) dL_isDrum_233 (by decide) (fun c14 => ?_) (fun c14 => by exact absurd c14 wt)
          refine r_iconst (v := nI 1) dL_isDrum_249 (by decide) ?_
          refine r_goto (tgt := 254) dL_isDrum_250 (by decide) ?_
          exact fR_zret dL_isDrum_254 rfl rfl (isI_of (by rfl))
      · skip
        refine r_iload dL_isDrum_217 rfl ?_
        refine r_bipush (v := nI 9) dL_isDrum_219 (by decide) ?_
        refine r_icmp_ne (tgt := 229) dL_isDrum_221 (by decide) (fun c15 => ?_) (fun c15 => by exact absurd c15 w9)
        by_cases wt : pWhyS g n d = nI 10
        · skip
          have q10 := pWhyS_at10 wt hm em
          refine r_iload dL_isDrum_229 rfl ?_
          refine r_bipush (v := nI 10) dL_isDrum_231 (by decide) ?_
          refine r_icmp_ne (tgt := 249) dL_isDrum_233 (by decide) (fun c16 => by exact absurd wt c16) (fun c16 => ?_)
          refine r_iload_n dL_isDrum_236 rfl ?_
          refine r_iconst (v := nI 2) dL_isDrum_237 (by decide) ?_
          refine r_icmp_ltN (tgt := 253) dL_isDrum_238 (by decide) (by omega) (by omega) (fun c17 => by omega) (fun c17 => ?_)
          refine r_iload_n dL_isDrum_241 rfl ?_
          refine r_callS (As := [.int (nI (m))]) dL_isDrum_242 (tL_bits hm) rfl oL_bits rfl kL_97M sL_bits (by unfold fRoom; decide) (Nat.le_of_ble_eq_true rfl) rfl (bc' := 0) (bs' := 0) rfl rfl ?_
          show fR _ _ _ 245 _ (.int (nI (bitsN m)) :: _) _ _ _ _
          refine r_iconst (v := nI 2) dL_isDrum_245 (by decide) ?_
          refine r_icmp_geN (tgt := 253) dL_isDrum_246 (by decide) (by omega) (by omega) (fun c18 => by omega) (fun c18 => ?_)
          refine r_iconst (v := nI 1) dL_isDrum_249 (by decide) ?_
          refine r_goto (tgt := 254) dL_isDrum_250 (by decide) ?_
          exact fR_zret dL_isDrum_254 rfl rfl (isI_of (by rfl))
        · skip
          refine r_iload dL_isDrum_229 rfl ?_
          refine r_bipush (v := nI 10) dL_isDrum_231 (by decide) ?_
          refine r_icmp_ne (tgt := 249) dL_isDrum_233 (by decide) (fun c19 => ?_) (fun c19 => by exact absurd c19 wt)
          refine r_iconst (v := nI 1) dL_isDrum_249 (by decide) ?_
          refine r_goto (tgt := 254) dL_isDrum_250 (by decide) ?_
          exact fR_zret dL_isDrum_254 rfl rfl (isI_of (by rfl))
    · skip
      refine r_iload dL_isDrum_183 rfl ?_
      refine r_if_ne (tgt := 217) dL_isDrum_185 (by decide) (fun c20 => ?_) (fun c20 => by exact absurd c20 w0)
      by_cases w9 : pWhyS g n d = nI 9
      · skip
        have q9 := pWhyS_at9 w9
        refine r_iload dL_isDrum_217 rfl ?_
        refine r_bipush (v := nI 9) dL_isDrum_219 (by decide) ?_
        refine r_icmp_ne (tgt := 229) dL_isDrum_221 (by decide) (fun c21 => by exact absurd w9 c21) (fun c21 => ?_)
        refine r_iload_n dL_isDrum_224 rfl ?_
        refine r_iconst (v := nI 2) dL_isDrum_225 (by decide) ?_
        refine r_icmp_geN (tgt := 253) dL_isDrum_226 (by decide) (by omega) (by omega) (fun c22 => by omega) (fun c22 => ?_)
        by_cases wt : pWhyS g n d = nI 10
        · skip
          have q10 := pWhyS_at10 wt hm em
          refine r_iload dL_isDrum_229 rfl ?_
          refine r_bipush (v := nI 10) dL_isDrum_231 (by decide) ?_
          refine r_icmp_ne (tgt := 249) dL_isDrum_233 (by decide) (fun c23 => by exact absurd wt c23) (fun c23 => ?_)
          refine r_iload_n dL_isDrum_236 rfl ?_
          refine r_iconst (v := nI 2) dL_isDrum_237 (by decide) ?_
          refine r_icmp_ltN (tgt := 253) dL_isDrum_238 (by decide) (by omega) (by omega) (fun c24 => by omega) (fun c24 => ?_)
          refine r_iload_n dL_isDrum_241 rfl ?_
          refine r_callS (As := [.int (nI (m))]) dL_isDrum_242 (tL_bits hm) rfl oL_bits rfl kL_97M sL_bits (by unfold fRoom; decide) (Nat.le_of_ble_eq_true rfl) rfl (bc' := 0) (bs' := 0) rfl rfl ?_
          show fR _ _ _ 245 _ (.int (nI (bitsN m)) :: _) _ _ _ _
          refine r_iconst (v := nI 2) dL_isDrum_245 (by decide) ?_
          refine r_icmp_geN (tgt := 253) dL_isDrum_246 (by decide) (by omega) (by omega) (fun c25 => by omega) (fun c25 => ?_)
          refine r_iconst (v := nI 1) dL_isDrum_249 (by decide) ?_
          refine r_goto (tgt := 254) dL_isDrum_250 (by decide) ?_
          exact fR_zret dL_isDrum_254 rfl rfl (isI_of (by rfl))
        · skip
          refine r_iload dL_isDrum_229 rfl ?_
          refine r_bipush (v := nI 10) dL_isDrum_231 (by decide) ?_
          refine r_icmp_ne (tgt := 249) dL_isDrum_233 (by decide) (fun c26 => ?_) (fun c26 => by exact absurd c26 wt)
          refine r_iconst (v := nI 1) dL_isDrum_249 (by decide) ?_
          refine r_goto (tgt := 254) dL_isDrum_250 (by decide) ?_
          exact fR_zret dL_isDrum_254 rfl rfl (isI_of (by rfl))
      · skip
        refine r_iload dL_isDrum_217 rfl ?_
        refine r_bipush (v := nI 9) dL_isDrum_219 (by decide) ?_
        refine r_icmp_ne (tgt := 229) dL_isDrum_221 (by decide) (fun c27 => ?_) (fun c27 => by exact absurd c27 w9)
        by_cases wt : pWhyS g n d = nI 10
        · skip
          have q10 := pWhyS_at10 wt hm em
          refine r_iload dL_isDrum_229 rfl ?_
          refine r_bipush (v := nI 10) dL_isDrum_231 (by decide) ?_
          refine r_icmp_ne (tgt := 249) dL_isDrum_233 (by decide) (fun c28 => by exact absurd wt c28) (fun c28 => ?_)
          refine r_iload_n dL_isDrum_236 rfl ?_
          refine r_iconst (v := nI 2) dL_isDrum_237 (by decide) ?_
          refine r_icmp_ltN (tgt := 253) dL_isDrum_238 (by decide) (by omega) (by omega) (fun c29 => by omega) (fun c29 => ?_)
          refine r_iload_n dL_isDrum_241 rfl ?_
          refine r_callS (As := [.int (nI (m))]) dL_isDrum_242 (tL_bits hm) rfl oL_bits rfl kL_97M sL_bits (by unfold fRoom; decide) (Nat.le_of_ble_eq_true rfl) rfl (bc' := 0) (bs' := 0) rfl rfl ?_
          show fR _ _ _ 245 _ (.int (nI (bitsN m)) :: _) _ _ _ _
          refine r_iconst (v := nI 2) dL_isDrum_245 (by decide) ?_
          refine r_icmp_geN (tgt := 253) dL_isDrum_246 (by decide) (by omega) (by omega) (fun c30 => by omega) (fun c30 => ?_)
          refine r_iconst (v := nI 1) dL_isDrum_249 (by decide) ?_
          refine r_goto (tgt := 254) dL_isDrum_250 (by decide) ?_
          exact fR_zret dL_isDrum_254 rfl rfl (isI_of (by rfl))
        · skip
          refine r_iload dL_isDrum_229 rfl ?_
          refine r_bipush (v := nI 10) dL_isDrum_231 (by decide) ?_
          refine r_icmp_ne (tgt := 249) dL_isDrum_233 (by decide) (fun c31 => ?_) (fun c31 => by exact absurd c31 wt)
          refine r_iconst (v := nI 1) dL_isDrum_249 (by decide) ?_
          refine r_goto (tgt := 254) dL_isDrum_250 (by decide) ?_
          exact fR_zret dL_isDrum_254 rfl rfl (isI_of (by rfl))
  · skip
    refine r_iload dL_isDrum_152 rfl ?_
    refine r_bipush (v := nI 15) dL_isDrum_154 (by decide) ?_
    refine r_icmp_ne (tgt := 163) dL_isDrum_156 (by decide) (fun c32 => by exact absurd (pWhyS_15 aG) c32) (fun c32 => ?_)
    refine r_iconst (v := nI 1) dL_isDrum_159 (by decide) ?_
    refine r_goto (tgt := 164) dL_isDrum_160 (by decide) ?_
    refine r_aload_n dL_isDrum_164 rfl ?_
    refine r_iload_n dL_isDrum_165 rfl ?_
    refine r_bipush (v := nI 8) dL_isDrum_166 (by decide) ?_
    refine r_callV (As := [.int (nI (d)), .int (nI (8))]) dL_isDrum_168 (fM_isI (v' := (g (10 + 3 * d + 2))) (tZ_drumOf hA hC (by omega) (by omega)) rfl) rfl hC.1 rfl rfl oX8_drumOfZ rfl kL_19M nX8_drumOfZ eX8_drumOfZ (by unfold fRoom; decide) (Nat.le_of_ble_eq_true rfl) rfl (bc' := 0) (bs' := 0) rfl rfl ?_
    show fR _ _ _ 171 _ (.int (g (10 + 3 * d + 2)) :: _) _ _ _ _
    refine r_iconst (v := (-1)) dL_isDrum_171 (by decide) ?_
    refine r_icmp_eq (tgt := 179) dL_isDrum_172 (by decide) (fun c33 => by exact absurd c33 aG) (fun c33 => ?_)
    refine r_iconst (v := nI 1) dL_isDrum_175 (by decide) ?_
    refine r_goto (tgt := 180) dL_isDrum_176 (by decide) ?_
    refine r_icmp_neN (tgt := 253) dL_isDrum_180 (by decide) (by omega) (by omega) (fun c34 => absurd c34 (by omega)) (fun c34 => ?_)
    by_cases w0 : pWhyS g n d = 0
    · skip
      obtain ⟨q1, q2, q3, q4⟩ := pWhyS_at0 hI (w0.trans nI_0.symm) hm em hz
      refine r_iload dL_isDrum_183 rfl ?_
      refine r_if_ne (tgt := 217) dL_isDrum_185 (by decide) (fun c35 => by exact absurd w0 c35) (fun c35 => ?_)
      refine r_iload_n dL_isDrum_188 rfl ?_
      refine r_iconst (v := nI 2) dL_isDrum_189 (by decide) ?_
      refine r_icmp_ltN (tgt := 253) dL_isDrum_190 (by decide) (by omega) (by omega) (fun c36 => by omega) (fun c36 => ?_)
      refine r_iload_n dL_isDrum_193 rfl ?_
      refine r_callS (As := [.int (nI (m))]) dL_isDrum_194 (tL_bits hm) rfl oL_bits rfl kL_97M sL_bits (by unfold fRoom; decide) (Nat.le_of_ble_eq_true rfl) rfl (bc' := 0) (bs' := 0) rfl rfl ?_
      show fR _ _ _ 197 _ (.int (nI (bitsN m)) :: _) _ _ _ _
      refine r_iconst (v := nI 2) dL_isDrum_197 (by decide) ?_
      refine r_icmp_ltN (tgt := 253) dL_isDrum_198 (by decide) (by omega) (by omega) (fun c37 => by omega) (fun c37 => ?_)
      refine r_iload dL_isDrum_201 rfl ?_
      refine r_sipush (v := nI 980) dL_isDrum_203 (by decide) ?_
      refine r_icmp_lt (tgt := 253) dL_isDrum_206 (by decide) (fun c38 => by exact absurd c38 q3) (fun c38 => ?_)
      refine r_iload dL_isDrum_209 rfl ?_
      refine r_sipush (v := nI 1020) dL_isDrum_211 (by decide) ?_
      refine r_icmp_gt (tgt := 253) dL_isDrum_214 (by decide) (fun c39 => by exact absurd c39 q4) (fun c39 => ?_)
      by_cases w9 : pWhyS g n d = nI 9
      · skip
        have q9 := pWhyS_at9 w9
        refine r_iload dL_isDrum_217 rfl ?_
        refine r_bipush (v := nI 9) dL_isDrum_219 (by decide) ?_
        refine r_icmp_ne (tgt := 229) dL_isDrum_221 (by decide) (fun c40 => by exact absurd w9 c40) (fun c40 => ?_)
        refine r_iload_n dL_isDrum_224 rfl ?_
        refine r_iconst (v := nI 2) dL_isDrum_225 (by decide) ?_
        refine r_icmp_geN (tgt := 253) dL_isDrum_226 (by decide) (by omega) (by omega) (fun c41 => by omega) (fun c41 => ?_)
        by_cases wt : pWhyS g n d = nI 10
        · skip
          have q10 := pWhyS_at10 wt hm em
          refine r_iload dL_isDrum_229 rfl ?_
          refine r_bipush (v := nI 10) dL_isDrum_231 (by decide) ?_
          refine r_icmp_ne (tgt := 249) dL_isDrum_233 (by decide) (fun c42 => by exact absurd wt c42) (fun c42 => ?_)
          refine r_iload_n dL_isDrum_236 rfl ?_
          refine r_iconst (v := nI 2) dL_isDrum_237 (by decide) ?_
          refine r_icmp_ltN (tgt := 253) dL_isDrum_238 (by decide) (by omega) (by omega) (fun c43 => by omega) (fun c43 => ?_)
          refine r_iload_n dL_isDrum_241 rfl ?_
          refine r_callS (As := [.int (nI (m))]) dL_isDrum_242 (tL_bits hm) rfl oL_bits rfl kL_97M sL_bits (by unfold fRoom; decide) (Nat.le_of_ble_eq_true rfl) rfl (bc' := 0) (bs' := 0) rfl rfl ?_
          show fR _ _ _ 245 _ (.int (nI (bitsN m)) :: _) _ _ _ _
          refine r_iconst (v := nI 2) dL_isDrum_245 (by decide) ?_
          refine r_icmp_geN (tgt := 253) dL_isDrum_246 (by decide) (by omega) (by omega) (fun c44 => by omega) (fun c44 => ?_)
          refine r_iconst (v := nI 1) dL_isDrum_249 (by decide) ?_
          refine r_goto (tgt := 254) dL_isDrum_250 (by decide) ?_
          exact fR_zret dL_isDrum_254 rfl rfl (isI_of (by rfl))
        · skip
          refine r_iload dL_isDrum_229 rfl ?_
          refine r_bipush (v := nI 10) dL_isDrum_231 (by decide) ?_
          refine r_icmp_ne (tgt := 249) dL_isDrum_233 (by decide) (fun c45 => ?_) (fun c45 => by exact absurd c45 wt)
          refine r_iconst (v := nI 1) dL_isDrum_249 (by decide) ?_
          refine r_goto (tgt := 254) dL_isDrum_250 (by decide) ?_
          exact fR_zret dL_isDrum_254 rfl rfl (isI_of (by rfl))
      · skip
        refine r_iload dL_isDrum_217 rfl ?_
        refine r_bipush (v := nI 9) dL_isDrum_219 (by decide) ?_
        refine r_icmp_ne (tgt := 229) dL_isDrum_221 (by decide) (fun c46 => ?_) (fun c46 => by exact absurd c46 w9)
        by_cases wt : pWhyS g n d = nI 10
        · skip
          have q10 := pWhyS_at10 wt hm em
          refine r_iload dL_isDrum_229 rfl ?_
          refine r_bipush (v := nI 10) dL_isDrum_231 (by decide) ?_
          refine r_icmp_ne (tgt := 249) dL_isDrum_233 (by decide) (fun c47 => by exact absurd wt c47) (fun c47 => ?_)
          refine r_iload_n dL_isDrum_236 rfl ?_
          refine r_iconst (v := nI 2) dL_isDrum_237 (by decide) ?_
          refine r_icmp_ltN (tgt := 253) dL_isDrum_238 (by decide) (by omega) (by omega) (fun c48 => by omega) (fun c48 => ?_)
          refine r_iload_n dL_isDrum_241 rfl ?_
          refine r_callS (As := [.int (nI (m))]) dL_isDrum_242 (tL_bits hm) rfl oL_bits rfl kL_97M sL_bits (by unfold fRoom; decide) (Nat.le_of_ble_eq_true rfl) rfl (bc' := 0) (bs' := 0) rfl rfl ?_
          show fR _ _ _ 245 _ (.int (nI (bitsN m)) :: _) _ _ _ _
          refine r_iconst (v := nI 2) dL_isDrum_245 (by decide) ?_
          refine r_icmp_geN (tgt := 253) dL_isDrum_246 (by decide) (by omega) (by omega) (fun c49 => by omega) (fun c49 => ?_)
          refine r_iconst (v := nI 1) dL_isDrum_249 (by decide) ?_
          refine r_goto (tgt := 254) dL_isDrum_250 (by decide) ?_
          exact fR_zret dL_isDrum_254 rfl rfl (isI_of (by rfl))
        · skip
          refine r_iload dL_isDrum_229 rfl ?_
          refine r_bipush (v := nI 10) dL_isDrum_231 (by decide) ?_
          refine r_icmp_ne (tgt := 249) dL_isDrum_233 (by decide) (fun c50 => ?_) (fun c50 => by exact absurd c50 wt)
          refine r_iconst (v := nI 1) dL_isDrum_249 (by decide) ?_
          refine r_goto (tgt := 254) dL_isDrum_250 (by decide) ?_
          exact fR_zret dL_isDrum_254 rfl rfl (isI_of (by rfl))
    · skip
      refine r_iload dL_isDrum_183 rfl ?_
      refine r_if_ne (tgt := 217) dL_isDrum_185 (by decide) (fun c51 => ?_) (fun c51 => by exact absurd c51 w0)
      by_cases w9 : pWhyS g n d = nI 9
      · skip
        have q9 := pWhyS_at9 w9
        refine r_iload dL_isDrum_217 rfl ?_
        refine r_bipush (v := nI 9) dL_isDrum_219 (by decide) ?_
        refine r_icmp_ne (tgt := 229) dL_isDrum_221 (by decide) (fun c52 => by exact absurd w9 c52) (fun c52 => ?_)
        refine r_iload_n dL_isDrum_224 rfl ?_
        refine r_iconst (v := nI 2) dL_isDrum_225 (by decide) ?_
        refine r_icmp_geN (tgt := 253) dL_isDrum_226 (by decide) (by omega) (by omega) (fun c53 => by omega) (fun c53 => ?_)
        by_cases wt : pWhyS g n d = nI 10
        · skip
          have q10 := pWhyS_at10 wt hm em
          refine r_iload dL_isDrum_229 rfl ?_
          refine r_bipush (v := nI 10) dL_isDrum_231 (by decide) ?_
          refine r_icmp_ne (tgt := 249) dL_isDrum_233 (by decide) (fun c54 => by exact absurd wt c54) (fun c54 => ?_)
          refine r_iload_n dL_isDrum_236 rfl ?_
          refine r_iconst (v := nI 2) dL_isDrum_237 (by decide) ?_
          refine r_icmp_ltN (tgt := 253) dL_isDrum_238 (by decide) (by omega) (by omega) (fun c55 => by omega) (fun c55 => ?_)
          refine r_iload_n dL_isDrum_241 rfl ?_
          refine r_callS (As := [.int (nI (m))]) dL_isDrum_242 (tL_bits hm) rfl oL_bits rfl kL_97M sL_bits (by unfold fRoom; decide) (Nat.le_of_ble_eq_true rfl) rfl (bc' := 0) (bs' := 0) rfl rfl ?_
          show fR _ _ _ 245 _ (.int (nI (bitsN m)) :: _) _ _ _ _
          refine r_iconst (v := nI 2) dL_isDrum_245 (by decide) ?_
          refine r_icmp_geN (tgt := 253) dL_isDrum_246 (by decide) (by omega) (by omega) (fun c56 => by omega) (fun c56 => ?_)
          refine r_iconst (v := nI 1) dL_isDrum_249 (by decide) ?_
          refine r_goto (tgt := 254) dL_isDrum_250 (by decide) ?_
          exact fR_zret dL_isDrum_254 rfl rfl (isI_of (by rfl))
        · skip
          refine r_iload dL_isDrum_229 rfl ?_
          refine r_bipush (v := nI 10) dL_isDrum_231 (by decide) ?_
          refine r_icmp_ne (tgt := 249) dL_isDrum_233 (by decide) (fun c57 => ?_) (fun c57 => by exact absurd c57 wt)
          refine r_iconst (v := nI 1) dL_isDrum_249 (by decide) ?_
          refine r_goto (tgt := 254) dL_isDrum_250 (by decide) ?_
          exact fR_zret dL_isDrum_254 rfl rfl (isI_of (by rfl))
      · skip
        refine r_iload dL_isDrum_217 rfl ?_
        refine r_bipush (v := nI 9) dL_isDrum_219 (by decide) ?_
        refine r_icmp_ne (tgt := 229) dL_isDrum_221 (by decide) (fun c58 => ?_) (fun c58 => by exact absurd c58 w9)
        by_cases wt : pWhyS g n d = nI 10
        · skip
          have q10 := pWhyS_at10 wt hm em
          refine r_iload dL_isDrum_229 rfl ?_
          refine r_bipush (v := nI 10) dL_isDrum_231 (by decide) ?_
          refine r_icmp_ne (tgt := 249) dL_isDrum_233 (by decide) (fun c59 => by exact absurd wt c59) (fun c59 => ?_)
          refine r_iload_n dL_isDrum_236 rfl ?_
          refine r_iconst (v := nI 2) dL_isDrum_237 (by decide) ?_
          refine r_icmp_ltN (tgt := 253) dL_isDrum_238 (by decide) (by omega) (by omega) (fun c60 => by omega) (fun c60 => ?_)
          refine r_iload_n dL_isDrum_241 rfl ?_
          refine r_callS (As := [.int (nI (m))]) dL_isDrum_242 (tL_bits hm) rfl oL_bits rfl kL_97M sL_bits (by unfold fRoom; decide) (Nat.le_of_ble_eq_true rfl) rfl (bc' := 0) (bs' := 0) rfl rfl ?_
          show fR _ _ _ 245 _ (.int (nI (bitsN m)) :: _) _ _ _ _
          refine r_iconst (v := nI 2) dL_isDrum_245 (by decide) ?_
          refine r_icmp_geN (tgt := 253) dL_isDrum_246 (by decide) (by omega) (by omega) (fun c61 => by omega) (fun c61 => ?_)
          refine r_iconst (v := nI 1) dL_isDrum_249 (by decide) ?_
          refine r_goto (tgt := 254) dL_isDrum_250 (by decide) ?_
          exact fR_zret dL_isDrum_254 rfl rfl (isI_of (by rfl))
        · skip
          refine r_iload dL_isDrum_229 rfl ?_
          refine r_bipush (v := nI 10) dL_isDrum_231 (by decide) ?_
          refine r_icmp_ne (tgt := 249) dL_isDrum_233 (by decide) (fun c62 => ?_) (fun c62 => by exact absurd c62 wt)
          refine r_iconst (v := nI 1) dL_isDrum_249 (by decide) ?_
          refine r_goto (tgt := 254) dL_isDrum_250 (by decide) ?_
          exact fR_zret dL_isDrum_254 rfl rfl (isI_of (by rfl))
theorem lL_isDrum_85 {l : Launch} {κ : KP} {M : Mem} {ad : Nat → Nat} {g tx : Nat → Int32} {dn n sn ln : Nat} {kp : Bool} (hA : aInj ad) (hC : ClsAt κ ad M ⟨g, sn, kp, tx, ln⟩ dn n) {d m : Nat} (hd : d < dn) (hm : m < 8) (em : pDMask g d n = nI m) (hz : m = 0 → pNum g d true n = 0) : fR l κ mL_isDrum 85 [(4, .int (nI (n))), (3, .int (nI (m))), (2, .int (nI ((pNum g d true n)))), (1, .int (nI (d))), (0, .ref (ad 254))] [] M 0 0 (isI (nI 1) M) := by
  have hI : BI g dn n := hC.2.2.1
  have hdn := hI.dle
  have hn := hI.nle
  have hsn : sn ≤ 6 := hC.2.1.s6
  have hpl : pNum g d true n ≤ n := pCnt_le _ n
  have hbn : bitsN m ≤ 3 := by unfold bitsN; omega
  by_cases a4 : pMean g n d true = -1
  · skip
    refine r_aload_n dL_isDrum_85 rfl ?_
    refine r_iload_n dL_isDrum_86 rfl ?_
    refine r_bipush (v := nI 6) dL_isDrum_87 (by decide) ?_
    refine r_callV (As := [.int (nI (d)), .int (nI (6))]) dL_isDrum_89 (fM_isI (v' := (pIndex g n d)) (tZ_drumOf hA hC (by omega) (by omega)) rfl) rfl hC.1 rfl rfl oX8_drumOfZ rfl kL_19M nX8_drumOfZ eX8_drumOfZ (by unfold fRoom; decide) (Nat.le_of_ble_eq_true rfl) rfl (bc' := 0) (bs' := 0) rfl rfl ?_
    show fR _ _ _ 92 _ (.int (pIndex g n d) :: _) _ _ _ _
    by_cases a5 : pMean g n d false = -1
    · skip
      refine r_istore (lv' := [(4, .int (pIndex g n d)), (3, .int (nI (m))), (2, .int (nI ((pNum g d true n)))), (1, .int (nI (d))), (0, .ref (ad 254))]) dL_isDrum_92 (by decide) rfl ?_
      refine r_aload_n dL_isDrum_94 rfl ?_
      refine r_iload_n dL_isDrum_95 rfl ?_
      refine r_callV (As := [.int (nI (d))]) dL_isDrum_96 (fM_isI (v' := (pWhyS g n d)) (tZ_noSale hA hC (by omega)) rfl) rfl hC.1 rfl rfl oX8_noSaleZ rfl kL_71M nX8_noSaleZ eX8_noSaleZ (by unfold fRoom; decide) (Nat.le_of_ble_eq_true rfl) rfl (bc' := 0) (bs' := 0) rfl rfl ?_
      show fR _ _ _ 99 _ (.int (pWhyS g n d) :: _) _ _ _ _
      refine r_istore (lv' := [(5, .int (pWhyS g n d)), (4, .int (pIndex g n d)), (3, .int (nI (m))), (2, .int (nI ((pNum g d true n)))), (1, .int (nI (d))), (0, .ref (ad 254))]) dL_isDrum_99 (by decide) rfl ?_
      refine r_aload_n dL_isDrum_101 rfl ?_
      refine r_iload_n dL_isDrum_102 rfl ?_
      refine r_bipush (v := nI 7) dL_isDrum_103 (by decide) ?_
      refine r_callV (As := [.int (nI (d)), .int (nI (7))]) dL_isDrum_105 (fM_isI (v' := (pIndex g n d)) (tZ_drumOf hA hC (by omega) (by omega)) rfl) rfl hC.1 rfl rfl oX8_drumOfZ rfl kL_19M nX8_drumOfZ eX8_drumOfZ (by unfold fRoom; decide) (Nat.le_of_ble_eq_true rfl) rfl (bc' := 0) (bs' := 0) rfl rfl ?_
      show fR _ _ _ 108 _ (.int (pIndex g n d) :: _) _ _ _ _
      refine r_iload dL_isDrum_108 rfl ?_
      refine r_icmp_ne (tgt := 253) dL_isDrum_110 (by decide) (fun c1 => by exact absurd rfl c1) (fun c1 => ?_)
      refine r_iload dL_isDrum_113 rfl ?_
      refine r_iconst (v := (-1)) dL_isDrum_115 (by decide) ?_
      refine r_icmp_ne (tgt := 123) dL_isDrum_116 (by decide) (fun c2 => by exact absurd (pIndex_none (Or.inl a4)) c2) (fun c2 => ?_)
      refine r_iconst (v := nI 1) dL_isDrum_119 (by decide) ?_
      refine r_goto (tgt := 124) dL_isDrum_120 (by decide) ?_
      refine r_aload_n dL_isDrum_124 rfl ?_
      refine r_iload_n dL_isDrum_125 rfl ?_
      refine r_iconst (v := nI 4) dL_isDrum_126 (by decide) ?_
      refine r_callV (As := [.int (nI (d)), .int (nI (4))]) dL_isDrum_127 (fM_isI (v' := (pMean g n d true)) (tZ_drumOf hA hC (by omega) (by omega)) rfl) rfl hC.1 rfl rfl oX8_drumOfZ rfl kL_19M nX8_drumOfZ eX8_drumOfZ (by unfold fRoom; decide) (Nat.le_of_ble_eq_true rfl) rfl (bc' := 0) (bs' := 0) rfl rfl ?_
      show fR _ _ _ 130 _ (.int (pMean g n d true) :: _) _ _ _ _
      refine r_iconst (v := (-1)) dL_isDrum_130 (by decide) ?_
      refine r_icmp_eq (tgt := 144) dL_isDrum_131 (by decide) (fun c3 => ?_) (fun c3 => by exact absurd a4 c3)
      refine r_iconst (v := nI 1) dL_isDrum_144 (by decide) ?_
      refine r_goto (tgt := 149) dL_isDrum_145 (by decide) ?_
      refine r_icmp_neN (tgt := 253) dL_isDrum_149 (by decide) (by omega) (by omega) (fun c4 => absurd c4 (by omega)) (fun c4 => ?_)
      refine r_lv (lv' := [(5, .int (pWhyS g n d)), (4, .int (pIndex g n d)), (3, .int (nI (m))), (2, .int (nI ((pNum g d true n)))), (1, .int (nI (d))), (0, .ref (ad 254))]) (by simp) ?_
      exact lL_isDrum_152 hA hC hd hm em hz
    · skip
      refine r_istore (lv' := [(4, .int (pIndex g n d)), (3, .int (nI (m))), (2, .int (nI ((pNum g d true n)))), (1, .int (nI (d))), (0, .ref (ad 254))]) dL_isDrum_92 (by decide) rfl ?_
      refine r_aload_n dL_isDrum_94 rfl ?_
      refine r_iload_n dL_isDrum_95 rfl ?_
      refine r_callV (As := [.int (nI (d))]) dL_isDrum_96 (fM_isI (v' := (pWhyS g n d)) (tZ_noSale hA hC (by omega)) rfl) rfl hC.1 rfl rfl oX8_noSaleZ rfl kL_71M nX8_noSaleZ eX8_noSaleZ (by unfold fRoom; decide) (Nat.le_of_ble_eq_true rfl) rfl (bc' := 0) (bs' := 0) rfl rfl ?_
      show fR _ _ _ 99 _ (.int (pWhyS g n d) :: _) _ _ _ _
      refine r_istore (lv' := [(5, .int (pWhyS g n d)), (4, .int (pIndex g n d)), (3, .int (nI (m))), (2, .int (nI ((pNum g d true n)))), (1, .int (nI (d))), (0, .ref (ad 254))]) dL_isDrum_99 (by decide) rfl ?_
      refine r_aload_n dL_isDrum_101 rfl ?_
      refine r_iload_n dL_isDrum_102 rfl ?_
      refine r_bipush (v := nI 7) dL_isDrum_103 (by decide) ?_
      refine r_callV (As := [.int (nI (d)), .int (nI (7))]) dL_isDrum_105 (fM_isI (v' := (pIndex g n d)) (tZ_drumOf hA hC (by omega) (by omega)) rfl) rfl hC.1 rfl rfl oX8_drumOfZ rfl kL_19M nX8_drumOfZ eX8_drumOfZ (by unfold fRoom; decide) (Nat.le_of_ble_eq_true rfl) rfl (bc' := 0) (bs' := 0) rfl rfl ?_
      show fR _ _ _ 108 _ (.int (pIndex g n d) :: _) _ _ _ _
      refine r_iload dL_isDrum_108 rfl ?_
      refine r_icmp_ne (tgt := 253) dL_isDrum_110 (by decide) (fun c5 => by exact absurd rfl c5) (fun c5 => ?_)
      refine r_iload dL_isDrum_113 rfl ?_
      refine r_iconst (v := (-1)) dL_isDrum_115 (by decide) ?_
      refine r_icmp_ne (tgt := 123) dL_isDrum_116 (by decide) (fun c6 => by exact absurd (pIndex_none (Or.inl a4)) c6) (fun c6 => ?_)
      refine r_iconst (v := nI 1) dL_isDrum_119 (by decide) ?_
      refine r_goto (tgt := 124) dL_isDrum_120 (by decide) ?_
      refine r_aload_n dL_isDrum_124 rfl ?_
      refine r_iload_n dL_isDrum_125 rfl ?_
      refine r_iconst (v := nI 4) dL_isDrum_126 (by decide) ?_
      refine r_callV (As := [.int (nI (d)), .int (nI (4))]) dL_isDrum_127 (fM_isI (v' := (pMean g n d true)) (tZ_drumOf hA hC (by omega) (by omega)) rfl) rfl hC.1 rfl rfl oX8_drumOfZ rfl kL_19M nX8_drumOfZ eX8_drumOfZ (by unfold fRoom; decide) (Nat.le_of_ble_eq_true rfl) rfl (bc' := 0) (bs' := 0) rfl rfl ?_
      show fR _ _ _ 130 _ (.int (pMean g n d true) :: _) _ _ _ _
      refine r_iconst (v := (-1)) dL_isDrum_130 (by decide) ?_
      refine r_icmp_eq (tgt := 144) dL_isDrum_131 (by decide) (fun c7 => ?_) (fun c7 => by exact absurd a4 c7)
      refine r_iconst (v := nI 1) dL_isDrum_144 (by decide) ?_
      refine r_goto (tgt := 149) dL_isDrum_145 (by decide) ?_
      refine r_icmp_neN (tgt := 253) dL_isDrum_149 (by decide) (by omega) (by omega) (fun c8 => absurd c8 (by omega)) (fun c8 => ?_)
      refine r_lv (lv' := [(5, .int (pWhyS g n d)), (4, .int (pIndex g n d)), (3, .int (nI (m))), (2, .int (nI ((pNum g d true n)))), (1, .int (nI (d))), (0, .ref (ad 254))]) (by simp) ?_
      exact lL_isDrum_152 hA hC hd hm em hz
  · skip
    refine r_aload_n dL_isDrum_85 rfl ?_
    refine r_iload_n dL_isDrum_86 rfl ?_
    refine r_bipush (v := nI 6) dL_isDrum_87 (by decide) ?_
    refine r_callV (As := [.int (nI (d)), .int (nI (6))]) dL_isDrum_89 (fM_isI (v' := (pIndex g n d)) (tZ_drumOf hA hC (by omega) (by omega)) rfl) rfl hC.1 rfl rfl oX8_drumOfZ rfl kL_19M nX8_drumOfZ eX8_drumOfZ (by unfold fRoom; decide) (Nat.le_of_ble_eq_true rfl) rfl (bc' := 0) (bs' := 0) rfl rfl ?_
    show fR _ _ _ 92 _ (.int (pIndex g n d) :: _) _ _ _ _
    by_cases a5 : pMean g n d false = -1
    · skip
      refine r_istore (lv' := [(4, .int (pIndex g n d)), (3, .int (nI (m))), (2, .int (nI ((pNum g d true n)))), (1, .int (nI (d))), (0, .ref (ad 254))]) dL_isDrum_92 (by decide) rfl ?_
      refine r_aload_n dL_isDrum_94 rfl ?_
      refine r_iload_n dL_isDrum_95 rfl ?_
      refine r_callV (As := [.int (nI (d))]) dL_isDrum_96 (fM_isI (v' := (pWhyS g n d)) (tZ_noSale hA hC (by omega)) rfl) rfl hC.1 rfl rfl oX8_noSaleZ rfl kL_71M nX8_noSaleZ eX8_noSaleZ (by unfold fRoom; decide) (Nat.le_of_ble_eq_true rfl) rfl (bc' := 0) (bs' := 0) rfl rfl ?_
      show fR _ _ _ 99 _ (.int (pWhyS g n d) :: _) _ _ _ _
      refine r_istore (lv' := [(5, .int (pWhyS g n d)), (4, .int (pIndex g n d)), (3, .int (nI (m))), (2, .int (nI ((pNum g d true n)))), (1, .int (nI (d))), (0, .ref (ad 254))]) dL_isDrum_99 (by decide) rfl ?_
      refine r_aload_n dL_isDrum_101 rfl ?_
      refine r_iload_n dL_isDrum_102 rfl ?_
      refine r_bipush (v := nI 7) dL_isDrum_103 (by decide) ?_
      refine r_callV (As := [.int (nI (d)), .int (nI (7))]) dL_isDrum_105 (fM_isI (v' := (pIndex g n d)) (tZ_drumOf hA hC (by omega) (by omega)) rfl) rfl hC.1 rfl rfl oX8_drumOfZ rfl kL_19M nX8_drumOfZ eX8_drumOfZ (by unfold fRoom; decide) (Nat.le_of_ble_eq_true rfl) rfl (bc' := 0) (bs' := 0) rfl rfl ?_
      show fR _ _ _ 108 _ (.int (pIndex g n d) :: _) _ _ _ _
      refine r_iload dL_isDrum_108 rfl ?_
      refine r_icmp_ne (tgt := 253) dL_isDrum_110 (by decide) (fun c9 => by exact absurd rfl c9) (fun c9 => ?_)
      refine r_iload dL_isDrum_113 rfl ?_
      refine r_iconst (v := (-1)) dL_isDrum_115 (by decide) ?_
      refine r_icmp_ne (tgt := 123) dL_isDrum_116 (by decide) (fun c10 => by exact absurd (pIndex_none (Or.inr a5)) c10) (fun c10 => ?_)
      refine r_iconst (v := nI 1) dL_isDrum_119 (by decide) ?_
      refine r_goto (tgt := 124) dL_isDrum_120 (by decide) ?_
      refine r_aload_n dL_isDrum_124 rfl ?_
      refine r_iload_n dL_isDrum_125 rfl ?_
      refine r_iconst (v := nI 4) dL_isDrum_126 (by decide) ?_
      refine r_callV (As := [.int (nI (d)), .int (nI (4))]) dL_isDrum_127 (fM_isI (v' := (pMean g n d true)) (tZ_drumOf hA hC (by omega) (by omega)) rfl) rfl hC.1 rfl rfl oX8_drumOfZ rfl kL_19M nX8_drumOfZ eX8_drumOfZ (by unfold fRoom; decide) (Nat.le_of_ble_eq_true rfl) rfl (bc' := 0) (bs' := 0) rfl rfl ?_
      show fR _ _ _ 130 _ (.int (pMean g n d true) :: _) _ _ _ _
      refine r_iconst (v := (-1)) dL_isDrum_130 (by decide) ?_
      refine r_icmp_eq (tgt := 144) dL_isDrum_131 (by decide) (fun c11 => by exact absurd c11 a4) (fun c11 => ?_)
      refine r_aload_n dL_isDrum_134 rfl ?_
      refine r_iload_n dL_isDrum_135 rfl ?_
      refine r_iconst (v := nI 5) dL_isDrum_136 (by decide) ?_
      refine r_callV (As := [.int (nI (d)), .int (nI (5))]) dL_isDrum_137 (fM_isI (v' := (pMean g n d false)) (tZ_drumOf hA hC (by omega) (by omega)) rfl) rfl hC.1 rfl rfl oX8_drumOfZ rfl kL_19M nX8_drumOfZ eX8_drumOfZ (by unfold fRoom; decide) (Nat.le_of_ble_eq_true rfl) rfl (bc' := 0) (bs' := 0) rfl rfl ?_
      show fR _ _ _ 140 _ (.int (pMean g n d false) :: _) _ _ _ _
      refine r_iconst (v := (-1)) dL_isDrum_140 (by decide) ?_
      refine r_icmp_ne (tgt := 148) dL_isDrum_141 (by decide) (fun c12 => by exact absurd a5 c12) (fun c12 => ?_)
      refine r_iconst (v := nI 1) dL_isDrum_144 (by decide) ?_
      refine r_goto (tgt := 149) dL_isDrum_145 (by decide) ?_
      refine r_icmp_neN (tgt := 253) dL_isDrum_149 (by decide) (by omega) (by omega) (fun c13 => absurd c13 (by omega)) (fun c13 => ?_)
      refine r_lv (lv' := [(5, .int (pWhyS g n d)), (4, .int (pIndex g n d)), (3, .int (nI (m))), (2, .int (nI ((pNum g d true n)))), (1, .int (nI (d))), (0, .ref (ad 254))]) (by simp) ?_
      exact lL_isDrum_152 hA hC hd hm em hz
    · skip
      refine r_istore (lv' := [(4, .int (pIndex g n d)), (3, .int (nI (m))), (2, .int (nI ((pNum g d true n)))), (1, .int (nI (d))), (0, .ref (ad 254))]) dL_isDrum_92 (by decide) rfl ?_
      refine r_aload_n dL_isDrum_94 rfl ?_
      refine r_iload_n dL_isDrum_95 rfl ?_
      refine r_callV (As := [.int (nI (d))]) dL_isDrum_96 (fM_isI (v' := (pWhyS g n d)) (tZ_noSale hA hC (by omega)) rfl) rfl hC.1 rfl rfl oX8_noSaleZ rfl kL_71M nX8_noSaleZ eX8_noSaleZ (by unfold fRoom; decide) (Nat.le_of_ble_eq_true rfl) rfl (bc' := 0) (bs' := 0) rfl rfl ?_
      show fR _ _ _ 99 _ (.int (pWhyS g n d) :: _) _ _ _ _
      refine r_istore (lv' := [(5, .int (pWhyS g n d)), (4, .int (pIndex g n d)), (3, .int (nI (m))), (2, .int (nI ((pNum g d true n)))), (1, .int (nI (d))), (0, .ref (ad 254))]) dL_isDrum_99 (by decide) rfl ?_
      refine r_aload_n dL_isDrum_101 rfl ?_
      refine r_iload_n dL_isDrum_102 rfl ?_
      refine r_bipush (v := nI 7) dL_isDrum_103 (by decide) ?_
      refine r_callV (As := [.int (nI (d)), .int (nI (7))]) dL_isDrum_105 (fM_isI (v' := (pIndex g n d)) (tZ_drumOf hA hC (by omega) (by omega)) rfl) rfl hC.1 rfl rfl oX8_drumOfZ rfl kL_19M nX8_drumOfZ eX8_drumOfZ (by unfold fRoom; decide) (Nat.le_of_ble_eq_true rfl) rfl (bc' := 0) (bs' := 0) rfl rfl ?_
      show fR _ _ _ 108 _ (.int (pIndex g n d) :: _) _ _ _ _
      refine r_iload dL_isDrum_108 rfl ?_
      refine r_icmp_ne (tgt := 253) dL_isDrum_110 (by decide) (fun c14 => by exact absurd rfl c14) (fun c14 => ?_)
      refine r_iload dL_isDrum_113 rfl ?_
      refine r_iconst (v := (-1)) dL_isDrum_115 (by decide) ?_
      refine r_icmp_ne (tgt := 123) dL_isDrum_116 (by decide) (fun c15 => ?_) (fun c15 => by exact absurd c15 (pIndex_ne hI a4 a5))
      refine r_iconst (v := nI 0) dL_isDrum_123 (by decide) ?_
      refine r_aload_n dL_isDrum_124 rfl ?_
      refine r_iload_n dL_isDrum_125 rfl ?_
      refine r_iconst (v := nI 4) dL_isDrum_126 (by decide) ?_
      refine r_callV (As := [.int (nI (d)), .int (nI (4))]) dL_isDrum_127 (fM_isI (v' := (pMean g n d true)) (tZ_drumOf hA hC (by omega) (by omega)) rfl) rfl hC.1 rfl rfl oX8_drumOfZ rfl kL_19M nX8_drumOfZ eX8_drumOfZ (by unfold fRoom; decide) (Nat.le_of_ble_eq_true rfl) rfl (bc' := 0) (bs' := 0) rfl rfl ?_
      show fR _ _ _ 130 _ (.int (pMean g n d true) :: _) _ _ _ _
      refine r_iconst (v := (-1)) dL_isDrum_130 (by decide) ?_
      refine r_icmp_eq (tgt := 144) dL_isDrum_131 (by decide) (fun c16 => by exact absurd c16 a4) (fun c16 => ?_)
      refine r_aload_n dL_isDrum_134 rfl ?_
      refine r_iload_n dL_isDrum_135 rfl ?_
      refine r_iconst (v := nI 5) dL_isDrum_136 (by decide) ?_
      refine r_callV (As := [.int (nI (d)), .int (nI (5))]) dL_isDrum_137 (fM_isI (v' := (pMean g n d false)) (tZ_drumOf hA hC (by omega) (by omega)) rfl) rfl hC.1 rfl rfl oX8_drumOfZ rfl kL_19M nX8_drumOfZ eX8_drumOfZ (by unfold fRoom; decide) (Nat.le_of_ble_eq_true rfl) rfl (bc' := 0) (bs' := 0) rfl rfl ?_
      show fR _ _ _ 140 _ (.int (pMean g n d false) :: _) _ _ _ _
      refine r_iconst (v := (-1)) dL_isDrum_140 (by decide) ?_
      refine r_icmp_ne (tgt := 148) dL_isDrum_141 (by decide) (fun c17 => ?_) (fun c17 => by exact absurd c17 a5)
      refine r_iconst (v := nI 0) dL_isDrum_148 (by decide) ?_
      refine r_icmp_neN (tgt := 253) dL_isDrum_149 (by decide) (by omega) (by omega) (fun c18 => absurd c18 (by omega)) (fun c18 => ?_)
      refine r_lv (lv' := [(5, .int (pWhyS g n d)), (4, .int (pIndex g n d)), (3, .int (nI (m))), (2, .int (nI ((pNum g d true n)))), (1, .int (nI (d))), (0, .ref (ad 254))]) (by simp) ?_
      exact lL_isDrum_152 hA hC hd hm em hz
theorem tL_isDrum {l : Launch} {κ : KP} {M : Mem} {ad : Nat → Nat} {g tx : Nat → Int32} {dn n sn ln : Nat} {kp : Bool} (hA : aInj ad) (hC : ClsAt κ ad M ⟨g, sn, kp, tx, ln⟩ dn n) {d : Nat} (hd : d < dn) : fM l κ mL_isDrum [.ref (ad 254), .int (nI (d))] M (isI (nI 1) M) := by
  refine fM_of rfl (by decide +kernel) (Nat.le_of_ble_eq_true rfl) ?_
  have hI : BI g dn n := hC.2.2.1
  have hdn := hI.dle
  have hn := hI.nle
  have hsn : sn ≤ 6 := hC.2.1.s6
  show fR l κ mL_isDrum 0 [(0, .ref (ad 254)), (1, .int (nI (d)))] [] M 0 0 _
  refine r_iconst (v := nI 0) dL_isDrum_0 (by decide) ?_
  refine r_istore_n (lv' := [(2, .int (nI (0))), (0, .ref (ad 254)), (1, .int (nI (d)))]) dL_isDrum_1 (by decide) rfl ?_
  refine r_iconst (v := nI 0) dL_isDrum_2 (by decide) ?_
  refine r_istore_n (lv' := [(3, .int (nI (0))), (2, .int (nI (0))), (0, .ref (ad 254)), (1, .int (nI (d)))]) dL_isDrum_3 (by decide) rfl ?_
  refine r_iconst (v := nI 0) dL_isDrum_4 (by decide) ?_
  refine r_istore (lv' := [(4, .int (nI (0))), (3, .int (nI (0))), (2, .int (nI (0))), (0, .ref (ad 254)), (1, .int (nI (d)))]) dL_isDrum_5 (by decide) rfl ?_
  obtain ⟨m, hm, em, hz⟩ := pDMask_nI (d := d) hI n (Nat.le_refl n)
  refine r_lv (lv' := [(4, .int (nI (0))), (3, .int (nI (0))), (2, .int (nI (0))), (1, .int (nI (d))), (0, .ref (ad 254))]) (by simp) ?_
  refine lL_isDrum1 hA hC hd ?_ n 0 (by omega)
  rw [em]
  exact lL_isDrum_85 hA hC hd hm em hz
