/-! THE LAW'S BODY -/
theorem law_E {l : Launch} {κ : KP} {M : Mem} {ad : Nat → Nat} {g tx : Nat → Int32} {dn n sn ln : Nat} (hA : aInj ad) (hC : ClsAt κ ad M ⟨g, sn, true, tx, ln⟩ dn n) {nm : String} {hh : List (Nat × Nat × Nat × Nat)} {bc bs : Nat} {P : FPost} (hX : XI g n) {d7 n7 : Nat} (hI7 : BI (blk g 7) d7 n7) (hX7 : XI (blk g 7) n7) {t : Nat} (ht : t < 54) (next : ∀ (M2 : Mem) (g2 : Nat → Int32) (sn2 dn2 n2 d2 e2 : Nat), ClsAt κ ad M2 ⟨g2, sn2, true, tx, ln⟩ dn2 n2 → XI g2 n2 → BI (blk g2 7) d2 e2 → XI (blk g2 7) e2 → fR l κ (mL_law nm hh) 283 [(3, .int (nI (t))), (2, .int (nI (1))), (1, .ref (ad 254)), (0, .ref (kB κ))] [] M2 bc bs P) : fR l κ (mL_law nm hh) 256 [(3, .int (nI (t))), (2, .int (nI (1))), (1, .ref (ad 254)), (0, .ref (kB κ))] [] M bc bs P := by
  have hI : BI g dn n := hC.2.2.1
  have hdn := hI.dle
  have hn := hI.nle
  have hsn : sn ≤ 6 := hC.2.1.s6
  refine r_iload_n dL_law_256 rfl ?_
  refine r_bipush (v := nI 17) dL_law_257 (by decide) ?_
  refine r_iremN dL_law_259 (by omega) (by omega) (by omega) ?_
  refine r_bipush (v := nI 11) dL_law_260 (by decide) ?_
  refine r_icmp_neN (tgt := 277) dL_law_262 (by decide) (by omega) (by omega) (fun c1 => ?_) (fun c1 => ?_)
  · skip
    refine r_iconst (v := nI 1) dL_law_277 (by decide) ?_
    refine r_goto (tgt := 282) dL_law_278 (by decide) ?_
    refine r_istore_n (lv' := [(2, .int (nI (1))), (3, .int (nI (t))), (1, .ref (ad 254)), (0, .ref (kB κ))]) dL_law_282 (Nat.le_of_ble_eq_true rfl) rfl ?_
    refine r_lv (lv' := [(3, .int (nI (t))), (2, .int (nI (1))), (1, .ref (ad 254)), (0, .ref (kB κ))]) (by simp) ?_
    exact next M g sn dn n d7 n7 hC hX hI7 hX7
  · skip
    refine r_aload_n dL_law_265 rfl ?_
    refine r_callVP0 (As := []) dL_law_266 (tV_keep hA hC) rfl hC.1 rfl rfl oX8_keep rfl kL_125M nX8_keep eX8_keep ⟨Nat.le_of_ble_eq_true rfl, Nat.le_of_ble_eq_true rfl, show 0 ≤ bc by omega, show 0 ≤ bs by omega⟩ (Nat.le_of_ble_eq_true rfl) (bc' := bc) (bs' := bs) (by show bc + 0 = bc; omega) (by show bs + 0 = bs; omega) (fun E M9 h => by cases h.1) (fun v M1 hq => ?_)
    obtain ⟨hv, ⟨dn1, n1, hC1⟩, hO1⟩ := hq
    cases hv
    have hS : S6 g (pCp g 0 7) := fun j hj => pCp_lo (by omega) hj
    have hI1 : BI (pCp g 0 7) dn1 n1 := hC1.2.2.1
    obtain ⟨e1, e2⟩ := hI1.one (hI.congr hS)
    subst e1
    subst e2
    have hB : ∀ j, j < 376 → pCp g 0 7 (376 * 7 + j) = g j := fun j hj => by have q := pCp_blk (f := g) (a := 0) (b := 7) (t := 7) hj; rw [if_pos rfl, show 376 * 0 + j = j by omega] at q; exact q
    have hI7' : BI (blk (pCp g 0 7) 7) dn1 n1 := hI.congr hB
    have hX7' : XI (blk (pCp g 0 7) 7) n1 := hX.congr hn hB
    have hX1 : XI (pCp g 0 7) n1 := hX.congr hn hS
    generalize pCp g 0 7 = g1 at hC1 hX1 hI7' hX7'
    show fR _ _ _ 269 _ (.int (nI (n1)) :: _) _ _ _ _
    refine r_aload_n dL_law_269 rfl ?_
    refine r_iconst (v := nI 1) dL_law_270 (by decide) ?_
    refine r_callV0 (As := [.int (nI (1))]) dL_law_271 (fM_isI (v' := (nI (n1))) (tZ_count hA hC1 (by omega)) hC1.2.2.1.n0) rfl hC1.1 rfl rfl oX8_countZ rfl kL_13M nX8_countZ eX8_countZ ⟨Nat.le_of_ble_eq_true rfl, Nat.le_of_ble_eq_true rfl, show 0 ≤ bc by omega, show 0 ≤ bs by omega⟩ (Nat.le_of_ble_eq_true rfl) (bc' := bc) (bs' := bs) (by show bc + 0 = bc; omega) (by show bs + 0 = bs; omega) ?_
    show fR _ _ _ 274 _ (.int (nI (n1)) :: _) _ _ _ _
    refine r_icmp_neN (tgt := 281) dL_law_274 (by decide) (by omega) (by omega) (fun c2 => by exact absurd rfl c2) (fun c2 => ?_)
    refine r_iconst (v := nI 1) dL_law_277 (by decide) ?_
    refine r_goto (tgt := 282) dL_law_278 (by decide) ?_
    refine r_istore_n (lv' := [(2, .int (nI (1))), (3, .int (nI (t))), (1, .ref (ad 254)), (0, .ref (kB κ))]) dL_law_282 (Nat.le_of_ble_eq_true rfl) rfl ?_
    refine r_lv (lv' := [(3, .int (nI (t))), (2, .int (nI (1))), (1, .ref (ad 254)), (0, .ref (kB κ))]) (by simp) ?_
    exact next M1 g1 sn dn1 n1 dn1 n1 hC1 hX1 hI7' hX7'
theorem law_D {l : Launch} {κ : KP} {M : Mem} {ad : Nat → Nat} {g tx : Nat → Int32} {dn n sn ln : Nat} (hA : aInj ad) (hC : ClsAt κ ad M ⟨g, sn, true, tx, ln⟩ dn n) {nm : String} {hh : List (Nat × Nat × Nat × Nat)} {bc bs : Nat} {P : FPost} (hX : XI g n) {d7 n7 : Nat} (hI7 : BI (blk g 7) d7 n7) (hX7 : XI (blk g 7) n7) {t : Nat} {x y : Int32} (ht : t < 54) (next : ∀ (M2 : Mem) (g2 : Nat → Int32) (sn2 dn2 n2 d2 e2 : Nat), ClsAt κ ad M2 ⟨g2, sn2, true, tx, ln⟩ dn2 n2 → XI g2 n2 → BI (blk g2 7) d2 e2 → XI (blk g2 7) e2 → fR l κ (mL_law nm hh) 283 [(3, .int (nI (t))), (2, .int (nI (1))), (1, .ref (ad 254)), (0, .ref (kB κ))] [] M2 bc bs P) : fR l κ (mL_law nm hh) 198 [(5, .int (y)), (4, .int (x)), (3, .int (nI (t))), (2, .int (nI (1))), (1, .ref (ad 254)), (0, .ref (kB κ))] [] M (bc + 90) (bs + 540) P := by
  have hI : BI g dn n := hC.2.2.1
  have hdn := hI.dle
  have hn := hI.nle
  have hsn : sn ≤ 6 := hC.2.1.s6
  refine r_iload_n dL_law_198 rfl ?_
  refine r_if_eqN (tgt := 281) dL_law_199 (by decide) (by omega) (fun c1 => absurd c1 (by omega)) (fun c1 => ?_)
  refine r_aload_n dL_law_202 rfl ?_
  refine r_callS0 (As := [.ref (ad 254)]) dL_law_203 (tL_holds hA hC hX) rfl oL_holds rfl kL_128M sL_holds ⟨Nat.le_of_ble_eq_true rfl, Nat.le_of_ble_eq_true rfl, show 0 ≤ bc + 90 by omega, show 0 ≤ bs + 540 by omega⟩ (Nat.le_of_ble_eq_true rfl) (bc' := bc + 90) (bs' := bs + 540) (by show bc + 90 + 0 = bc + 90; omega) (by show bs + 540 + 0 = bs + 540; omega) ?_
  show fR _ _ _ 206 _ (.int (nI (1)) :: _) _ _ _ _
  refine r_if_eqN (tgt := 281) dL_law_206 (by decide) (by omega) (fun c2 => absurd c2 (by omega)) (fun c2 => ?_)
  refine r_iload_n dL_law_209 rfl ?_
  refine r_iconst (v := nI 3) dL_law_210 (by decide) ?_
  refine r_iremN dL_law_211 (by omega) (by omega) (by omega) ?_
  refine r_iconst (v := nI 2) dL_law_212 (by decide) ?_
  refine r_icmp_neN (tgt := 256) dL_law_213 (by decide) (by omega) (by omega) (fun c3 => ?_) (fun c3 => ?_)
  · skip
    refine r_lv (lv' := [(3, .int (nI (t))), (2, .int (nI (1))), (1, .ref (ad 254)), (0, .ref (kB κ))]) (by simp) ?_
    exact r_bud (bc' := bc) (bs' := bs) (by omega) (by omega) (law_E hA hC hX hI7 hX7 ht next)
  · skip
    refine r_aload_n dL_law_216 rfl ?_
    refine r_iconst (v := nI 1) dL_law_217 (by decide) ?_
    refine r_callV0 (As := [.int (nI (1))]) dL_law_218 (fM_isI (v' := (nI (n))) (tZ_count hA hC (by omega)) hC.2.2.1.n0) rfl hC.1 rfl rfl oX8_countZ rfl kL_13M nX8_countZ eX8_countZ ⟨Nat.le_of_ble_eq_true rfl, Nat.le_of_ble_eq_true rfl, show 0 ≤ bc + 90 by omega, show 0 ≤ bs + 540 by omega⟩ (Nat.le_of_ble_eq_true rfl) (bc' := bc + 90) (bs' := bs + 540) (by show bc + 90 + 0 = bc + 90; omega) (by show bs + 540 + 0 = bs + 540; omega) ?_
    show fR _ _ _ 221 _ (.int (nI (n)) :: _) _ _ _ _
    refine r_if_eqN (tgt := 256) dL_law_221 (by decide) (by omega) (fun c4 => ?_) (fun c4 => ?_)
    · skip
      refine r_lv (lv' := [(3, .int (nI (t))), (2, .int (nI (1))), (1, .ref (ad 254)), (0, .ref (kB κ))]) (by simp) ?_
      exact r_bud (bc' := bc) (bs' := bs) (by omega) (by omega) (law_E hA hC hX hI7 hX7 ht next)
    · skip
      refine r_aload_n dL_law_224 rfl ?_
      refine r_iload dL_law_225 rfl ?_
      refine r_iconst (v := nI 5) dL_law_227 (by decide) ?_
      refine r_ishr dL_law_228 ?_
      refine r_iconst (v := nI 3) dL_law_229 (by decide) ?_
      refine r_callS0 (As := [.int (((x) >>> ((nI (5)) &&& 31))), .int (nI (3))]) dL_law_230 (tL_up (v := (shR x 5)) (by omega) (by omega)) rfl oL_up rfl kL_39M sL_up ⟨Nat.le_of_ble_eq_true rfl, Nat.le_of_ble_eq_true rfl, show 0 ≤ bc + 90 by omega, show 0 ≤ bs + 540 by omega⟩ (Nat.le_of_ble_eq_true rfl) (bc' := bc + 90) (bs' := bs + 540) (by show bc + 90 + 0 = bc + 90; omega) (by show bs + 540 + 0 = bs + 540; omega) ?_
      show fR _ _ _ 233 _ (.int (nI ((upN (shR x 5) 3))) :: _) _ _ _ _
      have u5 := upN_lt (v := (shR x 5)) (n := 3) (by omega)
      refine r_iload dL_law_233 rfl ?_
      refine r_bipush (v := nI 7) dL_law_235 (by decide) ?_
      refine r_ishr dL_law_237 ?_
      refine r_aload_n dL_law_238 rfl ?_
      refine r_iconst (v := nI 1) dL_law_239 (by decide) ?_
      refine r_callV0 (As := [.int (nI (1))]) dL_law_240 (fM_isI (v' := (nI (n))) (tZ_count hA hC (by omega)) hC.2.2.1.n0) rfl hC.1 rfl rfl oX8_countZ rfl kL_13M nX8_countZ eX8_countZ ⟨Nat.le_of_ble_eq_true rfl, Nat.le_of_ble_eq_true rfl, show 0 ≤ bc + 90 by omega, show 0 ≤ bs + 540 by omega⟩ (Nat.le_of_ble_eq_true rfl) (bc' := bc + 90) (bs' := bs + 540) (by show bc + 90 + 0 = bc + 90; omega) (by show bs + 540 + 0 = bs + 540; omega) ?_
      show fR _ _ _ 243 _ (.int (nI (n)) :: _) _ _ _ _
      refine r_callS0 (As := [.int (((x) >>> ((nI (7)) &&& 31))), .int (nI (n))]) dL_law_243 (tL_up (v := (shR x 7)) (by omega) (by omega)) rfl oL_up rfl kL_39M sL_up ⟨Nat.le_of_ble_eq_true rfl, Nat.le_of_ble_eq_true rfl, show 0 ≤ bc + 90 by omega, show 0 ≤ bs + 540 by omega⟩ (Nat.le_of_ble_eq_true rfl) (bc' := bc + 90) (bs' := bs + 540) (by show bc + 90 + 0 = bc + 90; omega) (by show bs + 540 + 0 = bs + 540; omega) ?_
      show fR _ _ _ 246 _ (.int (nI ((upN (shR x 7) n))) :: _) _ _ _ _
      have u6 := upN_lt (v := (shR x 7)) (n := n) (by omega)
      refine r_iload dL_law_246 rfl ?_
      refine r_iconst (v := nI 2) dL_law_248 (by decide) ?_
      refine r_ishr dL_law_249 ?_
      refine r_callSP0 (As := [.ref (ad 254), .int (nI ((upN (shR x 5) 3))), .int (nI ((upN (shR x 7) n))), .int (((y) >>> ((nI (2)) &&& 31)))]) dL_law_250 (tL_isAhead hA hC hX (by omega) (by omega)) rfl oL_isAhead rfl kL_140M sL_isAhead ⟨Nat.le_of_ble_eq_true rfl, Nat.le_of_ble_eq_true rfl, show 90 ≤ bc + 90 by omega, show 540 ≤ bs + 540 by omega⟩ (Nat.le_of_ble_eq_true rfl) (bc' := bc) (bs' := bs) (by show bc + 90 = bc + 90; omega) (by show bs + 540 = bs + 540; omega) (fun E M9 h => by cases h.1) (fun v M1 hq => ?_)
      obtain ⟨hv, g1, sn1, hC1, hS1, hQ1, hO1⟩ := hq
      cases hv
      show fR _ _ _ 253 _ (.int (nI (1)) :: _) _ _ _ _
      refine r_if_eqN (tgt := 281) dL_law_253 (by decide) (by omega) (fun c7 => absurd c7 (by omega)) (fun c7 => ?_)
      refine r_lv (lv' := [(3, .int (nI (t))), (2, .int (nI (1))), (1, .ref (ad 254)), (0, .ref (kB κ))]) (by simp) ?_
      exact r_bud (bc' := bc) (bs' := bs) (by omega) (by omega) (law_E hA hC1 (hX.congr hn hS1) (hI7.of7 hQ1) (hX7.of7 hI7.nle hQ1) ht next)
theorem law_C {l : Launch} {κ : KP} {M : Mem} {ad : Nat → Nat} {g tx : Nat → Int32} {dn n sn ln : Nat} (hA : aInj ad) (hC : ClsAt κ ad M ⟨g, sn, true, tx, ln⟩ dn n) {nm : String} {hh : List (Nat × Nat × Nat × Nat)} {bc bs : Nat} {P : FPost} (hX : XI g n) {d7 n7 : Nat} (hI7 : BI (blk g 7) d7 n7) (hX7 : XI (blk g 7) n7) {t v sn0 : Nat} {x y : Int32} {L0 : Int64} {g0 : Nat → Int32} {dn0 n0 : Nat} (ht : t < 54) (hs0 : sn0 ≤ 6) (es : sn = pUp sn0) (hv : v < 2 ^ 20) (hI0 : BI g0 dn0 n0) (hX0 : XI g0 n0) (hL0 : lookF g0 dn0 n0 = L0) {d0 e0 : Nat} (hI70 : BI (blk g0 7) d0 e0) (hX70 : XI (blk g0 7) e0) (ev : nI 1 + (actM x y g0 dn0 n0).1 g0 = nI v) (hS0 : S6 ((actM x y g0 dn0 n0).2 g0) g) (hF0 : ∀ j, 376 ≤ j → g j = pSave g0 sn0 j) (next : ∀ (M2 : Mem) (g2 : Nat → Int32) (sn2 dn2 n2 d2 e2 : Nat), ClsAt κ ad M2 ⟨g2, sn2, true, tx, ln⟩ dn2 n2 → XI g2 n2 → BI (blk g2 7) d2 e2 → XI (blk g2 7) e2 → fR l κ (mL_law nm hh) 283 [(3, .int (nI (t))), (2, .int (nI (1))), (1, .ref (ad 254)), (0, .ref (kB κ))] [] M2 bc bs P) : fR l κ (mL_law nm hh) 120 [(9, .int (nI (v))), (8, .int (nI (sn0))), (6, .long (L0)), (5, .int (y)), (4, .int (x)), (3, .int (nI (t))), (2, .int (nI (1))), (1, .ref (ad 254)), (0, .ref (kB κ))] [] M (bc + 130) (bs + 780) P := by
  have hI : BI g dn n := hC.2.2.1
  have hdn := hI.dle
  have hn := hI.nle
  have hsn : sn ≤ 6 := hC.2.1.s6
  obtain ⟨hu1, hu2, hu3, hu4⟩ := pUp_b hs0
  obtain ⟨L1, hL1⟩ : ∃ L, lookF g dn n = L := ⟨_, rfl⟩
  have hQ0 := far_SQ hs0 hF0
  refine r_iload_n dL_law_120 rfl ?_
  refine r_if_eqN (tgt := 198) dL_law_121 (by decide) (by omega) (fun c1 => absurd c1 (by omega)) (fun c1 => ?_)
  refine r_iload dL_law_124 rfl ?_
  refine r_bipush (v := nI 8) dL_law_126 (by decide) ?_
  refine r_ishr dL_law_128 ?_
  refine r_iconst (v := nI 3) dL_law_129 (by decide) ?_
  refine r_iand dL_law_130 ?_
  refine r_if_ne (tgt := 198) dL_law_131 (by decide) (fun c2 => ?_) (fun c2 => ?_)
  · skip
    refine r_lv (lv' := [(5, .int (y)), (4, .int (x)), (3, .int (nI (t))), (2, .int (nI (1))), (1, .ref (ad 254)), (0, .ref (kB κ))]) (by simp) ?_
    exact r_bud (bc' := bc + 90) (bs' := bs + 540) (by omega) (by omega) (law_D hA hC hX hI7 hX7 ht next)
  · skip
    refine r_aload_n dL_law_134 rfl ?_
    refine r_callS0 (As := [.ref (ad 254)]) dL_law_135 (fM_look hA hC hL1) rfl oL_looks rfl kL_111M sL_looks ⟨Nat.le_of_ble_eq_true rfl, Nat.le_of_ble_eq_true rfl, show 0 ≤ bc + 130 by omega, show 0 ≤ bs + 780 by omega⟩ (Nat.le_of_ble_eq_true rfl) (bc' := bc + 130) (bs' := bs + 780) (by show bc + 130 + 0 = bc + 130; omega) (by show bs + 780 + 0 = bs + 780; omega) ?_
    show fR _ _ _ 138 _ (.long (L1) :: _) _ _ _ _
    refine r_lstore (lv' := [(10, .long (L1)), (9, .int (nI (v))), (8, .int (nI (sn0))), (6, .long (L0)), (5, .int (y)), (4, .int (x)), (3, .int (nI (t))), (2, .int (nI (1))), (1, .ref (ad 254)), (0, .ref (kB κ))]) dL_law_138 (Nat.le_of_ble_eq_true rfl) rfl ?_
    refine r_aload_n dL_law_140 rfl ?_
    refine r_bipush (v := nI 11) dL_law_141 (by decide) ?_
    refine r_callV0 (As := [.int (nI (11))]) dL_law_143 (fM_isI (v' := (nI (sn))) (tZ_count hA hC (by omega)) rfl) rfl hC.1 rfl rfl oX8_countZ rfl kL_13M nX8_countZ eX8_countZ ⟨Nat.le_of_ble_eq_true rfl, Nat.le_of_ble_eq_true rfl, show 0 ≤ bc + 130 by omega, show 0 ≤ bs + 780 by omega⟩ (Nat.le_of_ble_eq_true rfl) (bc' := bc + 130) (bs' := bs + 780) (by show bc + 130 + 0 = bc + 130; omega) (by show bs + 780 + 0 = bs + 780; omega) ?_
    show fR _ _ _ 146 _ (.int (nI (sn)) :: _) _ _ _ _
    refine r_iconst (v := nI 1) dL_law_146 (by decide) ?_
    refine r_isubN dL_law_147 (by omega) ?_
    refine r_istore (lv' := [(12, .int (nI ((sn - 1)))), (10, .long (L1)), (9, .int (nI (v))), (8, .int (nI (sn0))), (6, .long (L0)), (5, .int (y)), (4, .int (x)), (3, .int (nI (t))), (2, .int (nI (1))), (1, .ref (ad 254)), (0, .ref (kB κ))]) dL_law_148 (Nat.le_of_ble_eq_true rfl) rfl ?_
    refine r_aload_n dL_law_150 rfl ?_
    refine r_callVP0 (As := []) dL_law_151 (tW_undo hA hC (by omega) (by rw [es]; exact far_top hs0 hF0) hI0) rfl hC.1 rfl rfl oX8_undo rfl kL_121M nX8_undo eX8_undo ⟨Nat.le_of_ble_eq_true rfl, Nat.le_of_ble_eq_true rfl, show 1 ≤ bc + 130 by omega, show 6 ≤ bs + 780 by omega⟩ (Nat.le_of_ble_eq_true rfl) (bc' := bc + 129) (bs' := bs + 774) (by show bc + 129 + 1 = bc + 130; omega) (by show bs + 774 + 6 = bs + 780; omega) (fun E M9 h => by cases h.1) (fun v M2 hq => ?_)
    obtain ⟨hv2, g2, hC2, hO2, hS2, hF2⟩ := hq
    cases hv2
    have hQ2 : SQ g0 g2 := fun j hj => (hF2 _ (by omega)).trans (hQ0 j hj)
    have e2 : E6 g0 g2 dn0 n0 := ⟨hI0, hS2⟩
    have hL2 : lookF g2 dn0 n0 = L0 := e2.look.trans hL0
    show fR _ _ _ 154 _ (.int (nI ((sn - 1))) :: _) _ _ _ _
    refine r_iload dL_law_154 rfl ?_
    refine r_icmp_neN (tgt := 196) dL_law_156 (by decide) (by omega) (by omega) (fun c3 => by exact absurd rfl c3) (fun c3 => ?_)
    refine r_aload_n dL_law_159 rfl ?_
    refine r_callS0 (As := [.ref (ad 254)]) dL_law_160 (fM_look hA hC2 hL2) rfl oL_looks rfl kL_111M sL_looks ⟨Nat.le_of_ble_eq_true rfl, Nat.le_of_ble_eq_true rfl, show 0 ≤ bc + 129 by omega, show 0 ≤ bs + 774 by omega⟩ (Nat.le_of_ble_eq_true rfl) (bc' := bc + 129) (bs' := bs + 774) (by show bc + 129 + 0 = bc + 129; omega) (by show bs + 774 + 0 = bs + 774; omega) ?_
    show fR _ _ _ 163 _ (.long (L0) :: _) _ _ _ _
    refine r_lload dL_law_163 rfl ?_
    refine r_lcmp dL_law_165 ?_
    refine r_top lcmp_same ?_
    refine r_if_neN (tgt := 196) dL_law_166 (by decide) (by omega) (fun c4 => absurd c4 (by omega)) (fun c4 => ?_)
    refine r_aload_n dL_law_169 rfl ?_
    refine r_iload dL_law_170 rfl ?_
    refine r_iload dL_law_172 rfl ?_
    refine r_callSP0 (As := [.ref (ad 254), .int (x), .int (y)]) dL_law_174 (tL_act hA hC2) rfl oL_act rfl kL_136M sL_act ⟨Nat.le_of_ble_eq_true rfl, Nat.le_of_ble_eq_true rfl, show 30 ≤ bc + 129 by omega, show 180 ≤ bs + 774 by omega⟩ (Nat.le_of_ble_eq_true rfl) (bc' := bc + 99) (bs' := bs + 594) (by show bc + 99 + 30 = bc + 129; omega) (by show bs + 594 + 180 = bs + 774; omega) (fun E M9 h => by cases h.1) (fun v M3 hq => ?_)
    obtain ⟨hv3, ⟨dn3, n3, hC3⟩, hO3⟩ := hq
    cases hv3
    have hs2 : sn - 1 ≤ 6 := hC2.2.1.s6
    have hI2 : BI g2 dn0 n0 := e2.B'
    have hm0 := act_ok (x := x) (y := y) hI0 hX0 hI70 hX70
    have hm2 := act_ok (x := x) (y := y) hI2 (hX0.congr hI0.nle hS2) (hI70.of7 hQ2) (hX70.of7 hI70.nle hQ2)
    obtain ⟨k1, k2⟩ := hm0.2.1 g2 e2 hQ2
    rw [act_same e2] at hm2 hC3 ⊢
    rw [k1]
    obtain ⟨hS3, hX3, hF3⟩ := mv_state hm2 hI2 hs2 hC3.2.2.1
    generalize (actM x y g0 dn0 n0).2 (pSave g2 (sn - 1)) = g3 at hC3 hS3 hX3 hF3
    have hS13 : S6 g g3 := fun j hj => (hS3 j hj).trans ((k2 j hj).trans (hS0 j hj).symm)
    have hI3 : BI g3 dn3 n3 := hC3.2.2.1
    obtain ⟨q1, q2⟩ := hI3.one (hI.congr hS13)
    subst q1
    subst q2
    have hL3 : lookF g3 dn3 n3 = L1 := (E6.look ⟨hI, hS13⟩).trans hL1
    have hQ3 : SQ g0 g3 := hQ2.trans (far_SQ hs2 hF3)
    show fR _ _ _ 177 _ (.int ((nI 1 + (actM x y g0 dn0 n0).1 g0)) :: _) _ _ _ _
    refine r_top (y := (nI (v))) ev ?_
    refine r_iload dL_law_177 rfl ?_
    refine r_icmp_neN (tgt := 196) dL_law_179 (by decide) (by omega) (by omega) (fun c5 => by exact absurd rfl c5) (fun c5 => ?_)
    refine r_aload_n dL_law_182 rfl ?_
    refine r_callS0 (As := [.ref (ad 254)]) dL_law_183 (fM_look hA hC3 hL3) rfl oL_looks rfl kL_111M sL_looks ⟨Nat.le_of_ble_eq_true rfl, Nat.le_of_ble_eq_true rfl, show 0 ≤ bc + 99 by omega, show 0 ≤ bs + 594 by omega⟩ (Nat.le_of_ble_eq_true rfl) (bc' := bc + 99) (bs' := bs + 594) (by show bc + 99 + 0 = bc + 99; omega) (by show bs + 594 + 0 = bs + 594; omega) ?_
    show fR _ _ _ 186 _ (.long (L1) :: _) _ _ _ _
    refine r_lload dL_law_186 rfl ?_
    refine r_lcmp dL_law_188 ?_
    refine r_top lcmp_same ?_
    refine r_if_neN (tgt := 196) dL_law_189 (by decide) (by omega) (fun c6 => absurd c6 (by omega)) (fun c6 => ?_)
    refine r_iconst (v := nI 1) dL_law_192 (by decide) ?_
    refine r_goto (tgt := 197) dL_law_193 (by decide) ?_
    refine r_istore_n (lv' := [(2, .int (nI (1))), (12, .int (nI ((sn - 1)))), (10, .long (L1)), (9, .int (nI (v))), (8, .int (nI (sn0))), (6, .long (L0)), (5, .int (y)), (4, .int (x)), (3, .int (nI (t))), (1, .ref (ad 254)), (0, .ref (kB κ))]) dL_law_197 (Nat.le_of_ble_eq_true rfl) rfl ?_
    refine r_lv (lv' := [(5, .int (y)), (4, .int (x)), (3, .int (nI (t))), (2, .int (nI (1))), (1, .ref (ad 254)), (0, .ref (kB κ))]) (by simp) ?_
    exact r_bud (bc' := bc + 90) (bs' := bs + 540) (by omega) (by omega) (law_D hA hC3 hX3 (hI70.of7 hQ3) (hX70.of7 hI70.nle hQ3) ht next)
theorem law_B {l : Launch} {κ : KP} {M : Mem} {ad : Nat → Nat} {g tx : Nat → Int32} {dn n sn ln : Nat} (hA : aInj ad) (hC : ClsAt κ ad M ⟨g, sn, true, tx, ln⟩ dn n) {nm : String} {hh : List (Nat × Nat × Nat × Nat)} {bc bs : Nat} {P : FPost} (hX : XI g n) {d7 n7 : Nat} (hI7 : BI (blk g 7) d7 n7) (hX7 : XI (blk g 7) n7) {t : Nat} {x y : Int32} (ht : t < 54) (next : ∀ (M2 : Mem) (g2 : Nat → Int32) (sn2 dn2 n2 d2 e2 : Nat), ClsAt κ ad M2 ⟨g2, sn2, true, tx, ln⟩ dn2 n2 → XI g2 n2 → BI (blk g2 7) d2 e2 → XI (blk g2 7) e2 → fR l κ (mL_law nm hh) 283 [(3, .int (nI (t))), (2, .int (nI (1))), (1, .ref (ad 254)), (0, .ref (kB κ))] [] M2 bc bs P) : fR l κ (mL_law nm hh) 60 [(5, .int (y)), (4, .int (x)), (3, .int (nI (t))), (2, .int (nI (1))), (1, .ref (ad 254)), (0, .ref (kB κ))] [] M (bc + 160) (bs + 960) P := by
  have hI : BI g dn n := hC.2.2.1
  have hdn := hI.dle
  have hn := hI.nle
  have hsn : sn ≤ 6 := hC.2.1.s6
  obtain ⟨hu1, hu2, -, -⟩ := pUp_b hsn
  have hu5 : (sn < 6 ∧ pUp sn = sn + 1) ∨ (sn = 6 ∧ pUp sn = 6) := by unfold pUp; split <;> omega
  obtain ⟨L0, hL⟩ : ∃ L, lookF g dn n = L := ⟨_, rfl⟩
  refine r_aload_n dL_law_60 rfl ?_
  refine r_callS0 (As := [.ref (ad 254)]) dL_law_61 (fM_look hA hC hL) rfl oL_looks rfl kL_111M sL_looks ⟨Nat.le_of_ble_eq_true rfl, Nat.le_of_ble_eq_true rfl, show 0 ≤ bc + 160 by omega, show 0 ≤ bs + 960 by omega⟩ (Nat.le_of_ble_eq_true rfl) (bc' := bc + 160) (bs' := bs + 960) (by show bc + 160 + 0 = bc + 160; omega) (by show bs + 960 + 0 = bs + 960; omega) ?_
  show fR _ _ _ 64 _ (.long (L0) :: _) _ _ _ _
  refine r_lstore (lv' := [(6, .long (L0)), (5, .int (y)), (4, .int (x)), (3, .int (nI (t))), (2, .int (nI (1))), (1, .ref (ad 254)), (0, .ref (kB κ))]) dL_law_64 (Nat.le_of_ble_eq_true rfl) rfl ?_
  refine r_aload_n dL_law_66 rfl ?_
  refine r_bipush (v := nI 11) dL_law_67 (by decide) ?_
  refine r_callV0 (As := [.int (nI (11))]) dL_law_69 (fM_isI (v' := (nI (sn))) (tZ_count hA hC (by omega)) rfl) rfl hC.1 rfl rfl oX8_countZ rfl kL_13M nX8_countZ eX8_countZ ⟨Nat.le_of_ble_eq_true rfl, Nat.le_of_ble_eq_true rfl, show 0 ≤ bc + 160 by omega, show 0 ≤ bs + 960 by omega⟩ (Nat.le_of_ble_eq_true rfl) (bc' := bc + 160) (bs' := bs + 960) (by show bc + 160 + 0 = bc + 160; omega) (by show bs + 960 + 0 = bs + 960; omega) ?_
  show fR _ _ _ 72 _ (.int (nI (sn)) :: _) _ _ _ _
  refine r_istore (lv' := [(8, .int (nI (sn))), (6, .long (L0)), (5, .int (y)), (4, .int (x)), (3, .int (nI (t))), (2, .int (nI (1))), (1, .ref (ad 254)), (0, .ref (kB κ))]) dL_law_72 (Nat.le_of_ble_eq_true rfl) rfl ?_
  refine r_aload_n dL_law_74 rfl ?_
  refine r_iload dL_law_75 rfl ?_
  refine r_iload dL_law_77 rfl ?_
  refine r_callSP0 (As := [.ref (ad 254), .int (x), .int (y)]) dL_law_79 (tL_act hA hC) rfl oL_act rfl kL_136M sL_act ⟨Nat.le_of_ble_eq_true rfl, Nat.le_of_ble_eq_true rfl, show 30 ≤ bc + 160 by omega, show 180 ≤ bs + 960 by omega⟩ (Nat.le_of_ble_eq_true rfl) (bc' := bc + 130) (bs' := bs + 780) (by show bc + 130 + 30 = bc + 160; omega) (by show bs + 780 + 180 = bs + 960; omega) (fun E M9 h => by cases h.1) (fun v M1 hq => ?_)
  obtain ⟨hv1, ⟨dn1, n1, hC1⟩, hO1⟩ := hq
  cases hv1
  have hm := act_ok (x := x) (y := y) hI hX hI7 hX7
  obtain ⟨hS1, hX1, hF1⟩ := mv_state hm hI hsn hC1.2.2.1
  obtain ⟨v, hv, ev⟩ := hm.1
  generalize (actM x y g dn n).2 (pSave g sn) = g1 at hC1 hS1 hX1 hF1
  have hQ1 := far_SQ hsn hF1
  show fR _ _ _ 82 _ (.int ((nI 1 + (actM x y g dn n).1 g)) :: _) _ _ _ _
  refine r_top (y := (nI (v))) ev ?_
  refine r_istore (lv' := [(9, .int (nI (v))), (8, .int (nI (sn))), (6, .long (L0)), (5, .int (y)), (4, .int (x)), (3, .int (nI (t))), (2, .int (nI (1))), (1, .ref (ad 254)), (0, .ref (kB κ))]) dL_law_82 (Nat.le_of_ble_eq_true rfl) rfl ?_
  refine r_iload dL_law_84 rfl ?_
  refine r_if_ltN (tgt := 118) dL_law_86 (by decide) (by omega) (fun c1 => by omega) (fun c1 => ?_)
  refine r_aload_n dL_law_89 rfl ?_
  refine r_bipush (v := nI 11) dL_law_90 (by decide) ?_
  refine r_callV0 (As := [.int (nI (11))]) dL_law_92 (fM_isI (v' := (nI ((pUp sn)))) (tZ_count hA hC1 (by omega)) rfl) rfl hC1.1 rfl rfl oX8_countZ rfl kL_13M nX8_countZ eX8_countZ ⟨Nat.le_of_ble_eq_true rfl, Nat.le_of_ble_eq_true rfl, show 0 ≤ bc + 130 by omega, show 0 ≤ bs + 780 by omega⟩ (Nat.le_of_ble_eq_true rfl) (bc' := bc + 130) (bs' := bs + 780) (by show bc + 130 + 0 = bc + 130; omega) (by show bs + 780 + 0 = bs + 780; omega) ?_
  show fR _ _ _ 95 _ (.int (nI ((pUp sn))) :: _) _ _ _ _
  refine r_iload dL_law_95 rfl ?_
  refine r_bipush (v := nI 6) dL_law_97 (by decide) ?_
  refine r_icmp_geN (tgt := 109) dL_law_99 (by decide) (by omega) (by omega) (fun c2 => ?_) (fun c2 => ?_)
  · skip
    refine r_bipush (v := nI 6) dL_law_109 (by decide) ?_
    refine r_icmp_neN (tgt := 118) dL_law_111 (by decide) (by omega) (by omega) (fun c3 => by omega) (fun c3 => ?_)
    refine r_iconst (v := nI 1) dL_law_114 (by decide) ?_
    refine r_goto (tgt := 119) dL_law_115 (by decide) ?_
    refine r_istore_n (lv' := [(2, .int (nI (1))), (9, .int (nI (v))), (8, .int (nI (sn))), (6, .long (L0)), (5, .int (y)), (4, .int (x)), (3, .int (nI (t))), (1, .ref (ad 254)), (0, .ref (kB κ))]) dL_law_119 (Nat.le_of_ble_eq_true rfl) rfl ?_
    refine r_lv (lv' := [(9, .int (nI (v))), (8, .int (nI (sn))), (6, .long (L0)), (5, .int (y)), (4, .int (x)), (3, .int (nI (t))), (2, .int (nI (1))), (1, .ref (ad 254)), (0, .ref (kB κ))]) (by simp) ?_
    exact r_bud (bc' := bc + 130) (bs' := bs + 780) (by omega) (by omega) (law_C hA hC1 hX1 (hI7.of7 hQ1) (hX7.of7 hI7.nle hQ1) ht hsn rfl hv hI hX hL hI7 hX7 ev hS1 hF1 next)
  · skip
    refine r_iload dL_law_102 rfl ?_
    refine r_iconst (v := nI 1) dL_law_104 (by decide) ?_
    refine r_iaddN dL_law_105 ?_
    refine r_goto (tgt := 111) dL_law_106 (by decide) ?_
    refine r_icmp_neN (tgt := 118) dL_law_111 (by decide) (by omega) (by omega) (fun c4 => by omega) (fun c4 => ?_)
    refine r_iconst (v := nI 1) dL_law_114 (by decide) ?_
    refine r_goto (tgt := 119) dL_law_115 (by decide) ?_
    refine r_istore_n (lv' := [(2, .int (nI (1))), (9, .int (nI (v))), (8, .int (nI (sn))), (6, .long (L0)), (5, .int (y)), (4, .int (x)), (3, .int (nI (t))), (1, .ref (ad 254)), (0, .ref (kB κ))]) dL_law_119 (Nat.le_of_ble_eq_true rfl) rfl ?_
    refine r_lv (lv' := [(9, .int (nI (v))), (8, .int (nI (sn))), (6, .long (L0)), (5, .int (y)), (4, .int (x)), (3, .int (nI (t))), (2, .int (nI (1))), (1, .ref (ad 254)), (0, .ref (kB κ))]) (by simp) ?_
    exact r_bud (bc' := bc + 130) (bs' := bs + 780) (by omega) (by omega) (law_C hA hC1 hX1 (hI7.of7 hQ1) (hX7.of7 hI7.nle hQ1) ht hsn rfl hv hI hX hL hI7 hX7 ev hS1 hF1 next)
theorem law_loop {l : Launch} {κ : KP} {nm : String} {hh : List (Nat × Nat × Nat × Nat)} {ad : Nat → Nat} {tx : Nat → Int32} {ln : Nat} (hA : aInj ad) (hk : kL κ ≤ 260) : ∀ (N t : Nat) (M : Mem) (g : Nat → Int32) (sn dn n d7 n7 : Nat), N + t = 54 → ClsAt κ ad M ⟨g, sn, true, tx, ln⟩ dn n → XI g n → BI (blk g 7) d7 n7 → XI (blk g 7) n7 → fR l κ (mL_law nm hh) 30 [(3, .int (nI (t))), (2, .int (nI (1))), (1, .ref (ad 254)), (0, .ref (kB κ))] [] M (160 * N) (960 * N) (fun o _ => o = .inl (some (.int (nI 1)))) := by
  intro N
  induction N with
  | zero =>
    intro t M g sn dn n d7 n7 hN hC hX hI7 hX7
    refine r_iload_n dL_law_30 rfl ?_
    refine r_bipush (v := nI 54) dL_law_31 (by decide) ?_
    refine r_icmp_geN (tgt := 289) dL_law_33 (by decide) (by omega) (by omega) (fun c1 => ?_) (fun c1 => ?_)
    · skip
      refine r_iload_n dL_law_289 rfl ?_
      exact fR_zret dL_law_290 rfl rfl rfl
    · exact absurd c1 (by omega)
  | succ N ih =>
    intro t M g sn dn n d7 n7 hN hC hX hI7 hX7
    have next : ∀ (M2 : Mem) (g2 : Nat → Int32) (sn2 dn2 n2 d2 e2 : Nat), ClsAt κ ad M2 ⟨g2, sn2, true, tx, ln⟩ dn2 n2 → XI g2 n2 → BI (blk g2 7) d2 e2 → XI (blk g2 7) e2 → fR l κ (mL_law nm hh) 283 [(3, .int (nI (t))), (2, .int (nI (1))), (1, .ref (ad 254)), (0, .ref (kB κ))] [] M2 (160 * N) (960 * N) (fun o _ => o = .inl (some (.int (nI 1)))) := fun M2 g2 sn2 dn2 n2 d2 e2 h1 h2 h3 h4 => by
      refine r_iinc (v := nI (t + 1)) (lv' := [(3, .int (nI (t + 1))), (2, .int (nI (1))), (1, .ref (ad 254)), (0, .ref (kB κ))]) dL_law_283 rfl (nI_inc _) (Nat.le_of_ble_eq_true rfl) rfl ?_
      refine r_goto (tgt := 30) dL_law_286 (by decide) ?_
      exact ih (t + 1) M2 g2 sn2 dn2 n2 d2 e2 (by omega) h1 h2 h3 h4
    refine r_bud (bc' := 160 * N + 160) (bs' := 960 * N + 960) (by omega) (by omega) ?_
    generalize 160 * N = bc at next ⊢
    generalize 960 * N = bs at next ⊢
    refine r_iload_n dL_law_30 rfl ?_
    refine r_bipush (v := nI 54) dL_law_31 (by decide) ?_
    refine r_icmp_geN (tgt := 289) dL_law_33 (by decide) (by omega) (by omega) (fun c1 => ?_) (fun c1 => ?_)
    · exact absurd c1 (by omega)
    · skip
      refine r_iload_n dL_law_36 rfl ?_
      refine r_if_eqN (tgt := 289) dL_law_37 (by decide) (by omega) (fun c2 => absurd c2 (by omega)) (fun c2 => ?_)
      refine r_aload_n dL_law_40 rfl ?_
      refine r_iconst (v := nI 2) dL_law_41 (by decide) ?_
      refine r_iload_n dL_law_42 rfl ?_
      refine r_imulN dL_law_43 ?_
      refine r_callS0 (As := [.ref (kB κ), .int (nI ((2 * t)))]) dL_law_44 (tL_cell (by omega) (by omega)) rfl oL_cell rfl kL_132M sL_cell ⟨Nat.le_of_ble_eq_true rfl, Nat.le_of_ble_eq_true rfl, show 0 ≤ bc + 160 by omega, show 0 ≤ bs + 960 by omega⟩ (Nat.le_of_ble_eq_true rfl) (bc' := bc + 160) (bs' := bs + 960) (by show bc + 160 + 0 = bc + 160; omega) (by show bs + 960 + 0 = bs + 960; omega) ?_
      show fR _ _ _ 47 _ (.int (cellF κ (2 * t)) :: _) _ _ _ _
      refine r_istore (lv' := [(4, .int (cellF κ (2 * t))), (3, .int (nI (t))), (2, .int (nI (1))), (1, .ref (ad 254)), (0, .ref (kB κ))]) dL_law_47 (Nat.le_of_ble_eq_true rfl) rfl ?_
      refine r_aload_n dL_law_49 rfl ?_
      refine r_iconst (v := nI 2) dL_law_50 (by decide) ?_
      refine r_iload_n dL_law_51 rfl ?_
      refine r_imulN dL_law_52 ?_
      refine r_iconst (v := nI 1) dL_law_53 (by decide) ?_
      refine r_iaddN dL_law_54 ?_
      refine r_callS0 (As := [.ref (kB κ), .int (nI (((2 * t) + 1)))]) dL_law_55 (tL_cell (by omega) (by omega)) rfl oL_cell rfl kL_132M sL_cell ⟨Nat.le_of_ble_eq_true rfl, Nat.le_of_ble_eq_true rfl, show 0 ≤ bc + 160 by omega, show 0 ≤ bs + 960 by omega⟩ (Nat.le_of_ble_eq_true rfl) (bc' := bc + 160) (bs' := bs + 960) (by show bc + 160 + 0 = bc + 160; omega) (by show bs + 960 + 0 = bs + 960; omega) ?_
      show fR _ _ _ 58 _ (.int (cellF κ ((2 * t) + 1)) :: _) _ _ _ _
      refine r_istore (lv' := [(5, .int (cellF κ ((2 * t) + 1))), (4, .int (cellF κ (2 * t))), (3, .int (nI (t))), (2, .int (nI (1))), (1, .ref (ad 254)), (0, .ref (kB κ))]) dL_law_58 (Nat.le_of_ble_eq_true rfl) rfl ?_
      refine r_lv (lv' := [(5, .int (cellF κ ((2 * t) + 1))), (4, .int (cellF κ (2 * t))), (3, .int (nI (t))), (2, .int (nI (1))), (1, .ref (ad 254)), (0, .ref (kB κ))]) (by simp) ?_
      exact law_B hA hC hX hI7 hX7 (by omega) next
theorem XI_gI : XI gI 0 := ⟨rfl, rfl, fun b _ => Nat.zero_le 3⟩
theorem law_body {nm : String} {hh : List (Nat × Nat × Nat × Nat)} {l : Launch} {κ : KP} (hk : kL κ ≤ 260) : fR l κ (mL_law nm hh) 0 [(0, .ref (kB κ))] [] (fun _ => none) 600104 7301314 (fun o _ => o = .inl (some (.int (nI 1)))) := by
  refine r_new (ci := 7) (fs := [.null, .null, .null]) (bc' := 600103) (bs' := 7301311) dL_law_0 rfl kL_14C kC_Bit kD_Bit (le3 rfl rfl rfl) rfl rfl (fun a ha => ?_)
  refine r_dup dL_law_3 rfl ?_
  refine r_callIP (As := []) dL_law_4 (tX8_init fup_eq) rfl oX8_init rfl rfl rfl kL_124M nX8_init ⟨Nat.le_of_ble_eq_true rfl, Nat.le_of_ble_eq_true rfl, Nat.le_of_ble_eq_true rfl, Nat.le_of_ble_eq_true rfl⟩ (Nat.le_of_ble_eq_true rfl) (bc' := 599849) (bs' := 7297986) rfl rfl (fun E M9 h => by cases h.1) (fun v M1 hv => ?_)
  obtain ⟨hv1, w, hw0, hE, hCC⟩ := hv
  cases hv1
  show fR _ _ _ 7 _ (.ref a :: []) _ _ _ _
  refine r_astore_n (lv' := [(1, .ref a), (0, .ref (kB κ))]) dL_law_7 (Nat.le_of_ble_eq_true rfl) rfl ?_
  obtain ⟨ad, hA, h254, hpm, h255, hC⟩ := cls_new2 1 hE.1 hCC
  have ea : ad 254 = a := h254.trans hw0
  refine r_lv (lv' := [(1, .ref (ad 254)), (0, .ref (kB κ))]) (by rw [ea]; simp) ?_
  refine r_bud (bc' := 160 * 54) (bs' := 960 * 54) (Nat.le_of_ble_eq_true rfl) (Nat.le_of_ble_eq_true rfl) ?_
  refine r_aload_n dL_law_8 rfl ?_
  refine r_callVP0 (As := []) dL_law_9 (tV_keep hA hC) rfl hC.1 rfl rfl oX8_keep rfl kL_125M nX8_keep eX8_keep ⟨Nat.le_of_ble_eq_true rfl, Nat.le_of_ble_eq_true rfl, Nat.zero_le _, Nat.zero_le _⟩ (Nat.le_of_ble_eq_true rfl) (bc' := 160 * 54) (bs' := 960 * 54) rfl rfl (fun E M9 h => by cases h.1) (fun v M2 hq => ?_)
  obtain ⟨hv, ⟨dn1, n1, hC1⟩, hO1⟩ := hq
  cases hv
  have hI : BI gI 0 0 := BI_gI
  have hS : S6 gI (pCp gI 0 7) := fun j hj => pCp_lo (by omega) hj
  have hI1 : BI (pCp gI 0 7) dn1 n1 := hC1.2.2.1
  obtain ⟨e1, e2⟩ := hI1.one (hI.congr hS)
  subst e1
  subst e2
  have hB : ∀ j, j < 376 → pCp gI 0 7 (376 * 7 + j) = gI j := fun j hj => by
    have q := pCp_blk (f := gI) (a := 0) (b := 7) (t := 7) hj
    rw [if_pos rfl, show 376 * 0 + j = j by omega] at q; exact q
  have hX1 : XI (pCp gI 0 7) 0 := XI_gI.congr (Nat.zero_le 8) hS
  have hI7 : BI (blk (pCp gI 0 7) 7) 0 0 := hI.congr hB
  have hX7 : XI (blk (pCp gI 0 7) 7) 0 := XI_gI.congr (Nat.zero_le 8) hB
  show fR _ _ _ 12 _ (.int (nI 0) :: []) _ _ _ _
  refine r_if_neN (tgt := 26) dL_law_12 (by decide) (by omega) (fun h => absurd rfl h) (fun _ => ?_)
  refine r_aload_n dL_law_15 rfl ?_
  refine r_callS0 (As := [.ref (ad 254)]) dL_law_16 (tL_holds hA hC1 hX1) rfl oL_holds rfl kL_128M sL_holds ⟨Nat.le_of_ble_eq_true rfl, Nat.le_of_ble_eq_true rfl, Nat.zero_le _, Nat.zero_le _⟩ (Nat.le_of_ble_eq_true rfl) (bc' := 160 * 54) (bs' := 960 * 54) rfl rfl ?_
  show fR _ _ _ 19 _ (.int (nI 1) :: []) _ _ _ _
  refine r_if_eqN (tgt := 26) dL_law_19 (by decide) (by omega) (fun h => absurd h (by decide)) (fun _ => ?_)
  refine r_iconst (v := nI 1) dL_law_22 (by decide) ?_
  refine r_goto (tgt := 27) dL_law_23 (by decide) ?_
  refine r_istore_n (lv' := [(2, .int (nI 1)), (1, .ref (ad 254)), (0, .ref (kB κ))]) dL_law_27 (Nat.le_of_ble_eq_true rfl) rfl ?_
  refine r_iconst (v := nI 0) dL_law_28 (by decide) ?_
  refine r_istore_n (lv' := [(3, .int (nI 0)), (2, .int (nI 1)), (1, .ref (ad 254)), (0, .ref (kB κ))]) dL_law_29 (Nat.le_of_ble_eq_true rfl) rfl ?_
  exact law_loop hA hk 54 0 M2 _ 0 0 0 0 0 rfl hC1 hX1 hI7 hX7
