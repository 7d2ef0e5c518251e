/-! THE LAW'S DEED, walked -/
theorem fM_sPost {l : Launch} {κ : KP} {μ : MD} {av : List Value} {M : Mem} {ad : Nat → Nat} {z : Zs} {v v' : Int32} (h : fM l κ μ av M (sPost κ ad M z v)) (e : v = v') : fM l κ μ av M (sPost κ ad M z v') := e ▸ h
def aPost (κ : KP) (ad : Nat → Nat) (M : Mem) (g : Nat → Int32) (sn : Nat) (tx : Nat → Int32) (ln : Nat) (m : Mov) : FPost := sPost κ ad M ⟨m.2 (pSave g sn), pUp sn, true, tx, ln⟩ (nI 1 + m.1 g)
theorem aP_of {κ : KP} {ad : Nat → Nat} {M M1 : Mem} {g tx : Nat → Int32} {sn ln dn1 n1 : Nat} {m : Mov} {v : Int32} (hC1 : ClsAt κ ad M1 ⟨m.2 (pSave g sn), pUp sn, true, tx, ln⟩ dn1 n1) (hO : OffC ad M M1) (e : v = nI 1 + m.1 g) : aPost κ ad M g sn tx ln m (.inl (some (.int v))) M1 :=
  ⟨by rw [e], ⟨dn1, n1, hC1⟩, hO⟩
theorem save7 {g : Nat → Int32} {sn j : Nat} (hs : sn ≤ 6) (hj : j < 376) : pSave g sn (376 * 7 + j) = g (376 * 7 + j) := by
  unfold pSave
  split
  · rw [pSave6_blk (by omega) hj, if_neg (by omega), if_neg (by omega)]
  · rw [pSaveL_blk hj, if_neg (by omega)]
theorem lL_act_0 {l : Launch} {κ : KP} {M : Mem} {ad : Nat → Nat} {g tx : Nat → Int32} {dn n sn ln : Nat} (hA : aInj ad) (hC : ClsAt κ ad M ⟨g, sn, true, tx, ln⟩ dn n) {x y : Int32} {d k i : Nat} (hd : d < dn) (hk : k < n) (hi : i < 3) : fR l κ mL_act 164 [(3, .int (nI (d))), (4, .int (nI (k))), (5, .int (nI (i))), (0, .ref (ad 254)), (1, .int (x)), (2, .int (y))] [] M 30 180 (aPost κ ad M g sn tx ln (a0 y dn)) := by
  have hI : BI g dn n := hC.2.2.1
  have hdn := hI.dle
  have hn := hI.nle
  have hsn : sn ≤ 6 := hC.2.1.s6
  have hE : E6 g (pSave g sn) dn n := ⟨hI, fun j hj => pSave_lo hj⟩
  refine r_iconst (v := nI 1) dL_act_164 (by decide) ?_
  refine r_aload_n dL_act_165 rfl ?_
  refine r_iconst (v := nI 0) dL_act_166 (by decide) ?_
  refine r_callV (As := [.int (nI (0))]) dL_act_167 (fM_isI (v' := (nI (dn))) (tZ_count hA hC (by omega)) hC.2.2.1.d0) rfl hC.1 rfl rfl oX8_countZ rfl kL_13M nX8_countZ eX8_countZ (by unfold fRoom; decide) (Nat.le_of_ble_eq_true rfl) rfl (bc' := 30) (bs' := 180) rfl rfl ?_
  show fR _ _ _ 170 _ (.int (nI (dn)) :: _) _ _ _ _
  refine r_bipush (v := nI 6) dL_act_170 (by decide) ?_
  refine r_icmp_neN (tgt := 190) dL_act_172 (by decide) (by omega) (by omega) (fun c1 => ?_) (fun c1 => ?_)
  · skip
    refine r_aload_n dL_act_190 rfl ?_
    refine r_bipush (v := nI 20) dL_act_191 (by decide) ?_
    refine r_iload_n dL_act_193 rfl ?_
    refine r_sipush (v := nI 281) dL_act_194 (by decide) ?_
    refine r_callS (As := [.int (y), .int (nI (281))]) dL_act_197 (tL_up (v := y) (by omega) (by omega)) rfl oL_up rfl kL_39M sL_up (by unfold fRoom; decide) (Nat.le_of_ble_eq_true rfl) rfl (bc' := 30) (bs' := 180) rfl rfl ?_
    show fR _ _ _ 200 _ (.int (nI ((upN y 281))) :: _) _ _ _ _
    have u2 := upN_lt (v := y) (n := 281) (by omega)
    refine r_iaddN dL_act_200 ?_
    refine r_callVP (As := [.int (nI ((20 + (upN y 281))))]) dL_act_201 (fM_sPost (v' := (nI (dn))) (tV_drum hA hC (by omega) (by omega) (by omega)) rfl) rfl hC.1 rfl rfl oX8_drum rfl kL_44M nX8_drum eX8_drum (by unfold fRoom; decide) (Nat.le_of_ble_eq_true rfl) rfl (bc' := 28) (bs' := 168) rfl rfl (fun E M9 h => by cases h.1) (fun v M1 hq => ?_)
    obtain ⟨hv, ⟨dn1, n1, hC1⟩, hO1⟩ := hq
    cases hv
    show fR _ _ _ 204 _ (.int (nI (dn)) :: _) _ _ _ _
    refine r_iaddN dL_act_204 ?_
    rw [show a0 y dn = mvDrum dn (20 + (upN y 281)) from by unfold a0; (repeat (first | rw [if_pos (by first | assumption | exact Int32.not_le.mp (by assumption) | exact Int32.not_lt.mp (by assumption) | omega | exact Or.inl (by assumption) | exact Or.inr (by omega))] | rw [if_neg (by first | assumption | exact Int32.not_lt.mpr (by assumption) | exact Int32.not_le.mpr (by assumption) | omega | exact fun z => z.elim (fun q => absurd q (by assumption)) (fun q => by omega))])); try rfl]
    exact fR_iret dL_act_205 rfl (aP_of (m := mvDrum dn (20 + (upN y 281))) hC1 hO1 (by first | rfl | exact (nI_add _ _).symm))
  · skip
    refine r_aload_n dL_act_175 rfl ?_
    refine r_iconst (v := nI 1) dL_act_176 (by decide) ?_
    refine r_iload_n dL_act_177 rfl ?_
    refine r_bipush (v := nI 99) dL_act_178 (by decide) ?_
    refine r_callS (As := [.int (y), .int (nI (99))]) dL_act_180 (tL_up (v := y) (by omega) (by omega)) rfl oL_up rfl kL_39M sL_up (by unfold fRoom; decide) (Nat.le_of_ble_eq_true rfl) rfl (bc' := 30) (bs' := 180) rfl rfl ?_
    show fR _ _ _ 183 _ (.int (nI ((upN y 99))) :: _) _ _ _ _
    have u3 := upN_lt (v := y) (n := 99) (by omega)
    refine r_iaddN dL_act_183 ?_
    refine r_callVP (As := [.int (nI ((1 + (upN y 99))))]) dL_act_184 (fM_sPost (v' := (pAgeM g (nI (1 + (upN y 99))) dn)) (tV_age hA hC (by omega) (by omega)) (hE.ageM dn (Nat.le_refl _))) rfl hC.1 rfl rfl oX8_age rfl kL_50M nX8_age eX8_age (by unfold fRoom; decide) (Nat.le_of_ble_eq_true rfl) rfl (bc' := 29) (bs' := 174) rfl rfl (fun E M9 h => by cases h.1) (fun v M1 hq => ?_)
    obtain ⟨hv, ⟨dn1, n1, hC1⟩, hO1⟩ := hq
    cases hv
    show fR _ _ _ 187 _ (.int (pAgeM g (nI (1 + (upN y 99))) dn) :: _) _ _ _ _
    refine r_goto (tgt := 204) dL_act_187 (by decide) ?_
    refine r_iadd dL_act_204 ?_
    rw [show a0 y dn = mvAge dn (1 + (upN y 99)) from by unfold a0; (repeat (first | rw [if_pos (by first | assumption | exact Int32.not_le.mp (by assumption) | exact Int32.not_lt.mp (by assumption) | omega | exact Or.inl (by assumption) | exact Or.inr (by omega))] | rw [if_neg (by first | assumption | exact Int32.not_lt.mpr (by assumption) | exact Int32.not_le.mpr (by assumption) | omega | exact fun z => z.elim (fun q => absurd q (by assumption)) (fun q => by omega))])); try rfl]
    exact fR_iret dL_act_205 rfl (aP_of (m := mvAge dn (1 + (upN y 99))) hC1 hO1 (by first | rfl | exact (nI_add _ _).symm))
theorem lL_act_1 {l : Launch} {κ : KP} {M : Mem} {ad : Nat → Nat} {g tx : Nat → Int32} {dn n sn ln : Nat} (hA : aInj ad) (hC : ClsAt κ ad M ⟨g, sn, true, tx, ln⟩ dn n) {x y : Int32} {d k i : Nat} (hd : d < dn) (hk : k < n) (hi : i < 3) : fR l κ mL_act 206 [(3, .int (nI (d))), (4, .int (nI (k))), (5, .int (nI (i))), (0, .ref (ad 254)), (1, .int (x)), (2, .int (y))] [] M 30 180 (aPost κ ad M g sn tx ln (a1 y dn)) := by
  have hI : BI g dn n := hC.2.2.1
  have hdn := hI.dle
  have hn := hI.nle
  have hsn : sn ≤ 6 := hC.2.1.s6
  have hE : E6 g (pSave g sn) dn n := ⟨hI, fun j hj => pSave_lo hj⟩
  refine r_iconst (v := nI 1) dL_act_206 (by decide) ?_
  refine r_aload_n dL_act_207 rfl ?_
  refine r_iconst (v := nI 1) dL_act_208 (by decide) ?_
  refine r_iload_n dL_act_209 rfl ?_
  refine r_bipush (v := nI 99) dL_act_210 (by decide) ?_
  refine r_callS (As := [.int (y), .int (nI (99))]) dL_act_212 (tL_up (v := y) (by omega) (by omega)) rfl oL_up rfl kL_39M sL_up (by unfold fRoom; decide) (Nat.le_of_ble_eq_true rfl) rfl (bc' := 30) (bs' := 180) rfl rfl ?_
  show fR _ _ _ 215 _ (.int (nI ((upN y 99))) :: _) _ _ _ _
  have u1 := upN_lt (v := y) (n := 99) (by omega)
  refine r_iaddN dL_act_215 ?_
  refine r_callVP (As := [.int (nI ((1 + (upN y 99))))]) dL_act_216 (fM_sPost (v' := (pAgeM g (nI (1 + (upN y 99))) dn)) (tV_age hA hC (by omega) (by omega)) (hE.ageM dn (Nat.le_refl _))) rfl hC.1 rfl rfl oX8_age rfl kL_50M nX8_age eX8_age (by unfold fRoom; decide) (Nat.le_of_ble_eq_true rfl) rfl (bc' := 29) (bs' := 174) rfl rfl (fun E M9 h => by cases h.1) (fun v M1 hq => ?_)
  obtain ⟨hv, ⟨dn1, n1, hC1⟩, hO1⟩ := hq
  cases hv
  show fR _ _ _ 219 _ (.int (pAgeM g (nI (1 + (upN y 99))) dn) :: _) _ _ _ _
  refine r_iadd dL_act_219 ?_
  rw [show a1 y dn = mvAge dn (1 + (upN y 99)) from by unfold a1; (repeat (first | rw [if_pos (by first | assumption | exact Int32.not_le.mp (by assumption) | exact Int32.not_lt.mp (by assumption) | omega | exact Or.inl (by assumption) | exact Or.inr (by omega))] | rw [if_neg (by first | assumption | exact Int32.not_lt.mpr (by assumption) | exact Int32.not_le.mpr (by assumption) | omega | exact fun z => z.elim (fun q => absurd q (by assumption)) (fun q => by omega))])); try rfl]
  exact fR_iret dL_act_220 rfl (aP_of (m := mvAge dn (1 + (upN y 99))) hC1 hO1 (by first | rfl | exact (nI_add _ _).symm))
theorem lL_act_2 {l : Launch} {κ : KP} {M : Mem} {ad : Nat → Nat} {g tx : Nat → Int32} {dn n sn ln : Nat} (hA : aInj ad) (hC : ClsAt κ ad M ⟨g, sn, true, tx, ln⟩ dn n) {x y : Int32} {d k i : Nat} (hd : d < dn) (hk : k < n) (hi : i < 3) : fR l κ mL_act 221 [(3, .int (nI (d))), (4, .int (nI (k))), (5, .int (nI (i))), (0, .ref (ad 254)), (1, .int (x)), (2, .int (y))] [] M 30 180 (aPost κ ad M g sn tx ln (a2 n d k)) := by
  have hI : BI g dn n := hC.2.2.1
  have hdn := hI.dle
  have hn := hI.nle
  have hsn : sn ≤ 6 := hC.2.1.s6
  have hE : E6 g (pSave g sn) dn n := ⟨hI, fun j hj => pSave_lo hj⟩
  refine r_iconst (v := nI 1) dL_act_221 (by decide) ?_
  refine r_aload_n dL_act_222 rfl ?_
  refine r_iconst (v := nI 1) dL_act_223 (by decide) ?_
  refine r_callV (As := [.int (nI (1))]) dL_act_224 (fM_isI (v' := (nI (n))) (tZ_count hA hC (by omega)) hC.2.2.1.n0) rfl hC.1 rfl rfl oX8_countZ rfl kL_13M nX8_countZ eX8_countZ (by unfold fRoom; decide) (Nat.le_of_ble_eq_true rfl) rfl (bc' := 30) (bs' := 180) rfl rfl ?_
  show fR _ _ _ 227 _ (.int (nI (n)) :: _) _ _ _ _
  refine r_bipush (v := nI 8) dL_act_227 (by decide) ?_
  refine r_icmp_neN (tgt := 241) dL_act_229 (by decide) (by omega) (by omega) (fun c1 => ?_) (fun c1 => ?_)
  · skip
    refine r_aload_n dL_act_241 rfl ?_
    refine r_iload_n dL_act_242 rfl ?_
    refine r_callVP (As := [.int (nI (d))]) dL_act_243 (fM_sPost (v' := (nI (n))) (tV_sample hA hC (by omega) (by omega) (by omega)) rfl) rfl hC.1 rfl rfl oX8_sample rfl kL_47M nX8_sample eX8_sample (by unfold fRoom; decide) (Nat.le_of_ble_eq_true rfl) rfl (bc' := 29) (bs' := 174) rfl rfl (fun E M9 h => by cases h.1) (fun v M1 hq => ?_)
    obtain ⟨hv, ⟨dn1, n1, hC1⟩, hO1⟩ := hq
    cases hv
    show fR _ _ _ 246 _ (.int (nI (n)) :: _) _ _ _ _
    refine r_iaddN dL_act_246 ?_
    rw [show a2 n d k = mvSample n d from by unfold a2; (repeat (first | rw [if_pos (by first | assumption | exact Int32.not_le.mp (by assumption) | exact Int32.not_lt.mp (by assumption) | omega | exact Or.inl (by assumption) | exact Or.inr (by omega))] | rw [if_neg (by first | assumption | exact Int32.not_lt.mpr (by assumption) | exact Int32.not_le.mpr (by assumption) | omega | exact fun z => z.elim (fun q => absurd q (by assumption)) (fun q => by omega))])); try rfl]
    exact fR_iret dL_act_247 rfl (aP_of (m := mvSample n d) hC1 hO1 (by first | rfl | exact (nI_add _ _).symm))
  · skip
    refine r_aload_n dL_act_232 rfl ?_
    refine r_iload dL_act_233 rfl ?_
    refine r_callVP (As := [.int (nI (k))]) dL_act_235 (fM_sPost (v' := (pOf g k 5)) (tV_toss hA hC (by omega) (by omega)) (hE.O (by omega) (by omega))) rfl hC.1 rfl rfl oX8_toss rfl kL_53M nX8_toss eX8_toss (by unfold fRoom; decide) (Nat.le_of_ble_eq_true rfl) rfl (bc' := 29) (bs' := 174) rfl rfl (fun E M9 h => by cases h.1) (fun v M1 hq => ?_)
    obtain ⟨hv, ⟨dn1, n1, hC1⟩, hO1⟩ := hq
    cases hv
    show fR _ _ _ 238 _ (.int (pOf g k 5) :: _) _ _ _ _
    refine r_goto (tgt := 246) dL_act_238 (by decide) ?_
    refine r_iadd dL_act_246 ?_
    rw [show a2 n d k = mvToss n k from by unfold a2; (repeat (first | rw [if_pos (by first | assumption | exact Int32.not_le.mp (by assumption) | exact Int32.not_lt.mp (by assumption) | omega | exact Or.inl (by assumption) | exact Or.inr (by omega))] | rw [if_neg (by first | assumption | exact Int32.not_lt.mpr (by assumption) | exact Int32.not_le.mpr (by assumption) | omega | exact fun z => z.elim (fun q => absurd q (by assumption)) (fun q => by omega))])); try rfl]
    exact fR_iret dL_act_247 rfl (aP_of (m := mvToss n k) hC1 hO1 (by first | rfl | exact (nI_add _ _).symm))
theorem lL_act_4 {l : Launch} {κ : KP} {M : Mem} {ad : Nat → Nat} {g tx : Nat → Int32} {dn n sn ln : Nat} (hA : aInj ad) (hC : ClsAt κ ad M ⟨g, sn, true, tx, ln⟩ dn n) {x y : Int32} {d k i : Nat} (hd : d < dn) (hk : k < n) (hi : i < 3) : fR l κ mL_act 248 [(3, .int (nI (d))), (4, .int (nI (k))), (5, .int (nI (i))), (0, .ref (ad 254)), (1, .int (x)), (2, .int (y))] [] M 30 180 (aPost κ ad M g sn tx ln (a4 y n k i)) := by
  have hI : BI g dn n := hC.2.2.1
  have hdn := hI.dle
  have hn := hI.nle
  have hsn : sn ≤ 6 := hC.2.1.s6
  have hE : E6 g (pSave g sn) dn n := ⟨hI, fun j hj => pSave_lo hj⟩
  refine r_iconst (v := nI 1) dL_act_248 (by decide) ?_
  refine r_iload_n dL_act_249 rfl ?_
  refine r_iconst (v := nI 3) dL_act_250 (by decide) ?_
  refine r_iand dL_act_251 ?_
  refine r_if_ne (tgt := 264) dL_act_252 (by decide) (fun c1 => ?_) (fun c1 => ?_)
  · skip
    refine r_aload_n dL_act_264 rfl ?_
    refine r_iload dL_act_265 rfl ?_
    refine r_callVP (As := [.int (nI (i))]) dL_act_267 (fM_sPost (v' := (g (31 + 3 * i + 0))) (tV_renew hA hC (by omega)) rfl) rfl hC.1 rfl rfl oX8_renew rfl kL_56M nX8_renew eX8_renew (by unfold fRoom; decide) (Nat.le_of_ble_eq_true rfl) rfl (bc' := 29) (bs' := 174) rfl rfl (fun E M9 h => by cases h.1) (fun v M1 hq => ?_)
    obtain ⟨hv, ⟨dn1, n1, hC1⟩, hO1⟩ := hq
    cases hv
    show fR _ _ _ 270 _ (.int (g (31 + 3 * i + 0)) :: _) _ _ _ _
    refine r_iadd dL_act_270 ?_
    rw [show a4 y n k i = mvRenew i from by unfold a4; (repeat (first | rw [if_pos (by first | assumption | exact Int32.not_le.mp (by assumption) | exact Int32.not_lt.mp (by assumption) | omega | exact Or.inl (by assumption) | exact Or.inr (by omega))] | rw [if_neg (by first | assumption | exact Int32.not_lt.mpr (by assumption) | exact Int32.not_le.mpr (by assumption) | omega | exact fun z => z.elim (fun q => absurd q (by assumption)) (fun q => by omega))])); try rfl]
    exact fR_iret dL_act_271 rfl (aP_of (m := mvRenew i) hC1 hO1 (by first | rfl | exact (nI_add _ _).symm))
  · skip
    refine r_aload_n dL_act_255 rfl ?_
    refine r_iload dL_act_256 rfl ?_
    refine r_callVP (As := [.int (nI (k))]) dL_act_258 (fM_sPost (v' := (pOf g k 5)) (tV_toss hA hC (by omega) (by omega)) (hE.O (by omega) (by omega))) rfl hC.1 rfl rfl oX8_toss rfl kL_53M nX8_toss eX8_toss (by unfold fRoom; decide) (Nat.le_of_ble_eq_true rfl) rfl (bc' := 29) (bs' := 174) rfl rfl (fun E M9 h => by cases h.1) (fun v M1 hq => ?_)
    obtain ⟨hv, ⟨dn1, n1, hC1⟩, hO1⟩ := hq
    cases hv
    show fR _ _ _ 261 _ (.int (pOf g k 5) :: _) _ _ _ _
    refine r_goto (tgt := 270) dL_act_261 (by decide) ?_
    refine r_iadd dL_act_270 ?_
    rw [show a4 y n k i = mvToss n k from by unfold a4; (repeat (first | rw [if_pos (by first | assumption | exact Int32.not_le.mp (by assumption) | exact Int32.not_lt.mp (by assumption) | omega | exact Or.inl (by assumption) | exact Or.inr (by omega))] | rw [if_neg (by first | assumption | exact Int32.not_lt.mpr (by assumption) | exact Int32.not_le.mpr (by assumption) | omega | exact fun z => z.elim (fun q => absurd q (by assumption)) (fun q => by omega))])); try rfl]
    exact fR_iret dL_act_271 rfl (aP_of (m := mvToss n k) hC1 hO1 (by first | rfl | exact (nI_add _ _).symm))
theorem lL_act_5 {l : Launch} {κ : KP} {M : Mem} {ad : Nat → Nat} {g tx : Nat → Int32} {dn n sn ln : Nat} (hA : aInj ad) (hC : ClsAt κ ad M ⟨g, sn, true, tx, ln⟩ dn n) {x y : Int32} {d k i : Nat} (hd : d < dn) (hk : k < n) (hi : i < 3) : fR l κ mL_act 272 [(3, .int (nI (d))), (4, .int (nI (k))), (5, .int (nI (i))), (0, .ref (ad 254)), (1, .int (x)), (2, .int (y))] [] M 30 180 (aPost κ ad M g sn tx ln (a5 y i)) := by
  have hI : BI g dn n := hC.2.2.1
  have hdn := hI.dle
  have hn := hI.nle
  have hsn : sn ≤ 6 := hC.2.1.s6
  have hE : E6 g (pSave g sn) dn n := ⟨hI, fun j hj => pSave_lo hj⟩
  refine r_iconst (v := nI 1) dL_act_272 (by decide) ?_
  refine r_aload_n dL_act_273 rfl ?_
  refine r_iload dL_act_274 rfl ?_
  refine r_iload_n dL_act_276 rfl ?_
  refine r_iconst (v := nI 1) dL_act_277 (by decide) ?_
  refine r_iand dL_act_278 ?_
  refine r_if_ne (tgt := 294) dL_act_279 (by decide) (fun c1 => ?_) (fun c1 => ?_)
  · skip
    refine r_sipush (v := nI 180) dL_act_294 (by decide) ?_
    refine r_iload_n dL_act_297 rfl ?_
    refine r_iconst (v := nI 1) dL_act_298 (by decide) ?_
    refine r_ishr dL_act_299 ?_
    refine r_sipush (v := nI 150) dL_act_300 (by decide) ?_
    refine r_callS (As := [.int (((y) >>> ((nI (1)) &&& 31))), .int (nI (150))]) dL_act_303 (tL_up (v := (shR y 1)) (by omega) (by omega)) rfl oL_up rfl kL_39M sL_up (by unfold fRoom; decide) (Nat.le_of_ble_eq_true rfl) rfl (bc' := 30) (bs' := 180) rfl rfl ?_
    show fR _ _ _ 306 _ (.int (nI ((upN (shR y 1) 150))) :: _) _ _ _ _
    have u2 := upN_lt (v := (shR y 1)) (n := 150) (by omega)
    refine r_iaddN dL_act_306 ?_
    refine r_callVP (As := [.int (nI (i)), .int (nI ((180 + (upN (shR y 1) 150))))]) dL_act_307 (fM_sPost (v' := (g (28 + i))) (tV_warm hA hC (by omega) (by omega)) rfl) rfl hC.1 rfl rfl oX8_warm rfl kL_59M nX8_warm eX8_warm (by unfold fRoom; decide) (Nat.le_of_ble_eq_true rfl) rfl (bc' := 28) (bs' := 168) rfl rfl (fun E M9 h => by cases h.1) (fun v M1 hq => ?_)
    obtain ⟨hv, ⟨dn1, n1, hC1⟩, hO1⟩ := hq
    cases hv
    show fR _ _ _ 310 _ (.int (g (28 + i)) :: _) _ _ _ _
    refine r_iadd dL_act_310 ?_
    rw [show a5 y i = mvWarm i (180 + (upN (shR y 1) 150)) from by unfold a5; (repeat (first | rw [if_pos (by first | assumption | exact Int32.not_le.mp (by assumption) | exact Int32.not_lt.mp (by assumption) | omega | exact Or.inl (by assumption) | exact Or.inr (by omega))] | rw [if_neg (by first | assumption | exact Int32.not_lt.mpr (by assumption) | exact Int32.not_le.mpr (by assumption) | omega | exact fun z => z.elim (fun q => absurd q (by assumption)) (fun q => by omega))])); try rfl]
    exact fR_iret dL_act_311 rfl (aP_of (m := mvWarm i (180 + (upN (shR y 1) 150))) hC1 hO1 (by first | rfl | exact (nI_add _ _).symm))
  · skip
    refine r_iload_n dL_act_282 rfl ?_
    refine r_iconst (v := nI 1) dL_act_283 (by decide) ?_
    refine r_ishr dL_act_284 ?_
    refine r_sipush (v := nI 901) dL_act_285 (by decide) ?_
    refine r_callS (As := [.int (((y) >>> ((nI (1)) &&& 31))), .int (nI (901))]) dL_act_288 (tL_up (v := (shR y 1)) (by omega) (by omega)) rfl oL_up rfl kL_39M sL_up (by unfold fRoom; decide) (Nat.le_of_ble_eq_true rfl) rfl (bc' := 30) (bs' := 180) rfl rfl ?_
    show fR _ _ _ 291 _ (.int (nI ((upN (shR y 1) 901))) :: _) _ _ _ _
    have u3 := upN_lt (v := (shR y 1)) (n := 901) (by omega)
    refine r_goto (tgt := 307) dL_act_291 (by decide) ?_
    refine r_callVP (As := [.int (nI (i)), .int (nI ((upN (shR y 1) 901)))]) dL_act_307 (fM_sPost (v' := (g (28 + i))) (tV_warm hA hC (by omega) (by omega)) rfl) rfl hC.1 rfl rfl oX8_warm rfl kL_59M nX8_warm eX8_warm (by unfold fRoom; decide) (Nat.le_of_ble_eq_true rfl) rfl (bc' := 28) (bs' := 168) rfl rfl (fun E M9 h => by cases h.1) (fun v M1 hq => ?_)
    obtain ⟨hv, ⟨dn1, n1, hC1⟩, hO1⟩ := hq
    cases hv
    show fR _ _ _ 310 _ (.int (g (28 + i)) :: _) _ _ _ _
    refine r_iadd dL_act_310 ?_
    rw [show a5 y i = mvWarm i (upN (shR y 1) 901) from by unfold a5; (repeat (first | rw [if_pos (by first | assumption | exact Int32.not_le.mp (by assumption) | exact Int32.not_lt.mp (by assumption) | omega | exact Or.inl (by assumption) | exact Or.inr (by omega))] | rw [if_neg (by first | assumption | exact Int32.not_lt.mpr (by assumption) | exact Int32.not_le.mpr (by assumption) | omega | exact fun z => z.elim (fun q => absurd q (by assumption)) (fun q => by omega))])); try rfl]
    exact fR_iret dL_act_311 rfl (aP_of (m := mvWarm i (upN (shR y 1) 901)) hC1 hO1 (by first | rfl | exact (nI_add _ _).symm))
theorem lL_act_6 {l : Launch} {κ : KP} {M : Mem} {ad : Nat → Nat} {g tx : Nat → Int32} {dn n sn ln : Nat} (hA : aInj ad) (hC : ClsAt κ ad M ⟨g, sn, true, tx, ln⟩ dn n) {x y : Int32} {d k i : Nat} (hd : d < dn) (hk : k < n) (hi : i < 3) : fR l κ mL_act 312 [(3, .int (nI (d))), (4, .int (nI (k))), (5, .int (nI (i))), (0, .ref (ad 254)), (1, .int (x)), (2, .int (y))] [] M 30 180 (aPost κ ad M g sn tx ln (a6 y g n k)) := by
  have hI : BI g dn n := hC.2.2.1
  have hdn := hI.dle
  have hn := hI.nle
  have hsn : sn ≤ 6 := hC.2.1.s6
  have hE : E6 g (pSave g sn) dn n := ⟨hI, fun j hj => pSave_lo hj⟩
  refine r_iload_n dL_act_312 rfl ?_
  refine r_bipush (v := nI 8) dL_act_313 (by decide) ?_
  refine r_ishr dL_act_315 ?_
  refine r_iconst (v := nI 4) dL_act_316 (by decide) ?_
  refine r_callS (As := [.int (((y) >>> ((nI (8)) &&& 31))), .int (nI (4))]) dL_act_317 (tL_up (v := (shR y 8)) (by omega) (by omega)) rfl oL_up rfl kL_39M sL_up (by unfold fRoom; decide) (Nat.le_of_ble_eq_true rfl) rfl (bc' := 30) (bs' := 180) rfl rfl ?_
  show fR _ _ _ 320 _ (.int (nI ((upN (shR y 8) 4))) :: _) _ _ _ _
  have u1 := upN_lt (v := (shR y 8)) (n := 4) (by omega)
  by_cases b0 : upN (shR y 8) 4 = 0
  · skip
    refine r_iconst (v := nI 1) dL_act_320 (by decide) ?_
    refine r_isub dL_act_321 ?_
    refine r_top (y := -1) (by rw [b0]; decide) ?_
    refine r_istore (lv' := [(6, .int (-1)), (3, .int (nI (d))), (4, .int (nI (k))), (5, .int (nI (i))), (0, .ref (ad 254)), (1, .int (x)), (2, .int (y))]) dL_act_322 (by decide) rfl ?_
    refine r_iload dL_act_324 rfl ?_
    refine r_if_lt (tgt := 352) dL_act_326 (by decide) (fun c2 => ?_) (fun c2 => by exact absurd (by decide) c2)
    refine r_iconst (v := nI 1) dL_act_352 (by decide) ?_
    refine r_goto (tgt := 357) dL_act_353 (by decide) ?_
    refine r_istore (lv' := [(7, .int (nI (1))), (6, .int (-1)), (3, .int (nI (d))), (4, .int (nI (k))), (5, .int (nI (i))), (0, .ref (ad 254)), (1, .int (x)), (2, .int (y))]) dL_act_357 (by decide) rfl ?_
    refine r_iconst (v := nI 1) dL_act_359 (by decide) ?_
    refine r_iload dL_act_360 rfl ?_
    refine r_if_eqN (tgt := 376) dL_act_362 (by decide) (by omega) (fun c3 => absurd c3 (by omega)) (fun c3 => ?_)
    refine r_aload_n dL_act_365 rfl ?_
    refine r_iload dL_act_366 rfl ?_
    refine r_iload dL_act_368 rfl ?_
    refine r_callVP (As := [.int (nI (k)), .int (-1)]) dL_act_370 (fM_sPost (v' := (pOf g k 3)) (tV_bathO hA hC (by omega) (by omega)) rfl) rfl hC.1 rfl rfl oX8_bath rfl kL_62M nX8_bath eX8_bath (by unfold fRoom; decide) (Nat.le_of_ble_eq_true rfl) rfl (bc' := 28) (bs' := 168) rfl rfl (fun E M9 h => by cases h.1) (fun v M1 hq => ?_)
    obtain ⟨hv, ⟨dn1, n1, hC1⟩, hO1⟩ := hq
    cases hv
    show fR _ _ _ 373 _ (.int (pOf g k 3) :: _) _ _ _ _
    refine r_goto (tgt := 381) dL_act_373 (by decide) ?_
    refine r_iadd dL_act_381 ?_
    rw [show a6 y g n k = mvBath k (-1) from by unfold a6; (repeat (first | rw [if_pos (by first | assumption | exact Int32.not_le.mp (by assumption) | exact Int32.not_lt.mp (by assumption) | omega | exact Or.inl (by assumption) | exact Or.inr (by omega))] | rw [if_neg (by first | assumption | exact Int32.not_lt.mpr (by assumption) | exact Int32.not_le.mpr (by assumption) | omega | exact fun z => z.elim (fun q => absurd q (by assumption)) (fun q => by omega))])); try rfl]
    exact fR_iret dL_act_382 rfl (aP_of (m := mvBath k (-1)) hC1 hO1 (by first | rfl | exact (nI_add _ _).symm))
  · skip
    have hpb : pInBath g n (nI (upN (shR y 8) 4 - 1)) ≤ n := pCnt_le _ n
    refine r_iconst (v := nI 1) dL_act_320 (by decide) ?_
    refine r_isubN dL_act_321 (by omega) ?_
    refine r_istore (lv' := [(6, .int (nI (((upN (shR y 8) 4) - 1)))), (3, .int (nI (d))), (4, .int (nI (k))), (5, .int (nI (i))), (0, .ref (ad 254)), (1, .int (x)), (2, .int (y))]) dL_act_322 (by decide) rfl ?_
    refine r_iload dL_act_324 rfl ?_
    refine r_if_ltN (tgt := 352) dL_act_326 (by decide) (by omega) (fun c4 => by omega) (fun c4 => ?_)
    refine r_aload_n dL_act_329 rfl ?_
    refine r_iload dL_act_330 rfl ?_
    refine r_iconst (v := nI 3) dL_act_332 (by decide) ?_
    refine r_callV (As := [.int (nI (k)), .int (nI (3))]) dL_act_333 (fM_isI (v' := (pOf g k 3)) (tZ_sampleOf hA hC (by omega) (by omega)) rfl) rfl hC.1 rfl rfl oX8_sampleOfZ rfl kL_23M nX8_sampleOfZ eX8_sampleOfZ (by unfold fRoom; decide) (Nat.le_of_ble_eq_true rfl) rfl (bc' := 30) (bs' := 180) rfl rfl ?_
    show fR _ _ _ 336 _ (.int (pOf g k 3) :: _) _ _ _ _
    refine r_iload dL_act_336 rfl ?_
    refine r_icmp_eq (tgt := 352) dL_act_338 (by decide) (fun c5 => ?_) (fun c5 => ?_)
    · skip
      refine r_iconst (v := nI 1) dL_act_352 (by decide) ?_
      refine r_goto (tgt := 357) dL_act_353 (by decide) ?_
      refine r_istore (lv' := [(7, .int (nI (1))), (6, .int (nI (((upN (shR y 8) 4) - 1)))), (3, .int (nI (d))), (4, .int (nI (k))), (5, .int (nI (i))), (0, .ref (ad 254)), (1, .int (x)), (2, .int (y))]) dL_act_357 (by decide) rfl ?_
      refine r_iconst (v := nI 1) dL_act_359 (by decide) ?_
      refine r_iload dL_act_360 rfl ?_
      refine r_if_eqN (tgt := 376) dL_act_362 (by decide) (by omega) (fun c6 => absurd c6 (by omega)) (fun c6 => ?_)
      refine r_aload_n dL_act_365 rfl ?_
      refine r_iload dL_act_366 rfl ?_
      refine r_iload dL_act_368 rfl ?_
      refine r_callVP (As := [.int (nI (k)), .int (nI (((upN (shR y 8) 4) - 1)))]) dL_act_370 (fM_sPost (v' := (pOf g k 3)) (tV_bath hA hC (by omega) (by omega) (by omega) (by first | exact Or.inl (by assumption) | exact Or.inr (by omega))) rfl) rfl hC.1 rfl rfl oX8_bath rfl kL_62M nX8_bath eX8_bath (by unfold fRoom; decide) (Nat.le_of_ble_eq_true rfl) rfl (bc' := 28) (bs' := 168) rfl rfl (fun E M9 h => by cases h.1) (fun v M1 hq => ?_)
      obtain ⟨hv, ⟨dn1, n1, hC1⟩, hO1⟩ := hq
      cases hv
      show fR _ _ _ 373 _ (.int (pOf g k 3) :: _) _ _ _ _
      refine r_goto (tgt := 381) dL_act_373 (by decide) ?_
      refine r_iadd dL_act_381 ?_
      rw [show a6 y g n k = mvBath k (nI ((upN (shR y 8) 4) - 1)) from by unfold a6; (repeat (first | rw [if_pos (by first | assumption | exact Int32.not_le.mp (by assumption) | exact Int32.not_lt.mp (by assumption) | omega | exact Or.inl (by assumption) | exact Or.inr (by omega))] | rw [if_neg (by first | assumption | exact Int32.not_lt.mpr (by assumption) | exact Int32.not_le.mpr (by assumption) | omega | exact fun z => z.elim (fun q => absurd q (by assumption)) (fun q => by omega))])); try rfl]
      exact fR_iret dL_act_382 rfl (aP_of (m := mvBath k (nI ((upN (shR y 8) 4) - 1))) hC1 hO1 (by first | rfl | exact (nI_add _ _).symm))
    · skip
      refine r_aload_n dL_act_341 rfl ?_
      refine r_iload dL_act_342 rfl ?_
      refine r_iconst (v := nI 1) dL_act_344 (by decide) ?_
      refine r_callV (As := [.int (nI (((upN (shR y 8) 4) - 1))), .int (nI (1))]) dL_act_345 (fM_isI (v' := (nI (pInBath g n (nI ((upN (shR y 8) 4) - 1))))) (tZ_bathOf hA hC (by omega) (by omega)) rfl) rfl hC.1 rfl rfl oX8_bathOfZ rfl kL_33M nX8_bathOfZ eX8_bathOfZ (by unfold fRoom; decide) (Nat.le_of_ble_eq_true rfl) rfl (bc' := 30) (bs' := 180) rfl rfl ?_
      show fR _ _ _ 348 _ (.int (nI (pInBath g n (nI ((upN (shR y 8) 4) - 1)))) :: _) _ _ _ _
      refine r_iconst (v := nI 3) dL_act_348 (by decide) ?_
      refine r_icmp_geN (tgt := 356) dL_act_349 (by decide) (by omega) (by omega) (fun c7 => ?_) (fun c7 => ?_)
      · skip
        refine r_iconst (v := nI 0) dL_act_356 (by decide) ?_
        refine r_istore (lv' := [(7, .int (nI (0))), (6, .int (nI (((upN (shR y 8) 4) - 1)))), (3, .int (nI (d))), (4, .int (nI (k))), (5, .int (nI (i))), (0, .ref (ad 254)), (1, .int (x)), (2, .int (y))]) dL_act_357 (by decide) rfl ?_
        refine r_iconst (v := nI 1) dL_act_359 (by decide) ?_
        refine r_iload dL_act_360 rfl ?_
        refine r_if_eqN (tgt := 376) dL_act_362 (by decide) (by omega) (fun c8 => ?_) (fun c8 => absurd c8 (by omega))
        refine r_aload_n dL_act_376 rfl ?_
        refine r_iconst (v := nI 2) dL_act_377 (by decide) ?_
        refine r_callVP (As := [.int (nI (2))]) dL_act_378 (fM_sPost (v' := (nI (pSame (pPassT g n 2) n))) (tV_pass hA hC (by omega) (by omega)) (by rw [hE.passT.Same])) rfl hC.1 rfl rfl oX8_pass rfl kL_65M nX8_pass eX8_pass (by unfold fRoom; decide) (Nat.le_of_ble_eq_true rfl) rfl (bc' := 29) (bs' := 174) rfl rfl (fun E M9 h => by cases h.1) (fun v M1 hq => ?_)
        obtain ⟨hv, ⟨dn1, n1, hC1⟩, hO1⟩ := hq
        cases hv
        show fR _ _ _ 381 _ (.int (nI (pSame (pPassT g n 2) n)) :: _) _ _ _ _
        refine r_iaddN dL_act_381 ?_
        rw [show a6 y g n k = mvPass n 2 from by unfold a6; (repeat (first | rw [if_pos (by first | assumption | exact Int32.not_le.mp (by assumption) | exact Int32.not_lt.mp (by assumption) | omega | exact Or.inl (by assumption) | exact Or.inr (by omega))] | rw [if_neg (by first | assumption | exact Int32.not_lt.mpr (by assumption) | exact Int32.not_le.mpr (by assumption) | omega | exact fun z => z.elim (fun q => absurd q (by assumption)) (fun q => by omega))])); try rfl]
        exact fR_iret dL_act_382 rfl (aP_of (m := mvPass n 2) hC1 hO1 (by first | rfl | exact (nI_add _ _).symm))
      · skip
        refine r_iconst (v := nI 1) dL_act_352 (by decide) ?_
        refine r_goto (tgt := 357) dL_act_353 (by decide) ?_
        refine r_istore (lv' := [(7, .int (nI (1))), (6, .int (nI (((upN (shR y 8) 4) - 1)))), (3, .int (nI (d))), (4, .int (nI (k))), (5, .int (nI (i))), (0, .ref (ad 254)), (1, .int (x)), (2, .int (y))]) dL_act_357 (by decide) rfl ?_
        refine r_iconst (v := nI 1) dL_act_359 (by decide) ?_
        refine r_iload dL_act_360 rfl ?_
        refine r_if_eqN (tgt := 376) dL_act_362 (by decide) (by omega) (fun c9 => absurd c9 (by omega)) (fun c9 => ?_)
        refine r_aload_n dL_act_365 rfl ?_
        refine r_iload dL_act_366 rfl ?_
        refine r_iload dL_act_368 rfl ?_
        refine r_callVP (As := [.int (nI (k)), .int (nI (((upN (shR y 8) 4) - 1)))]) dL_act_370 (fM_sPost (v' := (pOf g k 3)) (tV_bath hA hC (by omega) (by omega) (by omega) (by first | exact Or.inl (by assumption) | exact Or.inr (by omega))) rfl) rfl hC.1 rfl rfl oX8_bath rfl kL_62M nX8_bath eX8_bath (by unfold fRoom; decide) (Nat.le_of_ble_eq_true rfl) rfl (bc' := 28) (bs' := 168) rfl rfl (fun E M9 h => by cases h.1) (fun v M1 hq => ?_)
        obtain ⟨hv, ⟨dn1, n1, hC1⟩, hO1⟩ := hq
        cases hv
        show fR _ _ _ 373 _ (.int (pOf g k 3) :: _) _ _ _ _
        refine r_goto (tgt := 381) dL_act_373 (by decide) ?_
        refine r_iadd dL_act_381 ?_
        rw [show a6 y g n k = mvBath k (nI ((upN (shR y 8) 4) - 1)) from by unfold a6; (repeat (first | rw [if_pos (by first | assumption | exact Int32.not_le.mp (by assumption) | exact Int32.not_lt.mp (by assumption) | omega | exact Or.inl (by assumption) | exact Or.inr (by omega))] | rw [if_neg (by first | assumption | exact Int32.not_lt.mpr (by assumption) | exact Int32.not_le.mpr (by assumption) | omega | exact fun z => z.elim (fun q => absurd q (by assumption)) (fun q => by omega))])); try rfl]
        exact fR_iret dL_act_382 rfl (aP_of (m := mvBath k (nI ((upN (shR y 8) 4) - 1))) hC1 hO1 (by first | rfl | exact (nI_add _ _).symm))
theorem lL_act_9 {l : Launch} {κ : KP} {M : Mem} {ad : Nat → Nat} {g tx : Nat → Int32} {dn n sn ln : Nat} (hA : aInj ad) (hC : ClsAt κ ad M ⟨g, sn, true, tx, ln⟩ dn n) {x y : Int32} {d k i : Nat} (hd : d < dn) (hk : k < n) (hi : i < 3) : fR l κ mL_act 383 [(3, .int (nI (d))), (4, .int (nI (k))), (5, .int (nI (i))), (0, .ref (ad 254)), (1, .int (x)), (2, .int (y))] [] M 30 180 (aPost κ ad M g sn tx ln (a9 y n)) := by
  have hI : BI g dn n := hC.2.2.1
  have hdn := hI.dle
  have hn := hI.nle
  have hsn : sn ≤ 6 := hC.2.1.s6
  have hE : E6 g (pSave g sn) dn n := ⟨hI, fun j hj => pSave_lo hj⟩
  refine r_iconst (v := nI 1) dL_act_383 (by decide) ?_
  refine r_aload_n dL_act_384 rfl ?_
  refine r_iconst (v := nI 1) dL_act_385 (by decide) ?_
  refine r_iload_n dL_act_386 rfl ?_
  refine r_iload_n dL_act_387 rfl ?_
  refine r_bipush (v := nI 9) dL_act_388 (by decide) ?_
  refine r_ishr dL_act_390 ?_
  refine r_iconst (v := nI 1) dL_act_391 (by decide) ?_
  refine r_iand dL_act_392 ?_
  refine r_if_ne (tgt := 401) dL_act_393 (by decide) (fun c1 => ?_) (fun c1 => ?_)
  · skip
    refine r_bipush (v := nI 12) dL_act_401 (by decide) ?_
    refine r_callS (As := [.int (y), .int (nI (12))]) dL_act_403 (tL_up (v := y) (by omega) (by omega)) rfl oL_up rfl kL_39M sL_up (by unfold fRoom; decide) (Nat.le_of_ble_eq_true rfl) rfl (bc' := 30) (bs' := 180) rfl rfl ?_
    show fR _ _ _ 406 _ (.int (nI ((upN y 12))) :: _) _ _ _ _
    have u2 := upN_lt (v := y) (n := 12) (by omega)
    refine r_iaddN dL_act_406 ?_
    refine r_callVP (As := [.int (nI ((1 + (upN y 12))))]) dL_act_407 (fM_sPost (v' := (nI (pSame (pPassT g n (1 + (upN y 12))) n))) (tV_pass hA hC (by omega) (by omega)) (by rw [hE.passT.Same])) rfl hC.1 rfl rfl oX8_pass rfl kL_65M nX8_pass eX8_pass (by unfold fRoom; decide) (Nat.le_of_ble_eq_true rfl) rfl (bc' := 29) (bs' := 174) rfl rfl (fun E M9 h => by cases h.1) (fun v M1 hq => ?_)
    obtain ⟨hv, ⟨dn1, n1, hC1⟩, hO1⟩ := hq
    cases hv
    show fR _ _ _ 410 _ (.int (nI (pSame (pPassT g n (1 + (upN y 12))) n)) :: _) _ _ _ _
    refine r_iaddN dL_act_410 ?_
    rw [show a9 y n = mvPass n (1 + (upN y 12)) from by unfold a9; (repeat (first | rw [if_pos (by first | assumption | exact Int32.not_le.mp (by assumption) | exact Int32.not_lt.mp (by assumption) | omega | exact Or.inl (by assumption) | exact Or.inr (by omega))] | rw [if_neg (by first | assumption | exact Int32.not_lt.mpr (by assumption) | exact Int32.not_le.mpr (by assumption) | omega | exact fun z => z.elim (fun q => absurd q (by assumption)) (fun q => by omega))])); try rfl]
    exact fR_iret dL_act_411 rfl (aP_of (m := mvPass n (1 + (upN y 12))) hC1 hO1 (by first | rfl | exact (nI_add _ _).symm))
  · skip
    refine r_bipush (v := nI 99) dL_act_396 (by decide) ?_
    refine r_goto (tgt := 403) dL_act_398 (by decide) ?_
    refine r_callS (As := [.int (y), .int (nI (99))]) dL_act_403 (tL_up (v := y) (by omega) (by omega)) rfl oL_up rfl kL_39M sL_up (by unfold fRoom; decide) (Nat.le_of_ble_eq_true rfl) rfl (bc' := 30) (bs' := 180) rfl rfl ?_
    show fR _ _ _ 406 _ (.int (nI ((upN y 99))) :: _) _ _ _ _
    have u3 := upN_lt (v := y) (n := 99) (by omega)
    refine r_iaddN dL_act_406 ?_
    refine r_callVP (As := [.int (nI ((1 + (upN y 99))))]) dL_act_407 (fM_sPost (v' := (nI (pSame (pPassT g n (1 + (upN y 99))) n))) (tV_pass hA hC (by omega) (by omega)) (by rw [hE.passT.Same])) rfl hC.1 rfl rfl oX8_pass rfl kL_65M nX8_pass eX8_pass (by unfold fRoom; decide) (Nat.le_of_ble_eq_true rfl) rfl (bc' := 29) (bs' := 174) rfl rfl (fun E M9 h => by cases h.1) (fun v M1 hq => ?_)
    obtain ⟨hv, ⟨dn1, n1, hC1⟩, hO1⟩ := hq
    cases hv
    show fR _ _ _ 410 _ (.int (nI (pSame (pPassT g n (1 + (upN y 99))) n)) :: _) _ _ _ _
    refine r_iaddN dL_act_410 ?_
    rw [show a9 y n = mvPass n (1 + (upN y 99)) from by unfold a9; (repeat (first | rw [if_pos (by first | assumption | exact Int32.not_le.mp (by assumption) | exact Int32.not_lt.mp (by assumption) | omega | exact Or.inl (by assumption) | exact Or.inr (by omega))] | rw [if_neg (by first | assumption | exact Int32.not_lt.mpr (by assumption) | exact Int32.not_le.mpr (by assumption) | omega | exact fun z => z.elim (fun q => absurd q (by assumption)) (fun q => by omega))])); try rfl]
    exact fR_iret dL_act_411 rfl (aP_of (m := mvPass n (1 + (upN y 99))) hC1 hO1 (by first | rfl | exact (nI_add _ _).symm))
theorem lL_act_11 {l : Launch} {κ : KP} {M : Mem} {ad : Nat → Nat} {g tx : Nat → Int32} {dn n sn ln : Nat} (hA : aInj ad) (hC : ClsAt κ ad M ⟨g, sn, true, tx, ln⟩ dn n) {x y : Int32} {d k i : Nat} (hd : d < dn) (hk : k < n) (hi : i < 3) : fR l κ mL_act 412 [(3, .int (nI (d))), (4, .int (nI (k))), (5, .int (nI (i))), (0, .ref (ad 254)), (1, .int (x)), (2, .int (y))] [] M 30 180 (aPost κ ad M g sn tx ln (a11 g k)) := by
  have hI : BI g dn n := hC.2.2.1
  have hdn := hI.dle
  have hn := hI.nle
  have hsn : sn ≤ 6 := hC.2.1.s6
  have hE : E6 g (pSave g sn) dn n := ⟨hI, fun j hj => pSave_lo hj⟩
  refine r_iconst (v := nI 1) dL_act_412 (by decide) ?_
  refine r_aload_n dL_act_413 rfl ?_
  refine r_iload dL_act_414 rfl ?_
  refine r_iconst (v := nI 3) dL_act_416 (by decide) ?_
  refine r_callV (As := [.int (nI (k)), .int (nI (3))]) dL_act_417 (fM_isI (v' := (pOf g k 3)) (tZ_sampleOf hA hC (by omega) (by omega)) rfl) rfl hC.1 rfl rfl oX8_sampleOfZ rfl kL_23M nX8_sampleOfZ eX8_sampleOfZ (by unfold fRoom; decide) (Nat.le_of_ble_eq_true rfl) rfl (bc' := 30) (bs' := 180) rfl rfl ?_
  show fR _ _ _ 420 _ (.int (pOf g k 3) :: _) _ _ _ _
  refine r_if_lt (tgt := 433) dL_act_420 (by decide) (fun c1 => ?_) (fun c1 => ?_)
  · skip
    refine r_aload_n dL_act_433 rfl ?_
    refine r_iload dL_act_434 rfl ?_
    refine r_callVP (As := [.int (nI (k))]) dL_act_436 (fM_sPost (v' := (pRingR g k)) (tV_ring hA hC (by omega) (by omega) ((lt0_bath hI (by omega)).mp (by assumption))) (hE.RingR (by omega))) rfl hC.1 rfl rfl oX8_ring rfl kL_68M nX8_ring eX8_ring (by unfold fRoom; decide) (Nat.le_of_ble_eq_true rfl) rfl (bc' := 29) (bs' := 174) rfl rfl (fun E M9 h => by cases h.1) (fun v M1 hq => ?_)
    obtain ⟨hv, ⟨dn1, n1, hC1⟩, hO1⟩ := hq
    cases hv
    show fR _ _ _ 439 _ (.int (pRingR g k) :: _) _ _ _ _
    refine r_iadd dL_act_439 ?_
    rw [show a11 g k = mvRing k from by unfold a11; (repeat (first | rw [if_pos (by first | assumption | exact Int32.not_le.mp (by assumption) | exact Int32.not_lt.mp (by assumption) | omega | exact Or.inl (by assumption) | exact Or.inr (by omega))] | rw [if_neg (by first | assumption | exact Int32.not_lt.mpr (by assumption) | exact Int32.not_le.mpr (by assumption) | omega | exact fun z => z.elim (fun q => absurd q (by assumption)) (fun q => by omega))])); try rfl]
    exact fR_iret dL_act_440 rfl (aP_of (m := mvRing k) hC1 hO1 (by first | rfl | exact (nI_add _ _).symm))
  · skip
    refine r_aload_n dL_act_423 rfl ?_
    refine r_iload dL_act_424 rfl ?_
    refine r_iconst (v := (-1)) dL_act_426 (by decide) ?_
    refine r_callVP (As := [.int (nI (k)), .int (-1)]) dL_act_427 (fM_sPost (v' := (pOf g k 3)) (tV_bathO hA hC (by omega) (by omega)) rfl) rfl hC.1 rfl rfl oX8_bath rfl kL_62M nX8_bath eX8_bath (by unfold fRoom; decide) (Nat.le_of_ble_eq_true rfl) rfl (bc' := 28) (bs' := 168) rfl rfl (fun E M9 h => by cases h.1) (fun v M1 hq => ?_)
    obtain ⟨hv, ⟨dn1, n1, hC1⟩, hO1⟩ := hq
    cases hv
    show fR _ _ _ 430 _ (.int (pOf g k 3) :: _) _ _ _ _
    refine r_goto (tgt := 439) dL_act_430 (by decide) ?_
    refine r_iadd dL_act_439 ?_
    rw [show a11 g k = mvBath k (-1) from by unfold a11; (repeat (first | rw [if_pos (by first | assumption | exact Int32.not_le.mp (by assumption) | exact Int32.not_lt.mp (by assumption) | omega | exact Or.inl (by assumption) | exact Or.inr (by omega))] | rw [if_neg (by first | assumption | exact Int32.not_lt.mpr (by assumption) | exact Int32.not_le.mpr (by assumption) | omega | exact fun z => z.elim (fun q => absurd q (by assumption)) (fun q => by omega))])); try rfl]
    exact fR_iret dL_act_440 rfl (aP_of (m := mvBath k (-1)) hC1 hO1 (by first | rfl | exact (nI_add _ _).symm))
theorem lL_act_12 {l : Launch} {κ : KP} {M : Mem} {ad : Nat → Nat} {g tx : Nat → Int32} {dn n sn ln : Nat} (hA : aInj ad) (hC : ClsAt κ ad M ⟨g, sn, true, tx, ln⟩ dn n) {x y : Int32} {d k i : Nat} (hd : d < dn) (hk : k < n) (hi : i < 3) : fR l κ mL_act 441 [(3, .int (nI (d))), (4, .int (nI (k))), (5, .int (nI (i))), (0, .ref (ad 254)), (1, .int (x)), (2, .int (y))] [] M 30 180 (aPost κ ad M g sn tx ln (a12 g n d i)) := by
  have hI : BI g dn n := hC.2.2.1
  have hdn := hI.dle
  have hn := hI.nle
  have hsn : sn ≤ 6 := hC.2.1.s6
  have hE : E6 g (pSave g sn) dn n := ⟨hI, fun j hj => pSave_lo hj⟩
  refine r_iconst (v := nI 1) dL_act_441 (by decide) ?_
  refine r_aload_n dL_act_442 rfl ?_
  refine r_iload_n dL_act_443 rfl ?_
  refine r_callV (As := [.int (nI (d))]) dL_act_444 (fM_isI (v' := (pWhyS g n d)) (tZ_noSale hA hC (by omega)) rfl) rfl hC.1 rfl rfl oX8_noSaleZ rfl kL_71M nX8_noSaleZ eX8_noSaleZ (by unfold fRoom; decide) (Nat.le_of_ble_eq_true rfl) rfl (bc' := 30) (bs' := 180) rfl rfl ?_
  show fR _ _ _ 447 _ (.int (pWhyS g n d) :: _) _ _ _ _
  refine r_if_ne (tgt := 458) dL_act_447 (by decide) (fun c1 => ?_) (fun c1 => ?_)
  · skip
    refine r_aload_n dL_act_458 rfl ?_
    refine r_iload dL_act_459 rfl ?_
    refine r_callVP (As := [.int (nI (i))]) dL_act_461 (fM_sPost (v' := (g (31 + 3 * i + 0))) (tV_renew hA hC (by omega)) rfl) rfl hC.1 rfl rfl oX8_renew rfl kL_56M nX8_renew eX8_renew (by unfold fRoom; decide) (Nat.le_of_ble_eq_true rfl) rfl (bc' := 29) (bs' := 174) rfl rfl (fun E M9 h => by cases h.1) (fun v M1 hq => ?_)
    obtain ⟨hv, ⟨dn1, n1, hC1⟩, hO1⟩ := hq
    cases hv
    show fR _ _ _ 464 _ (.int (g (31 + 3 * i + 0)) :: _) _ _ _ _
    refine r_iadd dL_act_464 ?_
    rw [show a12 g n d i = mvRenew i from by unfold a12; (repeat (first | rw [if_pos (by first | assumption | exact Int32.not_le.mp (by assumption) | exact Int32.not_lt.mp (by assumption) | omega | exact Or.inl (by assumption) | exact Or.inr (by omega))] | rw [if_neg (by first | assumption | exact Int32.not_lt.mpr (by assumption) | exact Int32.not_le.mpr (by assumption) | omega | exact fun z => z.elim (fun q => absurd q (by assumption)) (fun q => by omega))])); try rfl]
    exact fR_iret dL_act_465 rfl (aP_of (m := mvRenew i) hC1 hO1 (by first | rfl | exact (nI_add _ _).symm))
  · skip
    refine r_aload_n dL_act_450 rfl ?_
    refine r_iload_n dL_act_451 rfl ?_
    refine r_callVP (As := [.int (nI (d))]) dL_act_452 (fM_sPost (v' := ((pMean g n d true / nI 20))) (tV_sell hA hC (by omega) (by omega) (by rw [nI_0]; assumption)) (by rw [hE.Mean])) rfl hC.1 rfl rfl oX8_sell rfl kL_74M nX8_sell eX8_sell (by unfold fRoom; decide) (Nat.le_of_ble_eq_true rfl) rfl (bc' := 29) (bs' := 174) rfl rfl (fun E M9 h => by cases h.1) (fun v M1 hq => ?_)
    obtain ⟨hv, ⟨dn1, n1, hC1⟩, hO1⟩ := hq
    cases hv
    show fR _ _ _ 455 _ (.int ((pMean g n d true / nI 20)) :: _) _ _ _ _
    refine r_goto (tgt := 464) dL_act_455 (by decide) ?_
    refine r_iadd dL_act_464 ?_
    rw [show a12 g n d i = mvSell n d from by unfold a12; (repeat (first | rw [if_pos (by first | assumption | exact Int32.not_le.mp (by assumption) | exact Int32.not_lt.mp (by assumption) | omega | exact Or.inl (by assumption) | exact Or.inr (by omega))] | rw [if_neg (by first | assumption | exact Int32.not_lt.mpr (by assumption) | exact Int32.not_le.mpr (by assumption) | omega | exact fun z => z.elim (fun q => absurd q (by assumption)) (fun q => by omega))])); try rfl]
    exact fR_iret dL_act_465 rfl (aP_of (m := mvSell n d) hC1 hO1 (by first | rfl | exact (nI_add _ _).symm))
theorem lL_act_13 {l : Launch} {κ : KP} {M : Mem} {ad : Nat → Nat} {g tx : Nat → Int32} {dn n sn ln : Nat} (hA : aInj ad) (hC : ClsAt κ ad M ⟨g, sn, true, tx, ln⟩ dn n) {x y : Int32} {d k i : Nat} (hd : d < dn) (hk : k < n) (hi : i < 3) : fR l κ mL_act 466 [(3, .int (nI (d))), (4, .int (nI (k))), (5, .int (nI (i))), (0, .ref (ad 254)), (1, .int (x)), (2, .int (y))] [] M 30 180 (aPost κ ad M g sn tx ln (a13 y)) := by
  have hI : BI g dn n := hC.2.2.1
  have hdn := hI.dle
  have hn := hI.nle
  have hsn : sn ≤ 6 := hC.2.1.s6
  have hE : E6 g (pSave g sn) dn n := ⟨hI, fun j hj => pSave_lo hj⟩
  refine r_iload_n dL_act_466 rfl ?_
  refine r_iconst (v := nI 3) dL_act_467 (by decide) ?_
  refine r_callS (As := [.int (y), .int (nI (3))]) dL_act_468 (tL_up (v := y) (by omega) (by omega)) rfl oL_up rfl kL_39M sL_up (by unfold fRoom; decide) (Nat.le_of_ble_eq_true rfl) rfl (bc' := 30) (bs' := 180) rfl rfl ?_
  show fR _ _ _ 471 _ (.int (nI ((upN y 3))) :: _) _ _ _ _
  have u1 := upN_lt (v := y) (n := 3) (by omega)
  refine r_istore (lv' := [(8, .int (nI ((upN y 3)))), (3, .int (nI (d))), (4, .int (nI (k))), (5, .int (nI (i))), (0, .ref (ad 254)), (1, .int (x)), (2, .int (y))]) dL_act_471 (by decide) rfl ?_
  refine r_iconst (v := nI 1) dL_act_473 (by decide) ?_
  refine r_aload_n dL_act_474 rfl ?_
  refine r_iload dL_act_475 rfl ?_
  refine r_iload_n dL_act_477 rfl ?_
  refine r_iconst (v := nI 2) dL_act_478 (by decide) ?_
  refine r_ishr dL_act_479 ?_
  refine r_iload dL_act_480 rfl ?_
  refine r_if_neN (tgt := 490) dL_act_482 (by decide) (by omega) (fun c2 => ?_) (fun c2 => ?_)
  · skip
    refine r_iload dL_act_490 rfl ?_
    refine r_iconst (v := nI 1) dL_act_492 (by decide) ?_
    refine r_icmp_neN (tgt := 501) dL_act_493 (by decide) (by omega) (by omega) (fun c3 => ?_) (fun c3 => ?_)
    · skip
      refine r_bipush (v := nI 61) dL_act_501 (by decide) ?_
      refine r_callS (As := [.int (((y) >>> ((nI (2)) &&& 31))), .int (nI (61))]) dL_act_503 (tL_up (v := (shR y 2)) (by omega) (by omega)) rfl oL_up rfl kL_39M sL_up (by unfold fRoom; decide) (Nat.le_of_ble_eq_true rfl) rfl (bc' := 30) (bs' := 180) rfl rfl ?_
      show fR _ _ _ 506 _ (.int (nI ((upN (shR y 2) 61))) :: _) _ _ _ _
      have u4 := upN_lt (v := (shR y 2)) (n := 61) (by omega)
      refine r_callVP (As := [.int (nI ((upN y 3))), .int (nI ((upN (shR y 2) 61)))]) dL_act_506 (fM_sPost (v' := (g (5 + (upN y 3)))) (tV_set hA hC (by omega) (fun h => by omega) (fun h => by omega) (fun h => by omega)) rfl) rfl hC.1 rfl rfl oX8_set rfl kL_77M nX8_set eX8_set (by unfold fRoom; decide) (Nat.le_of_ble_eq_true rfl) rfl (bc' := 28) (bs' := 168) rfl rfl (fun E M9 h => by cases h.1) (fun v M1 hq => ?_)
      obtain ⟨hv, ⟨dn1, n1, hC1⟩, hO1⟩ := hq
      cases hv
      show fR _ _ _ 509 _ (.int (g (5 + (upN y 3))) :: _) _ _ _ _
      refine r_iadd dL_act_509 ?_
      rw [show a13 y = mvSet (upN y 3) (upN (shR y 2) 61) from by unfold a13 a13L; (repeat (first | rw [if_pos (by first | assumption | exact Int32.not_le.mp (by assumption) | exact Int32.not_lt.mp (by assumption) | omega | exact Or.inl (by assumption) | exact Or.inr (by omega))] | rw [if_neg (by first | assumption | exact Int32.not_lt.mpr (by assumption) | exact Int32.not_le.mpr (by assumption) | omega | exact fun z => z.elim (fun q => absurd q (by assumption)) (fun q => by omega))])); try rfl]
      exact fR_iret dL_act_510 rfl (aP_of (m := mvSet (upN y 3) (upN (shR y 2) 61)) hC1 hO1 (by first | rfl | exact (nI_add _ _).symm))
    · skip
      refine r_bipush (v := nI 101) dL_act_496 (by decide) ?_
      refine r_goto (tgt := 503) dL_act_498 (by decide) ?_
      refine r_callS (As := [.int (((y) >>> ((nI (2)) &&& 31))), .int (nI (101))]) dL_act_503 (tL_up (v := (shR y 2)) (by omega) (by omega)) rfl oL_up rfl kL_39M sL_up (by unfold fRoom; decide) (Nat.le_of_ble_eq_true rfl) rfl (bc' := 30) (bs' := 180) rfl rfl ?_
      show fR _ _ _ 506 _ (.int (nI ((upN (shR y 2) 101))) :: _) _ _ _ _
      have u5 := upN_lt (v := (shR y 2)) (n := 101) (by omega)
      refine r_callVP (As := [.int (nI ((upN y 3))), .int (nI ((upN (shR y 2) 101)))]) dL_act_506 (fM_sPost (v' := (g (5 + (upN y 3)))) (tV_set hA hC (by omega) (fun h => by omega) (fun h => by omega) (fun h => by omega)) rfl) rfl hC.1 rfl rfl oX8_set rfl kL_77M nX8_set eX8_set (by unfold fRoom; decide) (Nat.le_of_ble_eq_true rfl) rfl (bc' := 28) (bs' := 168) rfl rfl (fun E M9 h => by cases h.1) (fun v M1 hq => ?_)
      obtain ⟨hv, ⟨dn1, n1, hC1⟩, hO1⟩ := hq
      cases hv
      show fR _ _ _ 509 _ (.int (g (5 + (upN y 3))) :: _) _ _ _ _
      refine r_iadd dL_act_509 ?_
      rw [show a13 y = mvSet (upN y 3) (upN (shR y 2) 101) from by unfold a13 a13L; (repeat (first | rw [if_pos (by first | assumption | exact Int32.not_le.mp (by assumption) | exact Int32.not_lt.mp (by assumption) | omega | exact Or.inl (by assumption) | exact Or.inr (by omega))] | rw [if_neg (by first | assumption | exact Int32.not_lt.mpr (by assumption) | exact Int32.not_le.mpr (by assumption) | omega | exact fun z => z.elim (fun q => absurd q (by assumption)) (fun q => by omega))])); try rfl]
      exact fR_iret dL_act_510 rfl (aP_of (m := mvSet (upN y 3) (upN (shR y 2) 101)) hC1 hO1 (by first | rfl | exact (nI_add _ _).symm))
  · skip
    refine r_bipush (v := nI 51) dL_act_485 (by decide) ?_
    refine r_goto (tgt := 503) dL_act_487 (by decide) ?_
    refine r_callS (As := [.int (((y) >>> ((nI (2)) &&& 31))), .int (nI (51))]) dL_act_503 (tL_up (v := (shR y 2)) (by omega) (by omega)) rfl oL_up rfl kL_39M sL_up (by unfold fRoom; decide) (Nat.le_of_ble_eq_true rfl) rfl (bc' := 30) (bs' := 180) rfl rfl ?_
    show fR _ _ _ 506 _ (.int (nI ((upN (shR y 2) 51))) :: _) _ _ _ _
    have u6 := upN_lt (v := (shR y 2)) (n := 51) (by omega)
    refine r_callVP (As := [.int (nI ((upN y 3))), .int (nI ((upN (shR y 2) 51)))]) dL_act_506 (fM_sPost (v' := (g (5 + (upN y 3)))) (tV_set hA hC (by omega) (fun h => by omega) (fun h => by omega) (fun h => by omega)) rfl) rfl hC.1 rfl rfl oX8_set rfl kL_77M nX8_set eX8_set (by unfold fRoom; decide) (Nat.le_of_ble_eq_true rfl) rfl (bc' := 28) (bs' := 168) rfl rfl (fun E M9 h => by cases h.1) (fun v M1 hq => ?_)
    obtain ⟨hv, ⟨dn1, n1, hC1⟩, hO1⟩ := hq
    cases hv
    show fR _ _ _ 509 _ (.int (g (5 + (upN y 3))) :: _) _ _ _ _
    refine r_iadd dL_act_509 ?_
    rw [show a13 y = mvSet (upN y 3) (upN (shR y 2) 51) from by unfold a13 a13L; (repeat (first | rw [if_pos (by first | assumption | exact Int32.not_le.mp (by assumption) | exact Int32.not_lt.mp (by assumption) | omega | exact Or.inl (by assumption) | exact Or.inr (by omega))] | rw [if_neg (by first | assumption | exact Int32.not_lt.mpr (by assumption) | exact Int32.not_le.mpr (by assumption) | omega | exact fun z => z.elim (fun q => absurd q (by assumption)) (fun q => by omega))])); try rfl]
    exact fR_iret dL_act_510 rfl (aP_of (m := mvSet (upN y 3) (upN (shR y 2) 51)) hC1 hO1 (by first | rfl | exact (nI_add _ _).symm))
theorem lL_act_14 {l : Launch} {κ : KP} {M : Mem} {ad : Nat → Nat} {g tx : Nat → Int32} {dn n sn ln : Nat} (hA : aInj ad) (hC : ClsAt κ ad M ⟨g, sn, true, tx, ln⟩ dn n) {x y : Int32} {d k i : Nat} (hd : d < dn) (hk : k < n) (hi : i < 3) : fR l κ mL_act 511 [(3, .int (nI (d))), (4, .int (nI (k))), (5, .int (nI (i))), (0, .ref (ad 254)), (1, .int (x)), (2, .int (y))] [] M 30 180 (aPost κ ad M g sn tx ln (a14 y n)) := by
  have hI : BI g dn n := hC.2.2.1
  have hdn := hI.dle
  have hn := hI.nle
  have hsn : sn ≤ 6 := hC.2.1.s6
  have hE : E6 g (pSave g sn) dn n := ⟨hI, fun j hj => pSave_lo hj⟩
  refine r_iconst (v := nI 1) dL_act_511 (by decide) ?_
  refine r_iload_n dL_act_512 rfl ?_
  refine r_bipush (v := nI 7) dL_act_513 (by decide) ?_
  refine r_iand dL_act_515 ?_
  refine r_if_ne (tgt := 526) dL_act_516 (by decide) (fun c1 => ?_) (fun c1 => ?_)
  · skip
    refine r_aload_n dL_act_526 rfl ?_
    refine r_iconst (v := nI 3) dL_act_527 (by decide) ?_
    refine r_callVP (As := [.int (nI (3))]) dL_act_528 (fM_sPost (v' := (nI (pSame (pPassT g n 3) n))) (tV_pass hA hC (by omega) (by omega)) (by rw [hE.passT.Same])) rfl hC.1 rfl rfl oX8_pass rfl kL_65M nX8_pass eX8_pass (by unfold fRoom; decide) (Nat.le_of_ble_eq_true rfl) rfl (bc' := 29) (bs' := 174) rfl rfl (fun E M9 h => by cases h.1) (fun v M1 hq => ?_)
    obtain ⟨hv, ⟨dn1, n1, hC1⟩, hO1⟩ := hq
    cases hv
    show fR _ _ _ 531 _ (.int (nI (pSame (pPassT g n 3) n)) :: _) _ _ _ _
    refine r_iaddN dL_act_531 ?_
    rw [show a14 y n = mvPass n 3 from by unfold a14; (repeat (first | rw [if_pos (by first | assumption | exact Int32.not_le.mp (by assumption) | exact Int32.not_lt.mp (by assumption) | omega | exact Or.inl (by assumption) | exact Or.inr (by omega))] | rw [if_neg (by first | assumption | exact Int32.not_lt.mpr (by assumption) | exact Int32.not_le.mpr (by assumption) | omega | exact fun z => z.elim (fun q => absurd q (by assumption)) (fun q => by omega))])); try rfl]
    exact fR_iret dL_act_532 rfl (aP_of (m := mvPass n 3) hC1 hO1 (by first | rfl | exact (nI_add _ _).symm))
  · skip
    refine r_aload_n dL_act_519 rfl ?_
    refine r_callVP (As := []) dL_act_520 (fM_sPost (v' := (pCp g 7 0 1)) (tV_restore hA hC) (by rw [pCp_0 (by omega), pCp_0 (by omega)]; exact save7 hsn (by omega))) rfl hC.1 rfl rfl oX8_restore rfl kL_80M nX8_restore eX8_restore (by unfold fRoom; decide) (Nat.le_of_ble_eq_true rfl) rfl (bc' := 29) (bs' := 174) rfl rfl (fun E M9 h => by cases h.1) (fun v M1 hq => ?_)
    obtain ⟨hv, ⟨dn1, n1, hC1⟩, hO1⟩ := hq
    cases hv
    show fR _ _ _ 523 _ (.int (pCp g 7 0 1) :: _) _ _ _ _
    refine r_goto (tgt := 531) dL_act_523 (by decide) ?_
    refine r_iadd dL_act_531 ?_
    rw [show a14 y n = mvRestore from by unfold a14; (repeat (first | rw [if_pos (by first | assumption | exact Int32.not_le.mp (by assumption) | exact Int32.not_lt.mp (by assumption) | omega | exact Or.inl (by assumption) | exact Or.inr (by omega))] | rw [if_neg (by first | assumption | exact Int32.not_lt.mpr (by assumption) | exact Int32.not_le.mpr (by assumption) | omega | exact fun z => z.elim (fun q => absurd q (by assumption)) (fun q => by omega))])); try rfl]
    exact fR_iret dL_act_532 rfl (aP_of (m := mvRestore) hC1 hO1 (by first | rfl | exact (nI_add _ _).symm))
theorem lL_act_15c {l : Launch} {κ : KP} {M : Mem} {ad : Nat → Nat} {g tx : Nat → Int32} {dn n sn ln : Nat} (hA : aInj ad) (hC : ClsAt κ ad M ⟨g, sn, true, tx, ln⟩ dn n) {x y : Int32} {d k i : Nat} (hd : d < dn) (hk : k < n) (hi : i < 3) : fR l κ mL_act 588 [(10, .int (nI ((a15s y)))), (9, .int (nI ((a15w y)))), (3, .int (nI (d))), (4, .int (nI (k))), (5, .int (nI (i))), (0, .ref (ad 254)), (1, .int (x)), (2, .int (y))] [] M 30 180 (aPost κ ad M g sn tx ln (a15 y g n k i)) := by
  have hI : BI g dn n := hC.2.2.1
  have hdn := hI.dle
  have hn := hI.nle
  have hsn : sn ≤ 6 := hC.2.1.s6
  have hE : E6 g (pSave g sn) dn n := ⟨hI, fun j hj => pSave_lo hj⟩
  have w_b := a15w_b y
  have s_b := a15s_b y
  have l_b := a13L_b y
  refine r_iconst (v := nI 1) dL_act_588 (by decide) ?_
  refine r_aload_n dL_act_589 rfl ?_
  refine r_iload dL_act_590 rfl ?_
  refine r_iload dL_act_592 rfl ?_
  refine r_callV (As := [.int (nI (i)), .int (nI (k))]) dL_act_594 (fM_isI (v' := (pWhyNot g i k)) (tZ_noSink hA hC (by omega) (by omega)) rfl) rfl hC.1 rfl rfl oX8_noSinkZ rfl kL_84M nX8_noSinkZ eX8_noSinkZ (by unfold fRoom; decide) (Nat.le_of_ble_eq_true rfl) rfl (bc' := 30) (bs' := 180) rfl rfl ?_
  show fR _ _ _ 597 _ (.int (pWhyNot g i k) :: _) _ _ _ _
  refine r_if_ne (tgt := 615) dL_act_597 (by decide) (fun c1 => ?_) (fun c1 => ?_)
  · skip
    refine r_aload_n dL_act_615 rfl ?_
    refine r_iconst (v := nI 1) dL_act_616 (by decide) ?_
    refine r_callVP (As := [.int (nI (1))]) dL_act_617 (fM_sPost (v' := (nI (pSame (pPassT g n 1) n))) (tV_pass hA hC (by omega) (by omega)) (by rw [hE.passT.Same])) rfl hC.1 rfl rfl oX8_pass rfl kL_65M nX8_pass eX8_pass (by unfold fRoom; decide) (Nat.le_of_ble_eq_true rfl) rfl (bc' := 29) (bs' := 174) rfl rfl (fun E M9 h => by cases h.1) (fun v M1 hq => ?_)
    obtain ⟨hv, ⟨dn1, n1, hC1⟩, hO1⟩ := hq
    cases hv
    show fR _ _ _ 620 _ (.int (nI (pSame (pPassT g n 1) n)) :: _) _ _ _ _
    refine r_iaddN dL_act_620 ?_
    rw [show a15 y g n k i = mvPass n 1 from by unfold a15; (repeat (first | rw [if_pos (by first | assumption | exact Int32.not_le.mp (by assumption) | exact Int32.not_lt.mp (by assumption) | omega | exact Or.inl (by assumption) | exact Or.inr (by omega))] | rw [if_neg (by first | assumption | exact Int32.not_lt.mpr (by assumption) | exact Int32.not_le.mpr (by assumption) | omega | exact fun z => z.elim (fun q => absurd q (by assumption)) (fun q => by omega))])); try rfl]
    exact fR_iret dL_act_621 rfl (aP_of (m := mvPass n 1) hC1 hO1 (by first | rfl | exact (nI_add _ _).symm))
  · skip
    refine r_aload_n dL_act_600 rfl ?_
    refine r_iload dL_act_601 rfl ?_
    refine r_iload dL_act_603 rfl ?_
    refine r_iload dL_act_605 rfl ?_
    refine r_iload dL_act_607 rfl ?_
    refine r_callVP (As := [.int (nI (i)), .int (nI (k)), .int (nI ((a15w y))), .int (nI ((a15s y)))]) dL_act_609 (fM_sPost (v' := (pDep g i k (nI (a15w y)) (nI (a15s y)))) (tV_sink hA hC (by omega) (by omega) (by omega) (by omega) (by omega) (by omega) (by omega) (by rw [nI_0]; assumption)) (hE.Dep (by omega) (by omega))) rfl hC.1 rfl rfl oX8_sink rfl kL_87M nX8_sink eX8_sink (by unfold fRoom; decide) (Nat.le_of_ble_eq_true rfl) rfl (bc' := 25) (bs' := 150) rfl rfl (fun E M9 h => by cases h.1) (fun v M1 hq => ?_)
    obtain ⟨hv, ⟨dn1, n1, hC1⟩, hO1⟩ := hq
    cases hv
    show fR _ _ _ 612 _ (.int (pDep g i k (nI (a15w y)) (nI (a15s y))) :: _) _ _ _ _
    refine r_goto (tgt := 620) dL_act_612 (by decide) ?_
    refine r_iadd dL_act_620 ?_
    rw [show a15 y g n k i = mvSink i k (a15w y) (a15s y) from by unfold a15; (repeat (first | rw [if_pos (by first | assumption | exact Int32.not_le.mp (by assumption) | exact Int32.not_lt.mp (by assumption) | omega | exact Or.inl (by assumption) | exact Or.inr (by omega))] | rw [if_neg (by first | assumption | exact Int32.not_lt.mpr (by assumption) | exact Int32.not_le.mpr (by assumption) | omega | exact fun z => z.elim (fun q => absurd q (by assumption)) (fun q => by omega))])); try rfl]
    exact fR_iret dL_act_621 rfl (aP_of (m := mvSink i k (a15w y) (a15s y)) hC1 hO1 (by first | rfl | exact (nI_add _ _).symm))
theorem lL_act_15b {l : Launch} {κ : KP} {M : Mem} {ad : Nat → Nat} {g tx : Nat → Int32} {dn n sn ln : Nat} (hA : aInj ad) (hC : ClsAt κ ad M ⟨g, sn, true, tx, ln⟩ dn n) {x y : Int32} {d k i : Nat} (hd : d < dn) (hk : k < n) (hi : i < 3) : fR l κ mL_act 562 [(9, .int (nI ((a15w y)))), (3, .int (nI (d))), (4, .int (nI (k))), (5, .int (nI (i))), (0, .ref (ad 254)), (1, .int (x)), (2, .int (y))] [] M 30 180 (aPost κ ad M g sn tx ln (a15 y g n k i)) := by
  have hI : BI g dn n := hC.2.2.1
  have hdn := hI.dle
  have hn := hI.nle
  have hsn : sn ≤ 6 := hC.2.1.s6
  have hE : E6 g (pSave g sn) dn n := ⟨hI, fun j hj => pSave_lo hj⟩
  refine r_iload_n dL_act_562 rfl ?_
  refine r_bipush (v := nI 9) dL_act_563 (by decide) ?_
  refine r_ishr dL_act_565 ?_
  refine r_iconst (v := nI 3) dL_act_566 (by decide) ?_
  refine r_iand dL_act_567 ?_
  refine r_if_le (tgt := 575) dL_act_568 (by decide) (fun c1 => ?_) (fun c1 => ?_)
  · skip
    refine r_iconst (v := nI 1) dL_act_575 (by decide) ?_
    refine r_iload_n dL_act_576 rfl ?_
    refine r_bipush (v := nI 13) dL_act_577 (by decide) ?_
    refine r_ishr dL_act_579 ?_
    refine r_bipush (v := nI 60) dL_act_580 (by decide) ?_
    refine r_callS (As := [.int (((y) >>> ((nI (13)) &&& 31))), .int (nI (60))]) dL_act_582 (tL_up (v := (shR y 13)) (by omega) (by omega)) rfl oL_up rfl kL_39M sL_up (by unfold fRoom; decide) (Nat.le_of_ble_eq_true rfl) rfl (bc' := 30) (bs' := 180) rfl rfl ?_
    show fR _ _ _ 585 _ (.int (nI ((upN (shR y 13) 60))) :: _) _ _ _ _
    have u2 := upN_lt (v := (shR y 13)) (n := 60) (by omega)
    refine r_iaddN dL_act_585 ?_
    refine r_top (y := nI (a15s y)) (by unfold a15s; rw [if_neg (Int32.not_lt.mpr (by assumption))]) ?_
    refine r_istore (lv' := [(10, .int (nI ((a15s y)))), (9, .int (nI ((a15w y)))), (3, .int (nI (d))), (4, .int (nI (k))), (5, .int (nI (i))), (0, .ref (ad 254)), (1, .int (x)), (2, .int (y))]) dL_act_586 (by decide) rfl ?_
    refine r_lv (lv' := [(10, .int (nI ((a15s y)))), (9, .int (nI ((a15w y)))), (3, .int (nI (d))), (4, .int (nI (k))), (5, .int (nI (i))), (0, .ref (ad 254)), (1, .int (x)), (2, .int (y))]) (by simp) ?_
    exact lL_act_15c hA hC hd hk hi
  · skip
    refine r_iconst (v := nI 5) dL_act_571 (by decide) ?_
    refine r_goto (tgt := 586) dL_act_572 (by decide) ?_
    refine r_top (y := nI (a15s y)) (by unfold a15s; rw [if_pos (Int32.not_le.mp (by assumption))]) ?_
    refine r_istore (lv' := [(10, .int (nI ((a15s y)))), (9, .int (nI ((a15w y)))), (3, .int (nI (d))), (4, .int (nI (k))), (5, .int (nI (i))), (0, .ref (ad 254)), (1, .int (x)), (2, .int (y))]) dL_act_586 (by decide) rfl ?_
    refine r_lv (lv' := [(10, .int (nI ((a15s y)))), (9, .int (nI ((a15w y)))), (3, .int (nI (d))), (4, .int (nI (k))), (5, .int (nI (i))), (0, .ref (ad 254)), (1, .int (x)), (2, .int (y))]) (by simp) ?_
    exact lL_act_15c hA hC hd hk hi
theorem lL_act_15 {l : Launch} {κ : KP} {M : Mem} {ad : Nat → Nat} {g tx : Nat → Int32} {dn n sn ln : Nat} (hA : aInj ad) (hC : ClsAt κ ad M ⟨g, sn, true, tx, ln⟩ dn n) {x y : Int32} {d k i : Nat} (hd : d < dn) (hk : k < n) (hi : i < 3) : fR l κ mL_act 533 [(3, .int (nI (d))), (4, .int (nI (k))), (5, .int (nI (i))), (0, .ref (ad 254)), (1, .int (x)), (2, .int (y))] [] M 30 180 (aPost κ ad M g sn tx ln (a15 y g n k i)) := by
  have hI : BI g dn n := hC.2.2.1
  have hdn := hI.dle
  have hn := hI.nle
  have hsn : sn ≤ 6 := hC.2.1.s6
  have hE : E6 g (pSave g sn) dn n := ⟨hI, fun j hj => pSave_lo hj⟩
  refine r_iload_n dL_act_533 rfl ?_
  refine r_bipush (v := nI 9) dL_act_534 (by decide) ?_
  refine r_ishr dL_act_536 ?_
  refine r_iconst (v := nI 3) dL_act_537 (by decide) ?_
  refine r_iand dL_act_538 ?_
  refine r_if_le (tgt := 547) dL_act_539 (by decide) (fun c1 => ?_) (fun c1 => ?_)
  · skip
    refine r_bipush (v := nI 50) dL_act_547 (by decide) ?_
    refine r_iload_n dL_act_549 rfl ?_
    refine r_bipush (v := nI 11) dL_act_550 (by decide) ?_
    refine r_ishr dL_act_552 ?_
    refine r_sipush (v := nI 151) dL_act_553 (by decide) ?_
    refine r_callS (As := [.int (((y) >>> ((nI (11)) &&& 31))), .int (nI (151))]) dL_act_556 (tL_up (v := (shR y 11)) (by omega) (by omega)) rfl oL_up rfl kL_39M sL_up (by unfold fRoom; decide) (Nat.le_of_ble_eq_true rfl) rfl (bc' := 30) (bs' := 180) rfl rfl ?_
    show fR _ _ _ 559 _ (.int (nI ((upN (shR y 11) 151))) :: _) _ _ _ _
    have u2 := upN_lt (v := (shR y 11)) (n := 151) (by omega)
    refine r_iaddN dL_act_559 ?_
    refine r_top (y := nI (a15w y)) (by unfold a15w; rw [if_neg (Int32.not_lt.mpr (by assumption))]) ?_
    refine r_istore (lv' := [(9, .int (nI ((a15w y)))), (3, .int (nI (d))), (4, .int (nI (k))), (5, .int (nI (i))), (0, .ref (ad 254)), (1, .int (x)), (2, .int (y))]) dL_act_560 (by decide) rfl ?_
    refine r_lv (lv' := [(9, .int (nI ((a15w y)))), (3, .int (nI (d))), (4, .int (nI (k))), (5, .int (nI (i))), (0, .ref (ad 254)), (1, .int (x)), (2, .int (y))]) (by simp) ?_
    exact lL_act_15b hA hC hd hk hi
  · skip
    refine r_bipush (v := nI 100) dL_act_542 (by decide) ?_
    refine r_goto (tgt := 560) dL_act_544 (by decide) ?_
    refine r_top (y := nI (a15w y)) (by unfold a15w; rw [if_pos (Int32.not_le.mp (by assumption))]) ?_
    refine r_istore (lv' := [(9, .int (nI ((a15w y)))), (3, .int (nI (d))), (4, .int (nI (k))), (5, .int (nI (i))), (0, .ref (ad 254)), (1, .int (x)), (2, .int (y))]) dL_act_560 (by decide) rfl ?_
    refine r_lv (lv' := [(9, .int (nI ((a15w y)))), (3, .int (nI (d))), (4, .int (nI (k))), (5, .int (nI (i))), (0, .ref (ad 254)), (1, .int (x)), (2, .int (y))]) (by simp) ?_
    exact lL_act_15b hA hC hd hk hi
theorem lL_act_sw {l : Launch} {κ : KP} {M : Mem} {ad : Nat → Nat} {g tx : Nat → Int32} {dn n sn ln : Nat} (hA : aInj ad) (hC : ClsAt κ ad M ⟨g, sn, true, tx, ln⟩ dn n) {x y : Int32} {c d k i : Nat} (hc : c < 20) (hd : d < dn) (hk : k < n) (hi : i < 3) : fR l κ mL_act 88 [(3, .int (nI (d))), (4, .int (nI (k))), (5, .int (nI (i))), (0, .ref (ad 254)), (1, .int (x)), (2, .int (y))] [.int (nI c)] M 30 180 (aPost κ ad M g sn tx ln (actS c y g dn n d k i)) := by
  by_cases q0 : c = 0
  · subst q0
    refine r_tableIn (off := 76) (tgt := 164) dL_act_88 (by decide) (by decide) (by decide) (by decide) ?_
    exact lL_act_0 hA hC hd hk hi
  by_cases q1 : c = 1
  · subst q1
    refine r_tableIn (off := 118) (tgt := 206) dL_act_88 (by decide) (by decide) (by decide) (by decide) ?_
    exact lL_act_1 hA hC hd hk hi
  by_cases q2 : c = 2
  · subst q2
    refine r_tableIn (off := 133) (tgt := 221) dL_act_88 (by decide) (by decide) (by decide) (by decide) ?_
    exact lL_act_2 hA hC hd hk hi
  by_cases q3 : c = 3
  · subst q3
    refine r_tableIn (off := 133) (tgt := 221) dL_act_88 (by decide) (by decide) (by decide) (by decide) ?_
    exact lL_act_2 hA hC hd hk hi
  by_cases q4 : c = 4
  · subst q4
    refine r_tableIn (off := 160) (tgt := 248) dL_act_88 (by decide) (by decide) (by decide) (by decide) ?_
    exact lL_act_4 hA hC hd hk hi
  by_cases q5 : c = 5
  · subst q5
    refine r_tableIn (off := 184) (tgt := 272) dL_act_88 (by decide) (by decide) (by decide) (by decide) ?_
    exact lL_act_5 hA hC hd hk hi
  by_cases q6 : c = 6
  · subst q6
    refine r_tableIn (off := 224) (tgt := 312) dL_act_88 (by decide) (by decide) (by decide) (by decide) ?_
    exact lL_act_6 hA hC hd hk hi
  by_cases q7 : c = 7
  · subst q7
    refine r_tableIn (off := 224) (tgt := 312) dL_act_88 (by decide) (by decide) (by decide) (by decide) ?_
    exact lL_act_6 hA hC hd hk hi
  by_cases q8 : c = 8
  · subst q8
    refine r_tableIn (off := 224) (tgt := 312) dL_act_88 (by decide) (by decide) (by decide) (by decide) ?_
    exact lL_act_6 hA hC hd hk hi
  by_cases q9 : c = 9
  · subst q9
    refine r_tableIn (off := 295) (tgt := 383) dL_act_88 (by decide) (by decide) (by decide) (by decide) ?_
    exact lL_act_9 hA hC hd hk hi
  by_cases q10 : c = 10
  · subst q10
    refine r_tableIn (off := 295) (tgt := 383) dL_act_88 (by decide) (by decide) (by decide) (by decide) ?_
    exact lL_act_9 hA hC hd hk hi
  by_cases q11 : c = 11
  · subst q11
    refine r_tableIn (off := 324) (tgt := 412) dL_act_88 (by decide) (by decide) (by decide) (by decide) ?_
    exact lL_act_11 hA hC hd hk hi
  by_cases q12 : c = 12
  · subst q12
    refine r_tableIn (off := 353) (tgt := 441) dL_act_88 (by decide) (by decide) (by decide) (by decide) ?_
    exact lL_act_12 hA hC hd hk hi
  by_cases q13 : c = 13
  · subst q13
    refine r_tableIn (off := 378) (tgt := 466) dL_act_88 (by decide) (by decide) (by decide) (by decide) ?_
    exact lL_act_13 hA hC hd hk hi
  by_cases q14 : c = 14
  · subst q14
    refine r_tableIn (off := 423) (tgt := 511) dL_act_88 (by decide) (by decide) (by decide) (by decide) ?_
    exact lL_act_14 hA hC hd hk hi
  rw [show actS c y g dn n d k i = a15 y g n k i from by unfold actS; rw [if_neg q0, if_neg q1, if_neg (by omega), if_neg q4, if_neg q5, if_neg (by omega), if_neg (by omega), if_neg q11, if_neg q12, if_neg q13, if_neg q14]]
  refine r_tableOut (tgt := 533) dL_act_88 (Or.inr (by rw [nI_toInt (by omega)]; omega)) (by decide) ?_
  exact lL_act_15 hA hC hd hk hi
theorem tL_act {l : Launch} {κ : KP} {M : Mem} {ad : Nat → Nat} {g tx : Nat → Int32} {dn n sn ln : Nat} (hA : aInj ad) (hC : ClsAt κ ad M ⟨g, sn, true, tx, ln⟩ dn n) {x y : Int32} : fM l κ mL_act [.ref (ad 254), .int (x), .int (y)] M (aPost κ ad M g sn tx ln (actM x y g dn n)) := by
  refine fM_of rfl (by decide +kernel) (Nat.le_of_ble_eq_true rfl) ?_
  have hI : BI g dn n := hC.2.2.1
  have hdn := hI.dle
  have hn := hI.nle
  have hsn : sn ≤ 6 := hC.2.1.s6
  have hE : E6 g (pSave g sn) dn n := ⟨hI, fun j hj => pSave_lo hj⟩
  show fR l κ mL_act 0 [(0, .ref (ad 254)), (1, .int (x)), (2, .int (y))] [] M 30 180 _
  by_cases c0 : dn = 0
  · skip
    refine r_aload_n dL_act_0 rfl ?_
    refine r_iconst (v := nI 0) dL_act_1 (by decide) ?_
    refine r_callV (As := [.int (nI (0))]) dL_act_2 (fM_isI (v' := (nI (dn))) (tZ_count hA hC (by omega)) hC.2.2.1.d0) rfl hC.1 rfl rfl oX8_countZ rfl kL_13M nX8_countZ eX8_countZ (by unfold fRoom; decide) (Nat.le_of_ble_eq_true rfl) rfl (bc' := 30) (bs' := 180) rfl rfl ?_
    show fR _ _ _ 5 _ (.int (nI (dn)) :: _) _ _ _ _
    refine r_if_eqN (tgt := 16) dL_act_5 (by decide) (by omega) (fun c1 => ?_) (fun c1 => by omega)
    refine r_iconst (v := nI 1) dL_act_16 (by decide) ?_
    refine r_aload_n dL_act_17 rfl ?_
    refine r_iconst (v := nI 0) dL_act_18 (by decide) ?_
    refine r_callV (As := [.int (nI (0))]) dL_act_19 (fM_isI (v' := (nI (dn))) (tZ_count hA hC (by omega)) hC.2.2.1.d0) rfl hC.1 rfl rfl oX8_countZ rfl kL_13M nX8_countZ eX8_countZ (by unfold fRoom; decide) (Nat.le_of_ble_eq_true rfl) rfl (bc' := 30) (bs' := 180) rfl rfl ?_
    show fR _ _ _ 22 _ (.int (nI (dn)) :: _) _ _ _ _
    refine r_if_neN (tgt := 42) dL_act_22 (by decide) (by omega) (fun c2 => by omega) (fun c2 => ?_)
    refine r_aload_n dL_act_25 rfl ?_
    refine r_bipush (v := nI 20) dL_act_26 (by decide) ?_
    refine r_iload_n dL_act_28 rfl ?_
    refine r_sipush (v := nI 281) dL_act_29 (by decide) ?_
    refine r_callS (As := [.int (y), .int (nI (281))]) dL_act_32 (tL_up (v := y) (by omega) (by omega)) rfl oL_up rfl kL_39M sL_up (by unfold fRoom; decide) (Nat.le_of_ble_eq_true rfl) rfl (bc' := 30) (bs' := 180) rfl rfl ?_
    show fR _ _ _ 35 _ (.int (nI ((upN y 281))) :: _) _ _ _ _
    have u3 := upN_lt (v := y) (n := 281) (by omega)
    refine r_iaddN dL_act_35 ?_
    refine r_callVP (As := [.int (nI ((20 + (upN y 281))))]) dL_act_36 (fM_sPost (v' := (nI (dn))) (tV_drum hA hC (by omega) (by omega) (by omega)) rfl) rfl hC.1 rfl rfl oX8_drum rfl kL_44M nX8_drum eX8_drum (by unfold fRoom; decide) (Nat.le_of_ble_eq_true rfl) rfl (bc' := 28) (bs' := 168) rfl rfl (fun E M9 h => by cases h.1) (fun v M1 hq => ?_)
    obtain ⟨hv, ⟨dn1, n1, hC1⟩, hO1⟩ := hq
    cases hv
    show fR _ _ _ 39 _ (.int (nI (dn)) :: _) _ _ _ _
    refine r_goto (tgt := 47) dL_act_39 (by decide) ?_
    refine r_iaddN dL_act_47 ?_
    rw [show actM x y g dn n = mvDrum dn (20 + (upN y 281)) from by unfold actM; (repeat (first | rw [if_pos (by first | assumption | exact Int32.not_le.mp (by assumption) | exact Int32.not_lt.mp (by assumption) | omega | exact Or.inl (by assumption) | exact Or.inr (by omega))] | rw [if_neg (by first | assumption | exact Int32.not_lt.mpr (by assumption) | exact Int32.not_le.mpr (by assumption) | omega | exact fun z => z.elim (fun q => absurd q (by assumption)) (fun q => by omega))])); try rfl]
    exact fR_iret dL_act_48 rfl (aP_of (m := mvDrum dn (20 + (upN y 281))) hC1 hO1 (by first | rfl | exact (nI_add _ _).symm))
  · skip
    refine r_aload_n dL_act_0 rfl ?_
    refine r_iconst (v := nI 0) dL_act_1 (by decide) ?_
    refine r_callV (As := [.int (nI (0))]) dL_act_2 (fM_isI (v' := (nI (dn))) (tZ_count hA hC (by omega)) hC.2.2.1.d0) rfl hC.1 rfl rfl oX8_countZ rfl kL_13M nX8_countZ eX8_countZ (by unfold fRoom; decide) (Nat.le_of_ble_eq_true rfl) rfl (bc' := 30) (bs' := 180) rfl rfl ?_
    show fR _ _ _ 5 _ (.int (nI (dn)) :: _) _ _ _ _
    refine r_if_eqN (tgt := 16) dL_act_5 (by decide) (by omega) (fun c4 => by omega) (fun c4 => ?_)
    by_cases c1 : n = 0
    · skip
      refine r_aload_n dL_act_8 rfl ?_
      refine r_iconst (v := nI 1) dL_act_9 (by decide) ?_
      refine r_callV (As := [.int (nI (1))]) dL_act_10 (fM_isI (v' := (nI (n))) (tZ_count hA hC (by omega)) hC.2.2.1.n0) rfl hC.1 rfl rfl oX8_countZ rfl kL_13M nX8_countZ eX8_countZ (by unfold fRoom; decide) (Nat.le_of_ble_eq_true rfl) rfl (bc' := 30) (bs' := 180) rfl rfl ?_
      show fR _ _ _ 13 _ (.int (nI (n)) :: _) _ _ _ _
      refine r_if_neN (tgt := 49) dL_act_13 (by decide) (by omega) (fun c5 => by omega) (fun c5 => ?_)
      refine r_iconst (v := nI 1) dL_act_16 (by decide) ?_
      refine r_aload_n dL_act_17 rfl ?_
      refine r_iconst (v := nI 0) dL_act_18 (by decide) ?_
      refine r_callV (As := [.int (nI (0))]) dL_act_19 (fM_isI (v' := (nI (dn))) (tZ_count hA hC (by omega)) hC.2.2.1.d0) rfl hC.1 rfl rfl oX8_countZ rfl kL_13M nX8_countZ eX8_countZ (by unfold fRoom; decide) (Nat.le_of_ble_eq_true rfl) rfl (bc' := 30) (bs' := 180) rfl rfl ?_
      show fR _ _ _ 22 _ (.int (nI (dn)) :: _) _ _ _ _
      refine r_if_neN (tgt := 42) dL_act_22 (by decide) (by omega) (fun c6 => ?_) (fun c6 => by omega)
      refine r_aload_n dL_act_42 rfl ?_
      refine r_iconst (v := nI 0) dL_act_43 (by decide) ?_
      refine r_callVP (As := [.int (nI (0))]) dL_act_44 (fM_sPost (v' := (nI (n))) (tV_sample hA hC (by omega) (by omega) (by omega)) rfl) rfl hC.1 rfl rfl oX8_sample rfl kL_47M nX8_sample eX8_sample (by unfold fRoom; decide) (Nat.le_of_ble_eq_true rfl) rfl (bc' := 29) (bs' := 174) rfl rfl (fun E M9 h => by cases h.1) (fun v M1 hq => ?_)
      obtain ⟨hv, ⟨dn1, n1, hC1⟩, hO1⟩ := hq
      cases hv
      show fR _ _ _ 47 _ (.int (nI (n)) :: _) _ _ _ _
      refine r_iaddN dL_act_47 ?_
      rw [show actM x y g dn n = mvSample n 0 from by unfold actM; (repeat (first | rw [if_pos (by first | assumption | exact Int32.not_le.mp (by assumption) | exact Int32.not_lt.mp (by assumption) | omega | exact Or.inl (by assumption) | exact Or.inr (by omega))] | rw [if_neg (by first | assumption | exact Int32.not_lt.mpr (by assumption) | exact Int32.not_le.mpr (by assumption) | omega | exact fun z => z.elim (fun q => absurd q (by assumption)) (fun q => by omega))])); try rfl]
      exact fR_iret dL_act_48 rfl (aP_of (m := mvSample n 0) hC1 hO1 (by first | rfl | exact (nI_add _ _).symm))
    · skip
      refine r_aload_n dL_act_8 rfl ?_
      refine r_iconst (v := nI 1) dL_act_9 (by decide) ?_
      refine r_callV (As := [.int (nI (1))]) dL_act_10 (fM_isI (v' := (nI (n))) (tZ_count hA hC (by omega)) hC.2.2.1.n0) rfl hC.1 rfl rfl oX8_countZ rfl kL_13M nX8_countZ eX8_countZ (by unfold fRoom; decide) (Nat.le_of_ble_eq_true rfl) rfl (bc' := 30) (bs' := 180) rfl rfl ?_
      show fR _ _ _ 13 _ (.int (nI (n)) :: _) _ _ _ _
      refine r_if_neN (tgt := 49) dL_act_13 (by decide) (by omega) (fun c7 => ?_) (fun c7 => by omega)
      refine r_iload_n dL_act_49 rfl ?_
      refine r_aload_n dL_act_50 rfl ?_
      refine r_iconst (v := nI 0) dL_act_51 (by decide) ?_
      refine r_callV (As := [.int (nI (0))]) dL_act_52 (fM_isI (v' := (nI (dn))) (tZ_count hA hC (by omega)) hC.2.2.1.d0) rfl hC.1 rfl rfl oX8_countZ rfl kL_13M nX8_countZ eX8_countZ (by unfold fRoom; decide) (Nat.le_of_ble_eq_true rfl) rfl (bc' := 30) (bs' := 180) rfl rfl ?_
      show fR _ _ _ 55 _ (.int (nI (dn)) :: _) _ _ _ _
      refine r_callS (As := [.int (y), .int (nI (dn))]) dL_act_55 (tL_up (v := y) (by omega) (by omega)) rfl oL_up rfl kL_39M sL_up (by unfold fRoom; decide) (Nat.le_of_ble_eq_true rfl) rfl (bc' := 30) (bs' := 180) rfl rfl ?_
      show fR _ _ _ 58 _ (.int (nI ((upN y dn))) :: _) _ _ _ _
      have u8 := upN_lt (v := y) (n := dn) (by omega)
      refine r_istore_n (lv' := [(3, .int (nI ((upN y dn)))), (0, .ref (ad 254)), (1, .int (x)), (2, .int (y))]) dL_act_58 (by decide) rfl ?_
      refine r_iload_n dL_act_59 rfl ?_
      refine r_iconst (v := nI 3) dL_act_60 (by decide) ?_
      refine r_ishr dL_act_61 ?_
      refine r_aload_n dL_act_62 rfl ?_
      refine r_iconst (v := nI 1) dL_act_63 (by decide) ?_
      refine r_callV (As := [.int (nI (1))]) dL_act_64 (fM_isI (v' := (nI (n))) (tZ_count hA hC (by omega)) hC.2.2.1.n0) rfl hC.1 rfl rfl oX8_countZ rfl kL_13M nX8_countZ eX8_countZ (by unfold fRoom; decide) (Nat.le_of_ble_eq_true rfl) rfl (bc' := 30) (bs' := 180) rfl rfl ?_
      show fR _ _ _ 67 _ (.int (nI (n)) :: _) _ _ _ _
      refine r_callS (As := [.int (((y) >>> ((nI (3)) &&& 31))), .int (nI (n))]) dL_act_67 (tL_up (v := (shR y 3)) (by omega) (by omega)) rfl oL_up rfl kL_39M sL_up (by unfold fRoom; decide) (Nat.le_of_ble_eq_true rfl) rfl (bc' := 30) (bs' := 180) rfl rfl ?_
      show fR _ _ _ 70 _ (.int (nI ((upN (shR y 3) n))) :: _) _ _ _ _
      have u9 := upN_lt (v := (shR y 3)) (n := n) (by omega)
      refine r_istore (lv' := [(4, .int (nI ((upN (shR y 3) n)))), (3, .int (nI ((upN y dn)))), (0, .ref (ad 254)), (1, .int (x)), (2, .int (y))]) dL_act_70 (by decide) rfl ?_
      refine r_iload_n dL_act_72 rfl ?_
      refine r_bipush (v := nI 6) dL_act_73 (by decide) ?_
      refine r_ishr dL_act_75 ?_
      refine r_iconst (v := nI 3) dL_act_76 (by decide) ?_
      refine r_callS (As := [.int (((y) >>> ((nI (6)) &&& 31))), .int (nI (3))]) dL_act_77 (tL_up (v := (shR y 6)) (by omega) (by omega)) rfl oL_up rfl kL_39M sL_up (by unfold fRoom; decide) (Nat.le_of_ble_eq_true rfl) rfl (bc' := 30) (bs' := 180) rfl rfl ?_
      show fR _ _ _ 80 _ (.int (nI ((upN (shR y 6) 3))) :: _) _ _ _ _
      have u10 := upN_lt (v := (shR y 6)) (n := 3) (by omega)
      refine r_istore (lv' := [(5, .int (nI ((upN (shR y 6) 3)))), (4, .int (nI ((upN (shR y 3) n)))), (3, .int (nI ((upN y dn)))), (0, .ref (ad 254)), (1, .int (x)), (2, .int (y))]) dL_act_80 (by decide) rfl ?_
      refine r_iload_n dL_act_82 rfl ?_
      refine r_bipush (v := nI 20) dL_act_83 (by decide) ?_
      refine r_callS (As := [.int (x), .int (nI (20))]) dL_act_85 (tL_up (v := x) (by omega) (by omega)) rfl oL_up rfl kL_39M sL_up (by unfold fRoom; decide) (Nat.le_of_ble_eq_true rfl) rfl (bc' := 30) (bs' := 180) rfl rfl ?_
      show fR _ _ _ 88 _ (.int (nI ((upN x 20))) :: _) _ _ _ _
      have u11 := upN_lt (v := x) (n := 20) (by omega)
      have hc := upN_lt (v := x) (n := 20) (by omega)
      have hd := upN_lt (v := y) (n := dn) (by omega)
      have hk := upN_lt (v := shR y 3) (n := n) (by omega)
      have hi := upN_lt (v := shR y 6) (n := 3) (by omega)
      refine r_lv (lv' := [(3, .int (nI ((upN y dn)))), (4, .int (nI ((upN (shR y 3) n)))), (5, .int (nI ((upN (shR y 6) 3)))), (0, .ref (ad 254)), (1, .int (x)), (2, .int (y))]) (by simp) ?_
      rw [show actM x y g dn n = actS (upN x 20) y g dn n (upN y dn) (upN (shR y 3) n) (upN (shR y 6) 3) from by unfold actM; rw [if_neg c0, if_neg c1]]
      exact lL_act_sw hA hC hc hd hk hi
