/-! THE LAW'S OPERATIONS -/
theorem lL_op0 {nm : String} {hh : List (Nat × Nat × Nat × Nat)} {l : Launch} {κ : KP} {ad : Nat → Nat} {q m sA tA nA i bc bs : Nat} {M : Mem} {z : Zs} {dn n : Nat} {P : FPost} (hD : LD ad q m sA tA nA) (hL : LI κ ad q m sA tA nA M z dn n) (hi : i + 5 ≤ kL κ) (hk : kL κ ≤ 2560) (kk : ∀ (z' : Zs) (dn' n' : Nat) (M2 : Mem), LI κ ad q m sA tA nA M2 z' dn' n' → fR l κ (mL_law nm hh) 2098 (LV κ ad q m i) [] M2 bc bs P) : fR l κ (mL_law nm hh) 188 (LV κ ad q m i) [] M (bc + 2) (bs + 12) P := by
  obtain ⟨th, ap, pt, hs, nu, f, hC, hq, hM⟩ := hL
  obtain ⟨g, sn, kp, tx, ln⟩ := z
  replace hM : M = RM M m sA tA nA th (nI sn) (bI kp) (nI ln) ap pt hs g tx nu := hM
  have hI : BI g dn n := hC.2.2.1
  have hsn : sn ≤ 6 := hC.2.1.s6
  obtain ⟨ch, hTX⟩ := hC.2.2.2.2
  replace hTX : TX tx ln ch := hTX
  have hln := hTX.1
  refine r_aload_n dL_law_188 rfl ?_
  refine r_aload_n dL_law_189 rfl ?_
  refine r_iload dL_law_190 rfl ?_
  refine r_iconst (v := nI 1) dL_law_192 (by decide) ?_
  refine r_iaddN dL_law_193 ?_
  refine r_sld dL_law_194 (vp_in_nI (by omega) (by omega)) ?_
  refine r_top (y := kX κ (i + 1)) (by rw [nI_clamp (by omega)]) ?_
  refine r_aload_n dL_law_195 rfl ?_
  refine fR_callSH (As := [.ref (ad 254), .int (kX κ (i + 1)), .ref q]) dL_law_196 (tL_drum hD.1 hC hq hD.2.1) rfl oL_drum rfl kL_111M sL_drum ⟨Nat.le_of_ble_eq_true rfl, Nat.le_of_ble_eq_true rfl, show 2 ≤ _ by omega, show 12 ≤ _ by omega⟩ (Nat.le_of_ble_eq_true rfl) (fun E M9 h => by cases h.2.1) (bc' := bc) (bs' := bs) rfl rfl (fun v M1 h => ?_)
  obtain ⟨h3, hv, ⟨dn', n', hC1⟩, ⟨f1, hf1, hf0⟩, ho⟩ := h
  cases hv
  show fR _ _ _ 199 _ (.int (nI (oDrum ⟨g, sn, kp, tx, ln⟩ dn n (kX κ (i + 1))).1) :: []) _ _ _ _
  refine r_istore (lv' := (5, .int (nI (oDrum ⟨g, sn, kp, tx, ln⟩ dn n (kX κ (i + 1))).1)) :: LV κ ad q m i) dL_law_199 (Nat.le_of_ble_eq_true rfl) rfl ?_
  have hM1 : M1 = _ := (RM_self hD.2.2.1 hM (ho m (Ne.symm hD.2.2.2.2.1) (fun t ht => Ne.symm (hD.2.2.2.1 t ht).1)) (ho sA (Ne.symm hD.2.2.2.2.2.1) (fun t ht => Ne.symm (hD.2.2.2.1 t ht).2.1)) (ho tA (Ne.symm hD.2.2.2.2.2.2.1) (fun t ht => Ne.symm (hD.2.2.2.1 t ht).2.2.1)) (ho nA (Ne.symm hD.2.2.2.2.2.2.2) (fun t ht => Ne.symm (hD.2.2.2.1 t ht).2.2.2)))
  refine r_mem hM1 ?_
  refine r_aload_n dL_law_201 rfl ?_
  refine r_aload_n dL_law_202 rfl ?_
  refine r_iload dL_law_203 rfl ?_
  refine r_iconst (v := nI 1) dL_law_205 (by decide) ?_
  refine r_iaddN dL_law_206 ?_
  refine r_sld dL_law_207 (vp_in_nI (by omega) (by omega)) ?_
  refine r_top (y := kX κ (i + 1)) (by rw [nI_clamp (by omega)]) ?_
  refine r_callVP0 (As := [.int (kX κ (i + 1))]) dL_law_208 (tX9_drum_o hD.2.2.1 hI hsn hln) rfl RM_0 rfl rfl oX9_drum rfl kL_116M nX9_drum eX9_drum ⟨Nat.le_of_ble_eq_true rfl, Nat.le_of_ble_eq_true rfl, Nat.zero_le _, Nat.zero_le _⟩ (Nat.le_of_ble_eq_true rfl) (bc' := bc) (bs' := bs) rfl rfl (fun E M9 h => by obtain ⟨_, _, _, _, h, _⟩ := h; cases h) (fun v M2 h => ?_)
  obtain ⟨ap2, pt2, hs2, nu2, hv2, hM2⟩ := h
  cases hv2
  subst hM2
  show fR _ _ _ 211 _ (.int (oDrum ⟨g, sn, kp, tx, ln⟩ dn n (kX κ (i + 1))).2.1 :: []) _ _ _ _
  refine r_istore (lv' := (6, .int (oDrum ⟨g, sn, kp, tx, ln⟩ dn n (kX κ (i + 1))).2.1) :: (5, .int (nI (oDrum ⟨g, sn, kp, tx, ln⟩ dn n (kX κ (i + 1))).1)) :: LV κ ad q m i) dL_law_211 (Nat.le_of_ble_eq_true rfl) rfl ?_
  exact law_tail hD hC1 h3 hf1 hf0 dL_law_213 dL_law_214 dL_law_217 dL_law_219 dL_law_224 dL_law_226 dL_law_229 dL_law_230 dL_law_231 dL_law_232 dL_law_234 dL_law_235 dL_law_236 dL_law_241 (by decide) (fun M2 h => kk _ _ _ M2 h)
theorem lL_op1 {nm : String} {hh : List (Nat × Nat × Nat × Nat)} {l : Launch} {κ : KP} {ad : Nat → Nat} {q m sA tA nA i bc bs : Nat} {M : Mem} {z : Zs} {dn n : Nat} {P : FPost} (hD : LD ad q m sA tA nA) (hL : LI κ ad q m sA tA nA M z dn n) (hi : i + 5 ≤ kL κ) (hk : kL κ ≤ 2560) (kk : ∀ (z' : Zs) (dn' n' : Nat) (M2 : Mem), LI κ ad q m sA tA nA M2 z' dn' n' → fR l κ (mL_law nm hh) 2098 (LV κ ad q m i) [] M2 bc bs P) : fR l κ (mL_law nm hh) 244 (LV κ ad q m i) [] M (bc + 1) (bs + 6) P := by
  obtain ⟨th, ap, pt, hs, nu, f, hC, hq, hM⟩ := hL
  obtain ⟨g, sn, kp, tx, ln⟩ := z
  replace hM : M = RM M m sA tA nA th (nI sn) (bI kp) (nI ln) ap pt hs g tx nu := hM
  have hI : BI g dn n := hC.2.2.1
  have hsn : sn ≤ 6 := hC.2.1.s6
  obtain ⟨ch, hTX⟩ := hC.2.2.2.2
  replace hTX : TX tx ln ch := hTX
  have hln := hTX.1
  refine r_aload_n dL_law_244 rfl ?_
  refine r_aload_n dL_law_245 rfl ?_
  refine r_iload dL_law_246 rfl ?_
  refine r_iconst (v := nI 1) dL_law_248 (by decide) ?_
  refine r_iaddN dL_law_249 ?_
  refine r_sld dL_law_250 (vp_in_nI (by omega) (by omega)) ?_
  refine r_top (y := kX κ (i + 1)) (by rw [nI_clamp (by omega)]) ?_
  refine r_aload_n dL_law_251 rfl ?_
  refine fR_callSH (As := [.ref (ad 254), .int (kX κ (i + 1)), .ref q]) dL_law_252 (tL_age hD.1 hC hq hD.2.1) rfl oL_age rfl kL_120M sL_age ⟨Nat.le_of_ble_eq_true rfl, Nat.le_of_ble_eq_true rfl, show 1 ≤ _ by omega, show 6 ≤ _ by omega⟩ (Nat.le_of_ble_eq_true rfl) (fun E M9 h => by cases h.2.1) (bc' := bc) (bs' := bs) rfl rfl (fun v M1 h => ?_)
  obtain ⟨h3, hv, ⟨dn', n', hC1⟩, ⟨f1, hf1, hf0⟩, ho⟩ := h
  cases hv
  show fR _ _ _ 255 _ (.int (nI (oAge ⟨g, sn, kp, tx, ln⟩ dn n (kX κ (i + 1))).1) :: []) _ _ _ _
  refine r_istore (lv' := (5, .int (nI (oAge ⟨g, sn, kp, tx, ln⟩ dn n (kX κ (i + 1))).1)) :: LV κ ad q m i) dL_law_255 (Nat.le_of_ble_eq_true rfl) rfl ?_
  have hM1 : M1 = _ := (RM_self hD.2.2.1 hM (ho m (Ne.symm hD.2.2.2.2.1) (fun t ht => Ne.symm (hD.2.2.2.1 t ht).1)) (ho sA (Ne.symm hD.2.2.2.2.2.1) (fun t ht => Ne.symm (hD.2.2.2.1 t ht).2.1)) (ho tA (Ne.symm hD.2.2.2.2.2.2.1) (fun t ht => Ne.symm (hD.2.2.2.1 t ht).2.2.1)) (ho nA (Ne.symm hD.2.2.2.2.2.2.2) (fun t ht => Ne.symm (hD.2.2.2.1 t ht).2.2.2)))
  refine r_mem hM1 ?_
  refine r_aload_n dL_law_257 rfl ?_
  refine r_aload_n dL_law_258 rfl ?_
  refine r_iload dL_law_259 rfl ?_
  refine r_iconst (v := nI 1) dL_law_261 (by decide) ?_
  refine r_iaddN dL_law_262 ?_
  refine r_sld dL_law_263 (vp_in_nI (by omega) (by omega)) ?_
  refine r_top (y := kX κ (i + 1)) (by rw [nI_clamp (by omega)]) ?_
  refine r_callVP0 (As := [.int (kX κ (i + 1))]) dL_law_264 (tX9_age_o hD.2.2.1 hI hsn hln) rfl RM_0 rfl rfl oX9_age rfl kL_122M nX9_age eX9_age ⟨Nat.le_of_ble_eq_true rfl, Nat.le_of_ble_eq_true rfl, Nat.zero_le _, Nat.zero_le _⟩ (Nat.le_of_ble_eq_true rfl) (bc' := bc) (bs' := bs) rfl rfl (fun E M9 h => by obtain ⟨_, _, _, _, h, _⟩ := h; cases h) (fun v M2 h => ?_)
  obtain ⟨ap2, pt2, hs2, nu2, hv2, hM2⟩ := h
  cases hv2
  subst hM2
  show fR _ _ _ 267 _ (.int (oAge ⟨g, sn, kp, tx, ln⟩ dn n (kX κ (i + 1))).2.1 :: []) _ _ _ _
  refine r_istore (lv' := (6, .int (oAge ⟨g, sn, kp, tx, ln⟩ dn n (kX κ (i + 1))).2.1) :: (5, .int (nI (oAge ⟨g, sn, kp, tx, ln⟩ dn n (kX κ (i + 1))).1)) :: LV κ ad q m i) dL_law_267 (Nat.le_of_ble_eq_true rfl) rfl ?_
  exact law_tail hD hC1 h3 hf1 hf0 dL_law_269 dL_law_270 dL_law_273 dL_law_275 dL_law_280 dL_law_282 dL_law_285 dL_law_286 dL_law_287 dL_law_288 dL_law_290 dL_law_291 dL_law_292 dL_law_297 (by decide) (fun M2 h => kk _ _ _ M2 h)
theorem lL_op2 {nm : String} {hh : List (Nat × Nat × Nat × Nat)} {l : Launch} {κ : KP} {ad : Nat → Nat} {q m sA tA nA i bc bs : Nat} {M : Mem} {z : Zs} {dn n : Nat} {P : FPost} (hD : LD ad q m sA tA nA) (hL : LI κ ad q m sA tA nA M z dn n) (hi : i + 5 ≤ kL κ) (hk : kL κ ≤ 2560) (kk : ∀ (z' : Zs) (dn' n' : Nat) (M2 : Mem), LI κ ad q m sA tA nA M2 z' dn' n' → fR l κ (mL_law nm hh) 2098 (LV κ ad q m i) [] M2 bc bs P) : fR l κ (mL_law nm hh) 300 (LV κ ad q m i) [] M (bc + 1) (bs + 6) P := by
  obtain ⟨th, ap, pt, hs, nu, f, hC, hq, hM⟩ := hL
  obtain ⟨g, sn, kp, tx, ln⟩ := z
  replace hM : M = RM M m sA tA nA th (nI sn) (bI kp) (nI ln) ap pt hs g tx nu := hM
  have hI : BI g dn n := hC.2.2.1
  have hsn : sn ≤ 6 := hC.2.1.s6
  obtain ⟨ch, hTX⟩ := hC.2.2.2.2
  replace hTX : TX tx ln ch := hTX
  have hln := hTX.1
  refine r_aload_n dL_law_300 rfl ?_
  refine r_aload_n dL_law_301 rfl ?_
  refine r_iload dL_law_302 rfl ?_
  refine r_iconst (v := nI 1) dL_law_304 (by decide) ?_
  refine r_iaddN dL_law_305 ?_
  refine r_sld dL_law_306 (vp_in_nI (by omega) (by omega)) ?_
  refine r_top (y := kX κ (i + 1)) (by rw [nI_clamp (by omega)]) ?_
  refine r_aload_n dL_law_307 rfl ?_
  refine fR_callSH (As := [.ref (ad 254), .int (kX κ (i + 1)), .ref q]) dL_law_308 (tL_sample hD.1 hC hq hD.2.1) rfl oL_sample rfl kL_123M sL_sample ⟨Nat.le_of_ble_eq_true rfl, Nat.le_of_ble_eq_true rfl, show 1 ≤ _ by omega, show 6 ≤ _ by omega⟩ (Nat.le_of_ble_eq_true rfl) (fun E M9 h => by cases h.2.1) (bc' := bc) (bs' := bs) rfl rfl (fun v M1 h => ?_)
  obtain ⟨h3, hv, ⟨dn', n', hC1⟩, ⟨f1, hf1, hf0⟩, ho⟩ := h
  cases hv
  show fR _ _ _ 311 _ (.int (nI (oSample ⟨g, sn, kp, tx, ln⟩ dn n (kX κ (i + 1))).1) :: []) _ _ _ _
  refine r_istore (lv' := (5, .int (nI (oSample ⟨g, sn, kp, tx, ln⟩ dn n (kX κ (i + 1))).1)) :: LV κ ad q m i) dL_law_311 (Nat.le_of_ble_eq_true rfl) rfl ?_
  have hM1 : M1 = _ := (RM_self hD.2.2.1 hM (ho m (Ne.symm hD.2.2.2.2.1) (fun t ht => Ne.symm (hD.2.2.2.1 t ht).1)) (ho sA (Ne.symm hD.2.2.2.2.2.1) (fun t ht => Ne.symm (hD.2.2.2.1 t ht).2.1)) (ho tA (Ne.symm hD.2.2.2.2.2.2.1) (fun t ht => Ne.symm (hD.2.2.2.1 t ht).2.2.1)) (ho nA (Ne.symm hD.2.2.2.2.2.2.2) (fun t ht => Ne.symm (hD.2.2.2.1 t ht).2.2.2)))
  refine r_mem hM1 ?_
  refine r_aload_n dL_law_313 rfl ?_
  refine r_aload_n dL_law_314 rfl ?_
  refine r_iload dL_law_315 rfl ?_
  refine r_iconst (v := nI 1) dL_law_317 (by decide) ?_
  refine r_iaddN dL_law_318 ?_
  refine r_sld dL_law_319 (vp_in_nI (by omega) (by omega)) ?_
  refine r_top (y := kX κ (i + 1)) (by rw [nI_clamp (by omega)]) ?_
  refine r_callVP0 (As := [.int (kX κ (i + 1))]) dL_law_320 (tX9_sample_o hD.2.2.1 hI hsn hln) rfl RM_0 rfl rfl oX9_sample rfl kL_125M nX9_sample eX9_sample ⟨Nat.le_of_ble_eq_true rfl, Nat.le_of_ble_eq_true rfl, Nat.zero_le _, Nat.zero_le _⟩ (Nat.le_of_ble_eq_true rfl) (bc' := bc) (bs' := bs) rfl rfl (fun E M9 h => by obtain ⟨_, _, _, _, h, _⟩ := h; cases h) (fun v M2 h => ?_)
  obtain ⟨ap2, pt2, hs2, nu2, hv2, hM2⟩ := h
  cases hv2
  subst hM2
  show fR _ _ _ 323 _ (.int (oSample ⟨g, sn, kp, tx, ln⟩ dn n (kX κ (i + 1))).2.1 :: []) _ _ _ _
  refine r_istore (lv' := (6, .int (oSample ⟨g, sn, kp, tx, ln⟩ dn n (kX κ (i + 1))).2.1) :: (5, .int (nI (oSample ⟨g, sn, kp, tx, ln⟩ dn n (kX κ (i + 1))).1)) :: LV κ ad q m i) dL_law_323 (Nat.le_of_ble_eq_true rfl) rfl ?_
  exact law_tail hD hC1 h3 hf1 hf0 dL_law_325 dL_law_326 dL_law_329 dL_law_331 dL_law_336 dL_law_338 dL_law_341 dL_law_342 dL_law_343 dL_law_344 dL_law_346 dL_law_347 dL_law_348 dL_law_353 (by decide) (fun M2 h => kk _ _ _ M2 h)
theorem lL_op3 {nm : String} {hh : List (Nat × Nat × Nat × Nat)} {l : Launch} {κ : KP} {ad : Nat → Nat} {q m sA tA nA i bc bs : Nat} {M : Mem} {z : Zs} {dn n : Nat} {P : FPost} (hD : LD ad q m sA tA nA) (hL : LI κ ad q m sA tA nA M z dn n) (hi : i + 5 ≤ kL κ) (hk : kL κ ≤ 2560) (kk : ∀ (z' : Zs) (dn' n' : Nat) (M2 : Mem), LI κ ad q m sA tA nA M2 z' dn' n' → fR l κ (mL_law nm hh) 2098 (LV κ ad q m i) [] M2 bc bs P) : fR l κ (mL_law nm hh) 356 (LV κ ad q m i) [] M (bc + 1) (bs + 6) P := by
  obtain ⟨th, ap, pt, hs, nu, f, hC, hq, hM⟩ := hL
  obtain ⟨g, sn, kp, tx, ln⟩ := z
  replace hM : M = RM M m sA tA nA th (nI sn) (bI kp) (nI ln) ap pt hs g tx nu := hM
  have hI : BI g dn n := hC.2.2.1
  have hsn : sn ≤ 6 := hC.2.1.s6
  obtain ⟨ch, hTX⟩ := hC.2.2.2.2
  replace hTX : TX tx ln ch := hTX
  have hln := hTX.1
  refine r_aload_n dL_law_356 rfl ?_
  refine r_aload_n dL_law_357 rfl ?_
  refine r_iload dL_law_358 rfl ?_
  refine r_iconst (v := nI 1) dL_law_360 (by decide) ?_
  refine r_iaddN dL_law_361 ?_
  refine r_sld dL_law_362 (vp_in_nI (by omega) (by omega)) ?_
  refine r_top (y := kX κ (i + 1)) (by rw [nI_clamp (by omega)]) ?_
  refine r_aload_n dL_law_363 rfl ?_
  refine fR_callSH (As := [.ref (ad 254), .int (kX κ (i + 1)), .ref q]) dL_law_364 (tL_toss hD.1 hC hq hD.2.1) rfl oL_toss rfl kL_126M sL_toss ⟨Nat.le_of_ble_eq_true rfl, Nat.le_of_ble_eq_true rfl, show 1 ≤ _ by omega, show 6 ≤ _ by omega⟩ (Nat.le_of_ble_eq_true rfl) (fun E M9 h => by cases h.2.1) (bc' := bc) (bs' := bs) rfl rfl (fun v M1 h => ?_)
  obtain ⟨h3, hv, ⟨dn', n', hC1⟩, ⟨f1, hf1, hf0⟩, ho⟩ := h
  cases hv
  show fR _ _ _ 367 _ (.int (nI (oToss ⟨g, sn, kp, tx, ln⟩ dn n (kX κ (i + 1))).1) :: []) _ _ _ _
  refine r_istore (lv' := (5, .int (nI (oToss ⟨g, sn, kp, tx, ln⟩ dn n (kX κ (i + 1))).1)) :: LV κ ad q m i) dL_law_367 (Nat.le_of_ble_eq_true rfl) rfl ?_
  have hM1 : M1 = _ := (RM_self hD.2.2.1 hM (ho m (Ne.symm hD.2.2.2.2.1) (fun t ht => Ne.symm (hD.2.2.2.1 t ht).1)) (ho sA (Ne.symm hD.2.2.2.2.2.1) (fun t ht => Ne.symm (hD.2.2.2.1 t ht).2.1)) (ho tA (Ne.symm hD.2.2.2.2.2.2.1) (fun t ht => Ne.symm (hD.2.2.2.1 t ht).2.2.1)) (ho nA (Ne.symm hD.2.2.2.2.2.2.2) (fun t ht => Ne.symm (hD.2.2.2.1 t ht).2.2.2)))
  refine r_mem hM1 ?_
  refine r_aload_n dL_law_369 rfl ?_
  refine r_aload_n dL_law_370 rfl ?_
  refine r_iload dL_law_371 rfl ?_
  refine r_iconst (v := nI 1) dL_law_373 (by decide) ?_
  refine r_iaddN dL_law_374 ?_
  refine r_sld dL_law_375 (vp_in_nI (by omega) (by omega)) ?_
  refine r_top (y := kX κ (i + 1)) (by rw [nI_clamp (by omega)]) ?_
  refine r_callVP0 (As := [.int (kX κ (i + 1))]) dL_law_376 (tX9_toss_o hD.2.2.1 hI hsn hln) rfl RM_0 rfl rfl oX9_toss rfl kL_128M nX9_toss eX9_toss ⟨Nat.le_of_ble_eq_true rfl, Nat.le_of_ble_eq_true rfl, Nat.zero_le _, Nat.zero_le _⟩ (Nat.le_of_ble_eq_true rfl) (bc' := bc) (bs' := bs) rfl rfl (fun E M9 h => by obtain ⟨_, _, _, _, h, _⟩ := h; cases h) (fun v M2 h => ?_)
  obtain ⟨ap2, pt2, hs2, nu2, hv2, hM2⟩ := h
  cases hv2
  subst hM2
  show fR _ _ _ 379 _ (.int (oToss ⟨g, sn, kp, tx, ln⟩ dn n (kX κ (i + 1))).2.1 :: []) _ _ _ _
  refine r_istore (lv' := (6, .int (oToss ⟨g, sn, kp, tx, ln⟩ dn n (kX κ (i + 1))).2.1) :: (5, .int (nI (oToss ⟨g, sn, kp, tx, ln⟩ dn n (kX κ (i + 1))).1)) :: LV κ ad q m i) dL_law_379 (Nat.le_of_ble_eq_true rfl) rfl ?_
  exact law_tail hD hC1 h3 hf1 hf0 dL_law_381 dL_law_382 dL_law_385 dL_law_387 dL_law_392 dL_law_394 dL_law_397 dL_law_398 dL_law_399 dL_law_400 dL_law_402 dL_law_403 dL_law_404 dL_law_409 (by decide) (fun M2 h => kk _ _ _ M2 h)
theorem lL_op4 {nm : String} {hh : List (Nat × Nat × Nat × Nat)} {l : Launch} {κ : KP} {ad : Nat → Nat} {q m sA tA nA i bc bs : Nat} {M : Mem} {z : Zs} {dn n : Nat} {P : FPost} (hD : LD ad q m sA tA nA) (hL : LI κ ad q m sA tA nA M z dn n) (hi : i + 5 ≤ kL κ) (hk : kL κ ≤ 2560) (kk : ∀ (z' : Zs) (dn' n' : Nat) (M2 : Mem), LI κ ad q m sA tA nA M2 z' dn' n' → fR l κ (mL_law nm hh) 2098 (LV κ ad q m i) [] M2 bc bs P) : fR l κ (mL_law nm hh) 412 (LV κ ad q m i) [] M (bc + 2) (bs + 12) P := by
  obtain ⟨th, ap, pt, hs, nu, f, hC, hq, hM⟩ := hL
  obtain ⟨g, sn, kp, tx, ln⟩ := z
  replace hM : M = RM M m sA tA nA th (nI sn) (bI kp) (nI ln) ap pt hs g tx nu := hM
  have hI : BI g dn n := hC.2.2.1
  have hsn : sn ≤ 6 := hC.2.1.s6
  obtain ⟨ch, hTX⟩ := hC.2.2.2.2
  replace hTX : TX tx ln ch := hTX
  have hln := hTX.1
  refine r_aload_n dL_law_412 rfl ?_
  refine r_aload_n dL_law_413 rfl ?_
  refine r_iload dL_law_414 rfl ?_
  refine r_iconst (v := nI 1) dL_law_416 (by decide) ?_
  refine r_iaddN dL_law_417 ?_
  refine r_sld dL_law_418 (vp_in_nI (by omega) (by omega)) ?_
  refine r_top (y := kX κ (i + 1)) (by rw [nI_clamp (by omega)]) ?_
  refine r_aload_n dL_law_419 rfl ?_
  refine r_iload dL_law_420 rfl ?_
  refine r_iconst (v := nI 2) dL_law_422 (by decide) ?_
  refine r_iaddN dL_law_423 ?_
  refine r_sld dL_law_424 (vp_in_nI (by omega) (by omega)) ?_
  refine r_top (y := kX κ (i + 2)) (by rw [nI_clamp (by omega)]) ?_
  refine r_aload_n dL_law_425 rfl ?_
  refine fR_callSH (As := [.ref (ad 254), .int (kX κ (i + 1)), .int (kX κ (i + 2)), .ref q]) dL_law_426 (tL_bath hD.1 hC hq hD.2.1) rfl oL_bath rfl kL_129M sL_bath ⟨Nat.le_of_ble_eq_true rfl, Nat.le_of_ble_eq_true rfl, show 2 ≤ _ by omega, show 12 ≤ _ by omega⟩ (Nat.le_of_ble_eq_true rfl) (fun E M9 h => by cases h.2.1) (bc' := bc) (bs' := bs) rfl rfl (fun v M1 h => ?_)
  obtain ⟨h3, hv, ⟨dn', n', hC1⟩, ⟨f1, hf1, hf0⟩, ho⟩ := h
  cases hv
  show fR _ _ _ 429 _ (.int (nI (oBath ⟨g, sn, kp, tx, ln⟩ dn n (kX κ (i + 1)) (kX κ (i + 2))).1) :: []) _ _ _ _
  refine r_istore (lv' := (5, .int (nI (oBath ⟨g, sn, kp, tx, ln⟩ dn n (kX κ (i + 1)) (kX κ (i + 2))).1)) :: LV κ ad q m i) dL_law_429 (Nat.le_of_ble_eq_true rfl) rfl ?_
  have hM1 : M1 = _ := (RM_self hD.2.2.1 hM (ho m (Ne.symm hD.2.2.2.2.1) (fun t ht => Ne.symm (hD.2.2.2.1 t ht).1)) (ho sA (Ne.symm hD.2.2.2.2.2.1) (fun t ht => Ne.symm (hD.2.2.2.1 t ht).2.1)) (ho tA (Ne.symm hD.2.2.2.2.2.2.1) (fun t ht => Ne.symm (hD.2.2.2.1 t ht).2.2.1)) (ho nA (Ne.symm hD.2.2.2.2.2.2.2) (fun t ht => Ne.symm (hD.2.2.2.1 t ht).2.2.2)))
  refine r_mem hM1 ?_
  refine r_aload_n dL_law_431 rfl ?_
  refine r_aload_n dL_law_432 rfl ?_
  refine r_iload dL_law_433 rfl ?_
  refine r_iconst (v := nI 1) dL_law_435 (by decide) ?_
  refine r_iaddN dL_law_436 ?_
  refine r_sld dL_law_437 (vp_in_nI (by omega) (by omega)) ?_
  refine r_top (y := kX κ (i + 1)) (by rw [nI_clamp (by omega)]) ?_
  refine r_aload_n dL_law_438 rfl ?_
  refine r_iload dL_law_439 rfl ?_
  refine r_iconst (v := nI 2) dL_law_441 (by decide) ?_
  refine r_iaddN dL_law_442 ?_
  refine r_sld dL_law_443 (vp_in_nI (by omega) (by omega)) ?_
  refine r_top (y := kX κ (i + 2)) (by rw [nI_clamp (by omega)]) ?_
  refine r_callVP0 (As := [.int (kX κ (i + 1)), .int (kX κ (i + 2))]) dL_law_444 (tX9_bath_o hD.2.2.1 hI hsn hln) rfl RM_0 rfl rfl oX9_bath rfl kL_132M nX9_bath eX9_bath ⟨Nat.le_of_ble_eq_true rfl, Nat.le_of_ble_eq_true rfl, Nat.zero_le _, Nat.zero_le _⟩ (Nat.le_of_ble_eq_true rfl) (bc' := bc) (bs' := bs) rfl rfl (fun E M9 h => by obtain ⟨_, _, _, _, h, _⟩ := h; cases h) (fun v M2 h => ?_)
  obtain ⟨ap2, pt2, hs2, nu2, hv2, hM2⟩ := h
  cases hv2
  subst hM2
  show fR _ _ _ 447 _ (.int (oBath ⟨g, sn, kp, tx, ln⟩ dn n (kX κ (i + 1)) (kX κ (i + 2))).2.1 :: []) _ _ _ _
  refine r_istore (lv' := (6, .int (oBath ⟨g, sn, kp, tx, ln⟩ dn n (kX κ (i + 1)) (kX κ (i + 2))).2.1) :: (5, .int (nI (oBath ⟨g, sn, kp, tx, ln⟩ dn n (kX κ (i + 1)) (kX κ (i + 2))).1)) :: LV κ ad q m i) dL_law_447 (Nat.le_of_ble_eq_true rfl) rfl ?_
  exact law_tail hD hC1 h3 hf1 hf0 dL_law_449 dL_law_450 dL_law_453 dL_law_455 dL_law_460 dL_law_462 dL_law_465 dL_law_466 dL_law_467 dL_law_468 dL_law_470 dL_law_471 dL_law_472 dL_law_477 (by decide) (fun M2 h => kk _ _ _ M2 h)
theorem lL_op5 {nm : String} {hh : List (Nat × Nat × Nat × Nat)} {l : Launch} {κ : KP} {ad : Nat → Nat} {q m sA tA nA i bc bs : Nat} {M : Mem} {z : Zs} {dn n : Nat} {P : FPost} (hD : LD ad q m sA tA nA) (hL : LI κ ad q m sA tA nA M z dn n) (hi : i + 5 ≤ kL κ) (hk : kL κ ≤ 2560) (kk : ∀ (z' : Zs) (dn' n' : Nat) (M2 : Mem), LI κ ad q m sA tA nA M2 z' dn' n' → fR l κ (mL_law nm hh) 2098 (LV κ ad q m i) [] M2 bc bs P) : fR l κ (mL_law nm hh) 480 (LV κ ad q m i) [] M (bc + 2) (bs + 12) P := by
  obtain ⟨th, ap, pt, hs, nu, f, hC, hq, hM⟩ := hL
  obtain ⟨g, sn, kp, tx, ln⟩ := z
  replace hM : M = RM M m sA tA nA th (nI sn) (bI kp) (nI ln) ap pt hs g tx nu := hM
  have hI : BI g dn n := hC.2.2.1
  have hsn : sn ≤ 6 := hC.2.1.s6
  obtain ⟨ch, hTX⟩ := hC.2.2.2.2
  replace hTX : TX tx ln ch := hTX
  have hln := hTX.1
  refine r_aload_n dL_law_480 rfl ?_
  refine r_aload_n dL_law_481 rfl ?_
  refine r_iload dL_law_482 rfl ?_
  refine r_iconst (v := nI 1) dL_law_484 (by decide) ?_
  refine r_iaddN dL_law_485 ?_
  refine r_sld dL_law_486 (vp_in_nI (by omega) (by omega)) ?_
  refine r_top (y := kX κ (i + 1)) (by rw [nI_clamp (by omega)]) ?_
  refine r_aload_n dL_law_487 rfl ?_
  refine r_iload dL_law_488 rfl ?_
  refine r_iconst (v := nI 2) dL_law_490 (by decide) ?_
  refine r_iaddN dL_law_491 ?_
  refine r_sld dL_law_492 (vp_in_nI (by omega) (by omega)) ?_
  refine r_top (y := kX κ (i + 2)) (by rw [nI_clamp (by omega)]) ?_
  refine r_aload_n dL_law_493 rfl ?_
  refine fR_callSH (As := [.ref (ad 254), .int (kX κ (i + 1)), .int (kX κ (i + 2)), .ref q]) dL_law_494 (tL_warm hD.1 hC hq hD.2.1) rfl oL_warm rfl kL_133M sL_warm ⟨Nat.le_of_ble_eq_true rfl, Nat.le_of_ble_eq_true rfl, show 2 ≤ _ by omega, show 12 ≤ _ by omega⟩ (Nat.le_of_ble_eq_true rfl) (fun E M9 h => by cases h.2.1) (bc' := bc) (bs' := bs) rfl rfl (fun v M1 h => ?_)
  obtain ⟨h3, hv, ⟨dn', n', hC1⟩, ⟨f1, hf1, hf0⟩, ho⟩ := h
  cases hv
  show fR _ _ _ 497 _ (.int (nI (oWarm ⟨g, sn, kp, tx, ln⟩ dn n (kX κ (i + 1)) (kX κ (i + 2))).1) :: []) _ _ _ _
  refine r_istore (lv' := (5, .int (nI (oWarm ⟨g, sn, kp, tx, ln⟩ dn n (kX κ (i + 1)) (kX κ (i + 2))).1)) :: LV κ ad q m i) dL_law_497 (Nat.le_of_ble_eq_true rfl) rfl ?_
  have hM1 : M1 = _ := (RM_self hD.2.2.1 hM (ho m (Ne.symm hD.2.2.2.2.1) (fun t ht => Ne.symm (hD.2.2.2.1 t ht).1)) (ho sA (Ne.symm hD.2.2.2.2.2.1) (fun t ht => Ne.symm (hD.2.2.2.1 t ht).2.1)) (ho tA (Ne.symm hD.2.2.2.2.2.2.1) (fun t ht => Ne.symm (hD.2.2.2.1 t ht).2.2.1)) (ho nA (Ne.symm hD.2.2.2.2.2.2.2) (fun t ht => Ne.symm (hD.2.2.2.1 t ht).2.2.2)))
  refine r_mem hM1 ?_
  refine r_aload_n dL_law_499 rfl ?_
  refine r_aload_n dL_law_500 rfl ?_
  refine r_iload dL_law_501 rfl ?_
  refine r_iconst (v := nI 1) dL_law_503 (by decide) ?_
  refine r_iaddN dL_law_504 ?_
  refine r_sld dL_law_505 (vp_in_nI (by omega) (by omega)) ?_
  refine r_top (y := kX κ (i + 1)) (by rw [nI_clamp (by omega)]) ?_
  refine r_aload_n dL_law_506 rfl ?_
  refine r_iload dL_law_507 rfl ?_
  refine r_iconst (v := nI 2) dL_law_509 (by decide) ?_
  refine r_iaddN dL_law_510 ?_
  refine r_sld dL_law_511 (vp_in_nI (by omega) (by omega)) ?_
  refine r_top (y := kX κ (i + 2)) (by rw [nI_clamp (by omega)]) ?_
  refine r_callVP0 (As := [.int (kX κ (i + 1)), .int (kX κ (i + 2))]) dL_law_512 (tX9_warm_o hD.2.2.1 hI hsn hln) rfl RM_0 rfl rfl oX9_warm rfl kL_135M nX9_warm eX9_warm ⟨Nat.le_of_ble_eq_true rfl, Nat.le_of_ble_eq_true rfl, Nat.zero_le _, Nat.zero_le _⟩ (Nat.le_of_ble_eq_true rfl) (bc' := bc) (bs' := bs) rfl rfl (fun E M9 h => by obtain ⟨_, _, _, _, h, _⟩ := h; cases h) (fun v M2 h => ?_)
  obtain ⟨ap2, pt2, hs2, nu2, hv2, hM2⟩ := h
  cases hv2
  subst hM2
  show fR _ _ _ 515 _ (.int (oWarm ⟨g, sn, kp, tx, ln⟩ dn n (kX κ (i + 1)) (kX κ (i + 2))).2.1 :: []) _ _ _ _
  refine r_istore (lv' := (6, .int (oWarm ⟨g, sn, kp, tx, ln⟩ dn n (kX κ (i + 1)) (kX κ (i + 2))).2.1) :: (5, .int (nI (oWarm ⟨g, sn, kp, tx, ln⟩ dn n (kX κ (i + 1)) (kX κ (i + 2))).1)) :: LV κ ad q m i) dL_law_515 (Nat.le_of_ble_eq_true rfl) rfl ?_
  exact law_tail hD hC1 h3 hf1 hf0 dL_law_517 dL_law_518 dL_law_521 dL_law_523 dL_law_528 dL_law_530 dL_law_533 dL_law_534 dL_law_535 dL_law_536 dL_law_538 dL_law_539 dL_law_540 dL_law_545 (by decide) (fun M2 h => kk _ _ _ M2 h)
theorem lL_op6 {nm : String} {hh : List (Nat × Nat × Nat × Nat)} {l : Launch} {κ : KP} {ad : Nat → Nat} {q m sA tA nA i bc bs : Nat} {M : Mem} {z : Zs} {dn n : Nat} {P : FPost} (hD : LD ad q m sA tA nA) (hL : LI κ ad q m sA tA nA M z dn n) (hi : i + 5 ≤ kL κ) (hk : kL κ ≤ 2560) (kk : ∀ (z' : Zs) (dn' n' : Nat) (M2 : Mem), LI κ ad q m sA tA nA M2 z' dn' n' → fR l κ (mL_law nm hh) 2098 (LV κ ad q m i) [] M2 bc bs P) : fR l κ (mL_law nm hh) 548 (LV κ ad q m i) [] M (bc + 1) (bs + 6) P := by
  obtain ⟨th, ap, pt, hs, nu, f, hC, hq, hM⟩ := hL
  obtain ⟨g, sn, kp, tx, ln⟩ := z
  replace hM : M = RM M m sA tA nA th (nI sn) (bI kp) (nI ln) ap pt hs g tx nu := hM
  have hI : BI g dn n := hC.2.2.1
  have hsn : sn ≤ 6 := hC.2.1.s6
  obtain ⟨ch, hTX⟩ := hC.2.2.2.2
  replace hTX : TX tx ln ch := hTX
  have hln := hTX.1
  refine r_aload_n dL_law_548 rfl ?_
  refine r_aload_n dL_law_549 rfl ?_
  refine r_iload dL_law_550 rfl ?_
  refine r_iconst (v := nI 1) dL_law_552 (by decide) ?_
  refine r_iaddN dL_law_553 ?_
  refine r_sld dL_law_554 (vp_in_nI (by omega) (by omega)) ?_
  refine r_top (y := kX κ (i + 1)) (by rw [nI_clamp (by omega)]) ?_
  refine r_aload_n dL_law_555 rfl ?_
  refine fR_callSH (As := [.ref (ad 254), .int (kX κ (i + 1)), .ref q]) dL_law_556 (tL_pass hD.1 hC hq hD.2.1) rfl oL_pass rfl kL_136M sL_pass ⟨Nat.le_of_ble_eq_true rfl, Nat.le_of_ble_eq_true rfl, show 1 ≤ _ by omega, show 6 ≤ _ by omega⟩ (Nat.le_of_ble_eq_true rfl) (fun E M9 h => by cases h.2.1) (bc' := bc) (bs' := bs) rfl rfl (fun v M1 h => ?_)
  obtain ⟨h3, hv, ⟨dn', n', hC1⟩, ⟨f1, hf1, hf0⟩, ho⟩ := h
  cases hv
  show fR _ _ _ 559 _ (.int (nI (oPass ⟨g, sn, kp, tx, ln⟩ dn n (kX κ (i + 1))).1) :: []) _ _ _ _
  refine r_istore (lv' := (5, .int (nI (oPass ⟨g, sn, kp, tx, ln⟩ dn n (kX κ (i + 1))).1)) :: LV κ ad q m i) dL_law_559 (Nat.le_of_ble_eq_true rfl) rfl ?_
  have hM1 : M1 = _ := (RM_self hD.2.2.1 hM (ho m (Ne.symm hD.2.2.2.2.1) (fun t ht => Ne.symm (hD.2.2.2.1 t ht).1)) (ho sA (Ne.symm hD.2.2.2.2.2.1) (fun t ht => Ne.symm (hD.2.2.2.1 t ht).2.1)) (ho tA (Ne.symm hD.2.2.2.2.2.2.1) (fun t ht => Ne.symm (hD.2.2.2.1 t ht).2.2.1)) (ho nA (Ne.symm hD.2.2.2.2.2.2.2) (fun t ht => Ne.symm (hD.2.2.2.1 t ht).2.2.2)))
  refine r_mem hM1 ?_
  refine r_aload_n dL_law_561 rfl ?_
  refine r_aload_n dL_law_562 rfl ?_
  refine r_iload dL_law_563 rfl ?_
  refine r_iconst (v := nI 1) dL_law_565 (by decide) ?_
  refine r_iaddN dL_law_566 ?_
  refine r_sld dL_law_567 (vp_in_nI (by omega) (by omega)) ?_
  refine r_top (y := kX κ (i + 1)) (by rw [nI_clamp (by omega)]) ?_
  refine r_callVP0 (As := [.int (kX κ (i + 1))]) dL_law_568 (tX9_pass_o hD.2.2.1 hI hsn hln) rfl RM_0 rfl rfl oX9_pass rfl kL_138M nX9_pass eX9_pass ⟨Nat.le_of_ble_eq_true rfl, Nat.le_of_ble_eq_true rfl, Nat.zero_le _, Nat.zero_le _⟩ (Nat.le_of_ble_eq_true rfl) (bc' := bc) (bs' := bs) rfl rfl (fun E M9 h => by obtain ⟨_, _, _, _, h, _⟩ := h; cases h) (fun v M2 h => ?_)
  obtain ⟨ap2, pt2, hs2, nu2, hv2, hM2⟩ := h
  cases hv2
  subst hM2
  show fR _ _ _ 571 _ (.int (oPass ⟨g, sn, kp, tx, ln⟩ dn n (kX κ (i + 1))).2.1 :: []) _ _ _ _
  refine r_istore (lv' := (6, .int (oPass ⟨g, sn, kp, tx, ln⟩ dn n (kX κ (i + 1))).2.1) :: (5, .int (nI (oPass ⟨g, sn, kp, tx, ln⟩ dn n (kX κ (i + 1))).1)) :: LV κ ad q m i) dL_law_571 (Nat.le_of_ble_eq_true rfl) rfl ?_
  exact law_tail hD hC1 h3 hf1 hf0 dL_law_573 dL_law_574 dL_law_577 dL_law_579 dL_law_584 dL_law_586 dL_law_589 dL_law_590 dL_law_591 dL_law_592 dL_law_594 dL_law_595 dL_law_596 dL_law_601 (by decide) (fun M2 h => kk _ _ _ M2 h)
theorem lL_op7 {nm : String} {hh : List (Nat × Nat × Nat × Nat)} {l : Launch} {κ : KP} {ad : Nat → Nat} {q m sA tA nA i bc bs : Nat} {M : Mem} {z : Zs} {dn n : Nat} {P : FPost} (hD : LD ad q m sA tA nA) (hL : LI κ ad q m sA tA nA M z dn n) (hi : i + 5 ≤ kL κ) (hk : kL κ ≤ 2560) (kk : ∀ (z' : Zs) (dn' n' : Nat) (M2 : Mem), LI κ ad q m sA tA nA M2 z' dn' n' → fR l κ (mL_law nm hh) 2098 (LV κ ad q m i) [] M2 bc bs P) : fR l κ (mL_law nm hh) 604 (LV κ ad q m i) [] M (bc + 5) (bs + 30) P := by
  obtain ⟨th, ap, pt, hs, nu, f, hC, hq, hM⟩ := hL
  obtain ⟨g, sn, kp, tx, ln⟩ := z
  replace hM : M = RM M m sA tA nA th (nI sn) (bI kp) (nI ln) ap pt hs g tx nu := hM
  have hI : BI g dn n := hC.2.2.1
  have hsn : sn ≤ 6 := hC.2.1.s6
  obtain ⟨ch, hTX⟩ := hC.2.2.2.2
  replace hTX : TX tx ln ch := hTX
  have hln := hTX.1
  refine r_aload_n dL_law_604 rfl ?_
  refine r_aload_n dL_law_605 rfl ?_
  refine r_iload dL_law_606 rfl ?_
  refine r_iconst (v := nI 1) dL_law_608 (by decide) ?_
  refine r_iaddN dL_law_609 ?_
  refine r_sld dL_law_610 (vp_in_nI (by omega) (by omega)) ?_
  refine r_top (y := kX κ (i + 1)) (by rw [nI_clamp (by omega)]) ?_
  refine r_aload_n dL_law_611 rfl ?_
  refine r_iload dL_law_612 rfl ?_
  refine r_iconst (v := nI 2) dL_law_614 (by decide) ?_
  refine r_iaddN dL_law_615 ?_
  refine r_sld dL_law_616 (vp_in_nI (by omega) (by omega)) ?_
  refine r_top (y := kX κ (i + 2)) (by rw [nI_clamp (by omega)]) ?_
  refine r_aload_n dL_law_617 rfl ?_
  refine r_iload dL_law_618 rfl ?_
  refine r_iconst (v := nI 3) dL_law_620 (by decide) ?_
  refine r_iaddN dL_law_621 ?_
  refine r_sld dL_law_622 (vp_in_nI (by omega) (by omega)) ?_
  refine r_top (y := kX κ (i + 3)) (by rw [nI_clamp (by omega)]) ?_
  refine r_aload_n dL_law_623 rfl ?_
  refine r_iload dL_law_624 rfl ?_
  refine r_iconst (v := nI 4) dL_law_626 (by decide) ?_
  refine r_iaddN dL_law_627 ?_
  refine r_sld dL_law_628 (vp_in_nI (by omega) (by omega)) ?_
  refine r_top (y := kX κ (i + 4)) (by rw [nI_clamp (by omega)]) ?_
  refine r_aload_n dL_law_629 rfl ?_
  refine fR_callSH (As := [.ref (ad 254), .int (kX κ (i + 1)), .int (kX κ (i + 2)), .int (kX κ (i + 3)), .int (kX κ (i + 4)), .ref q]) dL_law_630 (tL_sink hD.1 hC hq hD.2.1) rfl oL_sink rfl kL_139M sL_sink ⟨Nat.le_of_ble_eq_true rfl, Nat.le_of_ble_eq_true rfl, show 5 ≤ _ by omega, show 30 ≤ _ by omega⟩ (Nat.le_of_ble_eq_true rfl) (fun E M9 h => by cases h.2.1) (bc' := bc) (bs' := bs) rfl rfl (fun v M1 h => ?_)
  obtain ⟨h3, hv, ⟨dn', n', hC1⟩, ⟨f1, hf1, hf0⟩, ho⟩ := h
  cases hv
  show fR _ _ _ 633 _ (.int (nI (oSink ⟨g, sn, kp, tx, ln⟩ dn n (kX κ (i + 1)) (kX κ (i + 2)) (kX κ (i + 3)) (kX κ (i + 4))).1) :: []) _ _ _ _
  refine r_istore (lv' := (5, .int (nI (oSink ⟨g, sn, kp, tx, ln⟩ dn n (kX κ (i + 1)) (kX κ (i + 2)) (kX κ (i + 3)) (kX κ (i + 4))).1)) :: LV κ ad q m i) dL_law_633 (Nat.le_of_ble_eq_true rfl) rfl ?_
  have hM1 : M1 = _ := (RM_self hD.2.2.1 hM (ho m (Ne.symm hD.2.2.2.2.1) (fun t ht => Ne.symm (hD.2.2.2.1 t ht).1)) (ho sA (Ne.symm hD.2.2.2.2.2.1) (fun t ht => Ne.symm (hD.2.2.2.1 t ht).2.1)) (ho tA (Ne.symm hD.2.2.2.2.2.2.1) (fun t ht => Ne.symm (hD.2.2.2.1 t ht).2.2.1)) (ho nA (Ne.symm hD.2.2.2.2.2.2.2) (fun t ht => Ne.symm (hD.2.2.2.1 t ht).2.2.2)))
  refine r_mem hM1 ?_
  refine r_aload_n dL_law_635 rfl ?_
  refine r_aload_n dL_law_636 rfl ?_
  refine r_iload dL_law_637 rfl ?_
  refine r_iconst (v := nI 1) dL_law_639 (by decide) ?_
  refine r_iaddN dL_law_640 ?_
  refine r_sld dL_law_641 (vp_in_nI (by omega) (by omega)) ?_
  refine r_top (y := kX κ (i + 1)) (by rw [nI_clamp (by omega)]) ?_
  refine r_aload_n dL_law_642 rfl ?_
  refine r_iload dL_law_643 rfl ?_
  refine r_iconst (v := nI 2) dL_law_645 (by decide) ?_
  refine r_iaddN dL_law_646 ?_
  refine r_sld dL_law_647 (vp_in_nI (by omega) (by omega)) ?_
  refine r_top (y := kX κ (i + 2)) (by rw [nI_clamp (by omega)]) ?_
  refine r_aload_n dL_law_648 rfl ?_
  refine r_iload dL_law_649 rfl ?_
  refine r_iconst (v := nI 3) dL_law_651 (by decide) ?_
  refine r_iaddN dL_law_652 ?_
  refine r_sld dL_law_653 (vp_in_nI (by omega) (by omega)) ?_
  refine r_top (y := kX κ (i + 3)) (by rw [nI_clamp (by omega)]) ?_
  refine r_aload_n dL_law_654 rfl ?_
  refine r_iload dL_law_655 rfl ?_
  refine r_iconst (v := nI 4) dL_law_657 (by decide) ?_
  refine r_iaddN dL_law_658 ?_
  refine r_sld dL_law_659 (vp_in_nI (by omega) (by omega)) ?_
  refine r_top (y := kX κ (i + 4)) (by rw [nI_clamp (by omega)]) ?_
  refine r_callVP0 (As := [.int (kX κ (i + 1)), .int (kX κ (i + 2)), .int (kX κ (i + 3)), .int (kX κ (i + 4))]) dL_law_660 (tX9_sink_o hD.2.2.1 hI hsn hln) rfl RM_0 rfl rfl oX9_sink rfl kL_142M nX9_sink eX9_sink ⟨Nat.le_of_ble_eq_true rfl, Nat.le_of_ble_eq_true rfl, Nat.zero_le _, Nat.zero_le _⟩ (Nat.le_of_ble_eq_true rfl) (bc' := bc) (bs' := bs) rfl rfl (fun E M9 h => by obtain ⟨_, _, _, _, h, _⟩ := h; cases h) (fun v M2 h => ?_)
  obtain ⟨ap2, pt2, hs2, nu2, hv2, hM2⟩ := h
  cases hv2
  subst hM2
  show fR _ _ _ 663 _ (.int (oSink ⟨g, sn, kp, tx, ln⟩ dn n (kX κ (i + 1)) (kX κ (i + 2)) (kX κ (i + 3)) (kX κ (i + 4))).2.1 :: []) _ _ _ _
  refine r_istore (lv' := (6, .int (oSink ⟨g, sn, kp, tx, ln⟩ dn n (kX κ (i + 1)) (kX κ (i + 2)) (kX κ (i + 3)) (kX κ (i + 4))).2.1) :: (5, .int (nI (oSink ⟨g, sn, kp, tx, ln⟩ dn n (kX κ (i + 1)) (kX κ (i + 2)) (kX κ (i + 3)) (kX κ (i + 4))).1)) :: LV κ ad q m i) dL_law_663 (Nat.le_of_ble_eq_true rfl) rfl ?_
  exact law_tail hD hC1 h3 hf1 hf0 dL_law_665 dL_law_666 dL_law_669 dL_law_671 dL_law_676 dL_law_678 dL_law_681 dL_law_682 dL_law_683 dL_law_684 dL_law_686 dL_law_687 dL_law_688 dL_law_693 (by decide) (fun M2 h => kk _ _ _ M2 h)
theorem lL_op8 {nm : String} {hh : List (Nat × Nat × Nat × Nat)} {l : Launch} {κ : KP} {ad : Nat → Nat} {q m sA tA nA i bc bs : Nat} {M : Mem} {z : Zs} {dn n : Nat} {P : FPost} (hD : LD ad q m sA tA nA) (hL : LI κ ad q m sA tA nA M z dn n) (hi : i + 5 ≤ kL κ) (hk : kL κ ≤ 2560) (kk : ∀ (z' : Zs) (dn' n' : Nat) (M2 : Mem), LI κ ad q m sA tA nA M2 z' dn' n' → fR l κ (mL_law nm hh) 2098 (LV κ ad q m i) [] M2 bc bs P) : fR l κ (mL_law nm hh) 696 (LV κ ad q m i) [] M (bc + 1) (bs + 6) P := by
  obtain ⟨th, ap, pt, hs, nu, f, hC, hq, hM⟩ := hL
  obtain ⟨g, sn, kp, tx, ln⟩ := z
  replace hM : M = RM M m sA tA nA th (nI sn) (bI kp) (nI ln) ap pt hs g tx nu := hM
  have hI : BI g dn n := hC.2.2.1
  have hsn : sn ≤ 6 := hC.2.1.s6
  obtain ⟨ch, hTX⟩ := hC.2.2.2.2
  replace hTX : TX tx ln ch := hTX
  have hln := hTX.1
  refine r_aload_n dL_law_696 rfl ?_
  refine r_aload_n dL_law_697 rfl ?_
  refine r_iload dL_law_698 rfl ?_
  refine r_iconst (v := nI 1) dL_law_700 (by decide) ?_
  refine r_iaddN dL_law_701 ?_
  refine r_sld dL_law_702 (vp_in_nI (by omega) (by omega)) ?_
  refine r_top (y := kX κ (i + 1)) (by rw [nI_clamp (by omega)]) ?_
  refine r_aload_n dL_law_703 rfl ?_
  refine fR_callSH (As := [.ref (ad 254), .int (kX κ (i + 1)), .ref q]) dL_law_704 (tL_renew hD.1 hC hq hD.2.1) rfl oL_renew rfl kL_143M sL_renew ⟨Nat.le_of_ble_eq_true rfl, Nat.le_of_ble_eq_true rfl, show 1 ≤ _ by omega, show 6 ≤ _ by omega⟩ (Nat.le_of_ble_eq_true rfl) (fun E M9 h => by cases h.2.1) (bc' := bc) (bs' := bs) rfl rfl (fun v M1 h => ?_)
  obtain ⟨h3, hv, ⟨dn', n', hC1⟩, ⟨f1, hf1, hf0⟩, ho⟩ := h
  cases hv
  show fR _ _ _ 707 _ (.int (nI (oRenew ⟨g, sn, kp, tx, ln⟩ dn n (kX κ (i + 1))).1) :: []) _ _ _ _
  refine r_istore (lv' := (5, .int (nI (oRenew ⟨g, sn, kp, tx, ln⟩ dn n (kX κ (i + 1))).1)) :: LV κ ad q m i) dL_law_707 (Nat.le_of_ble_eq_true rfl) rfl ?_
  have hM1 : M1 = _ := (RM_self hD.2.2.1 hM (ho m (Ne.symm hD.2.2.2.2.1) (fun t ht => Ne.symm (hD.2.2.2.1 t ht).1)) (ho sA (Ne.symm hD.2.2.2.2.2.1) (fun t ht => Ne.symm (hD.2.2.2.1 t ht).2.1)) (ho tA (Ne.symm hD.2.2.2.2.2.2.1) (fun t ht => Ne.symm (hD.2.2.2.1 t ht).2.2.1)) (ho nA (Ne.symm hD.2.2.2.2.2.2.2) (fun t ht => Ne.symm (hD.2.2.2.1 t ht).2.2.2)))
  refine r_mem hM1 ?_
  refine r_aload_n dL_law_709 rfl ?_
  refine r_aload_n dL_law_710 rfl ?_
  refine r_iload dL_law_711 rfl ?_
  refine r_iconst (v := nI 1) dL_law_713 (by decide) ?_
  refine r_iaddN dL_law_714 ?_
  refine r_sld dL_law_715 (vp_in_nI (by omega) (by omega)) ?_
  refine r_top (y := kX κ (i + 1)) (by rw [nI_clamp (by omega)]) ?_
  refine r_callVP0 (As := [.int (kX κ (i + 1))]) dL_law_716 (tX9_renew_o hD.2.2.1 hI hsn hln) rfl RM_0 rfl rfl oX9_renew rfl kL_145M nX9_renew eX9_renew ⟨Nat.le_of_ble_eq_true rfl, Nat.le_of_ble_eq_true rfl, Nat.zero_le _, Nat.zero_le _⟩ (Nat.le_of_ble_eq_true rfl) (bc' := bc) (bs' := bs) rfl rfl (fun E M9 h => by obtain ⟨_, _, _, _, h, _⟩ := h; cases h) (fun v M2 h => ?_)
  obtain ⟨ap2, pt2, hs2, nu2, hv2, hM2⟩ := h
  cases hv2
  subst hM2
  show fR _ _ _ 719 _ (.int (oRenew ⟨g, sn, kp, tx, ln⟩ dn n (kX κ (i + 1))).2.1 :: []) _ _ _ _
  refine r_istore (lv' := (6, .int (oRenew ⟨g, sn, kp, tx, ln⟩ dn n (kX κ (i + 1))).2.1) :: (5, .int (nI (oRenew ⟨g, sn, kp, tx, ln⟩ dn n (kX κ (i + 1))).1)) :: LV κ ad q m i) dL_law_719 (Nat.le_of_ble_eq_true rfl) rfl ?_
  exact law_tail hD hC1 h3 hf1 hf0 dL_law_721 dL_law_722 dL_law_725 dL_law_727 dL_law_732 dL_law_734 dL_law_737 dL_law_738 dL_law_739 dL_law_740 dL_law_742 dL_law_743 dL_law_744 dL_law_749 (by decide) (fun M2 h => kk _ _ _ M2 h)
theorem lL_op9 {nm : String} {hh : List (Nat × Nat × Nat × Nat)} {l : Launch} {κ : KP} {ad : Nat → Nat} {q m sA tA nA i bc bs : Nat} {M : Mem} {z : Zs} {dn n : Nat} {P : FPost} (hD : LD ad q m sA tA nA) (hL : LI κ ad q m sA tA nA M z dn n) (hi : i + 5 ≤ kL κ) (hk : kL κ ≤ 2560) (kk : ∀ (z' : Zs) (dn' n' : Nat) (M2 : Mem), LI κ ad q m sA tA nA M2 z' dn' n' → fR l κ (mL_law nm hh) 2098 (LV κ ad q m i) [] M2 bc bs P) : fR l κ (mL_law nm hh) 752 (LV κ ad q m i) [] M (bc + 1) (bs + 6) P := by
  obtain ⟨th, ap, pt, hs, nu, f, hC, hq, hM⟩ := hL
  obtain ⟨g, sn, kp, tx, ln⟩ := z
  replace hM : M = RM M m sA tA nA th (nI sn) (bI kp) (nI ln) ap pt hs g tx nu := hM
  have hI : BI g dn n := hC.2.2.1
  have hsn : sn ≤ 6 := hC.2.1.s6
  obtain ⟨ch, hTX⟩ := hC.2.2.2.2
  replace hTX : TX tx ln ch := hTX
  have hln := hTX.1
  refine r_aload_n dL_law_752 rfl ?_
  refine r_aload_n dL_law_753 rfl ?_
  refine r_iload dL_law_754 rfl ?_
  refine r_iconst (v := nI 1) dL_law_756 (by decide) ?_
  refine r_iaddN dL_law_757 ?_
  refine r_sld dL_law_758 (vp_in_nI (by omega) (by omega)) ?_
  refine r_top (y := kX κ (i + 1)) (by rw [nI_clamp (by omega)]) ?_
  refine r_aload_n dL_law_759 rfl ?_
  refine fR_callSH (As := [.ref (ad 254), .int (kX κ (i + 1)), .ref q]) dL_law_760 (tL_ring hD.1 hC hq hD.2.1) rfl oL_ring rfl kL_146M sL_ring ⟨Nat.le_of_ble_eq_true rfl, Nat.le_of_ble_eq_true rfl, show 1 ≤ _ by omega, show 6 ≤ _ by omega⟩ (Nat.le_of_ble_eq_true rfl) (fun E M9 h => by cases h.2.1) (bc' := bc) (bs' := bs) rfl rfl (fun v M1 h => ?_)
  obtain ⟨h3, hv, ⟨dn', n', hC1⟩, ⟨f1, hf1, hf0⟩, ho⟩ := h
  cases hv
  show fR _ _ _ 763 _ (.int (nI (oRing ⟨g, sn, kp, tx, ln⟩ dn n (kX κ (i + 1))).1) :: []) _ _ _ _
  refine r_istore (lv' := (5, .int (nI (oRing ⟨g, sn, kp, tx, ln⟩ dn n (kX κ (i + 1))).1)) :: LV κ ad q m i) dL_law_763 (Nat.le_of_ble_eq_true rfl) rfl ?_
  have hM1 : M1 = _ := (RM_self hD.2.2.1 hM (ho m (Ne.symm hD.2.2.2.2.1) (fun t ht => Ne.symm (hD.2.2.2.1 t ht).1)) (ho sA (Ne.symm hD.2.2.2.2.2.1) (fun t ht => Ne.symm (hD.2.2.2.1 t ht).2.1)) (ho tA (Ne.symm hD.2.2.2.2.2.2.1) (fun t ht => Ne.symm (hD.2.2.2.1 t ht).2.2.1)) (ho nA (Ne.symm hD.2.2.2.2.2.2.2) (fun t ht => Ne.symm (hD.2.2.2.1 t ht).2.2.2)))
  refine r_mem hM1 ?_
  refine r_aload_n dL_law_765 rfl ?_
  refine r_aload_n dL_law_766 rfl ?_
  refine r_iload dL_law_767 rfl ?_
  refine r_iconst (v := nI 1) dL_law_769 (by decide) ?_
  refine r_iaddN dL_law_770 ?_
  refine r_sld dL_law_771 (vp_in_nI (by omega) (by omega)) ?_
  refine r_top (y := kX κ (i + 1)) (by rw [nI_clamp (by omega)]) ?_
  refine r_callVP0 (As := [.int (kX κ (i + 1))]) dL_law_772 (tX9_ring_o hD.2.2.1 hI hsn hln) rfl RM_0 rfl rfl oX9_ring rfl kL_148M nX9_ring eX9_ring ⟨Nat.le_of_ble_eq_true rfl, Nat.le_of_ble_eq_true rfl, Nat.zero_le _, Nat.zero_le _⟩ (Nat.le_of_ble_eq_true rfl) (bc' := bc) (bs' := bs) rfl rfl (fun E M9 h => by obtain ⟨_, _, _, _, h, _⟩ := h; cases h) (fun v M2 h => ?_)
  obtain ⟨ap2, pt2, hs2, nu2, hv2, hM2⟩ := h
  cases hv2
  subst hM2
  show fR _ _ _ 775 _ (.int (oRing ⟨g, sn, kp, tx, ln⟩ dn n (kX κ (i + 1))).2.1 :: []) _ _ _ _
  refine r_istore (lv' := (6, .int (oRing ⟨g, sn, kp, tx, ln⟩ dn n (kX κ (i + 1))).2.1) :: (5, .int (nI (oRing ⟨g, sn, kp, tx, ln⟩ dn n (kX κ (i + 1))).1)) :: LV κ ad q m i) dL_law_775 (Nat.le_of_ble_eq_true rfl) rfl ?_
  exact law_tail hD hC1 h3 hf1 hf0 dL_law_777 dL_law_778 dL_law_781 dL_law_783 dL_law_788 dL_law_790 dL_law_793 dL_law_794 dL_law_795 dL_law_796 dL_law_798 dL_law_799 dL_law_800 dL_law_805 (by decide) (fun M2 h => kk _ _ _ M2 h)
theorem lL_op10 {nm : String} {hh : List (Nat × Nat × Nat × Nat)} {l : Launch} {κ : KP} {ad : Nat → Nat} {q m sA tA nA i bc bs : Nat} {M : Mem} {z : Zs} {dn n : Nat} {P : FPost} (hD : LD ad q m sA tA nA) (hL : LI κ ad q m sA tA nA M z dn n) (hi : i + 5 ≤ kL κ) (hk : kL κ ≤ 2560) (kk : ∀ (z' : Zs) (dn' n' : Nat) (M2 : Mem), LI κ ad q m sA tA nA M2 z' dn' n' → fR l κ (mL_law nm hh) 2098 (LV κ ad q m i) [] M2 bc bs P) : fR l κ (mL_law nm hh) 808 (LV κ ad q m i) [] M (bc + 1) (bs + 6) P := by
  obtain ⟨th, ap, pt, hs, nu, f, hC, hq, hM⟩ := hL
  obtain ⟨g, sn, kp, tx, ln⟩ := z
  replace hM : M = RM M m sA tA nA th (nI sn) (bI kp) (nI ln) ap pt hs g tx nu := hM
  have hI : BI g dn n := hC.2.2.1
  have hsn : sn ≤ 6 := hC.2.1.s6
  obtain ⟨ch, hTX⟩ := hC.2.2.2.2
  replace hTX : TX tx ln ch := hTX
  have hln := hTX.1
  refine r_aload_n dL_law_808 rfl ?_
  refine r_aload_n dL_law_809 rfl ?_
  refine r_iload dL_law_810 rfl ?_
  refine r_iconst (v := nI 1) dL_law_812 (by decide) ?_
  refine r_iaddN dL_law_813 ?_
  refine r_sld dL_law_814 (vp_in_nI (by omega) (by omega)) ?_
  refine r_top (y := kX κ (i + 1)) (by rw [nI_clamp (by omega)]) ?_
  refine r_aload_n dL_law_815 rfl ?_
  refine fR_callSH (As := [.ref (ad 254), .int (kX κ (i + 1)), .ref q]) dL_law_816 (tL_sell hD.1 hC hq hD.2.1) rfl oL_sell rfl kL_149M sL_sell ⟨Nat.le_of_ble_eq_true rfl, Nat.le_of_ble_eq_true rfl, show 1 ≤ _ by omega, show 6 ≤ _ by omega⟩ (Nat.le_of_ble_eq_true rfl) (fun E M9 h => by cases h.2.1) (bc' := bc) (bs' := bs) rfl rfl (fun v M1 h => ?_)
  obtain ⟨h3, hv, ⟨dn', n', hC1⟩, ⟨f1, hf1, hf0⟩, ho⟩ := h
  cases hv
  show fR _ _ _ 819 _ (.int (nI (oSell ⟨g, sn, kp, tx, ln⟩ dn n (kX κ (i + 1))).1) :: []) _ _ _ _
  refine r_istore (lv' := (5, .int (nI (oSell ⟨g, sn, kp, tx, ln⟩ dn n (kX κ (i + 1))).1)) :: LV κ ad q m i) dL_law_819 (Nat.le_of_ble_eq_true rfl) rfl ?_
  have hM1 : M1 = _ := (RM_self hD.2.2.1 hM (ho m (Ne.symm hD.2.2.2.2.1) (fun t ht => Ne.symm (hD.2.2.2.1 t ht).1)) (ho sA (Ne.symm hD.2.2.2.2.2.1) (fun t ht => Ne.symm (hD.2.2.2.1 t ht).2.1)) (ho tA (Ne.symm hD.2.2.2.2.2.2.1) (fun t ht => Ne.symm (hD.2.2.2.1 t ht).2.2.1)) (ho nA (Ne.symm hD.2.2.2.2.2.2.2) (fun t ht => Ne.symm (hD.2.2.2.1 t ht).2.2.2)))
  refine r_mem hM1 ?_
  refine r_aload_n dL_law_821 rfl ?_
  refine r_aload_n dL_law_822 rfl ?_
  refine r_iload dL_law_823 rfl ?_
  refine r_iconst (v := nI 1) dL_law_825 (by decide) ?_
  refine r_iaddN dL_law_826 ?_
  refine r_sld dL_law_827 (vp_in_nI (by omega) (by omega)) ?_
  refine r_top (y := kX κ (i + 1)) (by rw [nI_clamp (by omega)]) ?_
  refine r_callVP0 (As := [.int (kX κ (i + 1))]) dL_law_828 (tX9_sell_o hD.2.2.1 hI hsn hln) rfl RM_0 rfl rfl oX9_sell rfl kL_151M nX9_sell eX9_sell ⟨Nat.le_of_ble_eq_true rfl, Nat.le_of_ble_eq_true rfl, Nat.zero_le _, Nat.zero_le _⟩ (Nat.le_of_ble_eq_true rfl) (bc' := bc) (bs' := bs) rfl rfl (fun E M9 h => by obtain ⟨_, _, _, _, h, _⟩ := h; cases h) (fun v M2 h => ?_)
  obtain ⟨ap2, pt2, hs2, nu2, hv2, hM2⟩ := h
  cases hv2
  subst hM2
  show fR _ _ _ 831 _ (.int (oSell ⟨g, sn, kp, tx, ln⟩ dn n (kX κ (i + 1))).2.1 :: []) _ _ _ _
  refine r_istore (lv' := (6, .int (oSell ⟨g, sn, kp, tx, ln⟩ dn n (kX κ (i + 1))).2.1) :: (5, .int (nI (oSell ⟨g, sn, kp, tx, ln⟩ dn n (kX κ (i + 1))).1)) :: LV κ ad q m i) dL_law_831 (Nat.le_of_ble_eq_true rfl) rfl ?_
  exact law_tail hD hC1 h3 hf1 hf0 dL_law_833 dL_law_834 dL_law_837 dL_law_839 dL_law_844 dL_law_846 dL_law_849 dL_law_850 dL_law_851 dL_law_852 dL_law_854 dL_law_855 dL_law_856 dL_law_861 (by decide) (fun M2 h => kk _ _ _ M2 h)
theorem lL_op11 {nm : String} {hh : List (Nat × Nat × Nat × Nat)} {l : Launch} {κ : KP} {ad : Nat → Nat} {q m sA tA nA i bc bs : Nat} {M : Mem} {z : Zs} {dn n : Nat} {P : FPost} (hD : LD ad q m sA tA nA) (hL : LI κ ad q m sA tA nA M z dn n) (hi : i + 5 ≤ kL κ) (hk : kL κ ≤ 2560) (kk : ∀ (z' : Zs) (dn' n' : Nat) (M2 : Mem), LI κ ad q m sA tA nA M2 z' dn' n' → fR l κ (mL_law nm hh) 2098 (LV κ ad q m i) [] M2 bc bs P) : fR l κ (mL_law nm hh) 864 (LV κ ad q m i) [] M (bc + 2) (bs + 12) P := by
  obtain ⟨th, ap, pt, hs, nu, f, hC, hq, hM⟩ := hL
  obtain ⟨g, sn, kp, tx, ln⟩ := z
  replace hM : M = RM M m sA tA nA th (nI sn) (bI kp) (nI ln) ap pt hs g tx nu := hM
  have hI : BI g dn n := hC.2.2.1
  have hsn : sn ≤ 6 := hC.2.1.s6
  obtain ⟨ch, hTX⟩ := hC.2.2.2.2
  replace hTX : TX tx ln ch := hTX
  have hln := hTX.1
  refine r_aload_n dL_law_864 rfl ?_
  refine r_aload_n dL_law_865 rfl ?_
  refine r_iload dL_law_866 rfl ?_
  refine r_iconst (v := nI 1) dL_law_868 (by decide) ?_
  refine r_iaddN dL_law_869 ?_
  refine r_sld dL_law_870 (vp_in_nI (by omega) (by omega)) ?_
  refine r_top (y := kX κ (i + 1)) (by rw [nI_clamp (by omega)]) ?_
  refine r_aload_n dL_law_871 rfl ?_
  refine r_iload dL_law_872 rfl ?_
  refine r_iconst (v := nI 2) dL_law_874 (by decide) ?_
  refine r_iaddN dL_law_875 ?_
  refine r_sld dL_law_876 (vp_in_nI (by omega) (by omega)) ?_
  refine r_top (y := kX κ (i + 2)) (by rw [nI_clamp (by omega)]) ?_
  refine r_aload_n dL_law_877 rfl ?_
  refine fR_callSH (As := [.ref (ad 254), .int (kX κ (i + 1)), .int (kX κ (i + 2)), .ref q]) dL_law_878 (tL_set hD.1 hC hq hD.2.1) rfl oL_set rfl kL_152M sL_set ⟨Nat.le_of_ble_eq_true rfl, Nat.le_of_ble_eq_true rfl, show 2 ≤ _ by omega, show 12 ≤ _ by omega⟩ (Nat.le_of_ble_eq_true rfl) (fun E M9 h => by cases h.2.1) (bc' := bc) (bs' := bs) rfl rfl (fun v M1 h => ?_)
  obtain ⟨h3, hv, ⟨dn', n', hC1⟩, ⟨f1, hf1, hf0⟩, ho⟩ := h
  cases hv
  show fR _ _ _ 881 _ (.int (nI (oSet ⟨g, sn, kp, tx, ln⟩ dn n (kX κ (i + 1)) (kX κ (i + 2))).1) :: []) _ _ _ _
  refine r_istore (lv' := (5, .int (nI (oSet ⟨g, sn, kp, tx, ln⟩ dn n (kX κ (i + 1)) (kX κ (i + 2))).1)) :: LV κ ad q m i) dL_law_881 (Nat.le_of_ble_eq_true rfl) rfl ?_
  have hM1 : M1 = _ := (RM_self hD.2.2.1 hM (ho m (Ne.symm hD.2.2.2.2.1) (fun t ht => Ne.symm (hD.2.2.2.1 t ht).1)) (ho sA (Ne.symm hD.2.2.2.2.2.1) (fun t ht => Ne.symm (hD.2.2.2.1 t ht).2.1)) (ho tA (Ne.symm hD.2.2.2.2.2.2.1) (fun t ht => Ne.symm (hD.2.2.2.1 t ht).2.2.1)) (ho nA (Ne.symm hD.2.2.2.2.2.2.2) (fun t ht => Ne.symm (hD.2.2.2.1 t ht).2.2.2)))
  refine r_mem hM1 ?_
  refine r_aload_n dL_law_883 rfl ?_
  refine r_aload_n dL_law_884 rfl ?_
  refine r_iload dL_law_885 rfl ?_
  refine r_iconst (v := nI 1) dL_law_887 (by decide) ?_
  refine r_iaddN dL_law_888 ?_
  refine r_sld dL_law_889 (vp_in_nI (by omega) (by omega)) ?_
  refine r_top (y := kX κ (i + 1)) (by rw [nI_clamp (by omega)]) ?_
  refine r_aload_n dL_law_890 rfl ?_
  refine r_iload dL_law_891 rfl ?_
  refine r_iconst (v := nI 2) dL_law_893 (by decide) ?_
  refine r_iaddN dL_law_894 ?_
  refine r_sld dL_law_895 (vp_in_nI (by omega) (by omega)) ?_
  refine r_top (y := kX κ (i + 2)) (by rw [nI_clamp (by omega)]) ?_
  refine r_callVP0 (As := [.int (kX κ (i + 1)), .int (kX κ (i + 2))]) dL_law_896 (tX9_set_o hD.2.2.1 hI hsn hln) rfl RM_0 rfl rfl oX9_set rfl kL_154M nX9_set eX9_set ⟨Nat.le_of_ble_eq_true rfl, Nat.le_of_ble_eq_true rfl, Nat.zero_le _, Nat.zero_le _⟩ (Nat.le_of_ble_eq_true rfl) (bc' := bc) (bs' := bs) rfl rfl (fun E M9 h => by obtain ⟨_, _, _, _, h, _⟩ := h; cases h) (fun v M2 h => ?_)
  obtain ⟨ap2, pt2, hs2, nu2, hv2, hM2⟩ := h
  cases hv2
  subst hM2
  show fR _ _ _ 899 _ (.int (oSet ⟨g, sn, kp, tx, ln⟩ dn n (kX κ (i + 1)) (kX κ (i + 2))).2.1 :: []) _ _ _ _
  refine r_istore (lv' := (6, .int (oSet ⟨g, sn, kp, tx, ln⟩ dn n (kX κ (i + 1)) (kX κ (i + 2))).2.1) :: (5, .int (nI (oSet ⟨g, sn, kp, tx, ln⟩ dn n (kX κ (i + 1)) (kX κ (i + 2))).1)) :: LV κ ad q m i) dL_law_899 (Nat.le_of_ble_eq_true rfl) rfl ?_
  exact law_tail hD hC1 h3 hf1 hf0 dL_law_901 dL_law_902 dL_law_905 dL_law_907 dL_law_912 dL_law_914 dL_law_917 dL_law_918 dL_law_919 dL_law_920 dL_law_922 dL_law_923 dL_law_924 dL_law_929 (by decide) (fun M2 h => kk _ _ _ M2 h)
theorem lL_op12 {nm : String} {hh : List (Nat × Nat × Nat × Nat)} {l : Launch} {κ : KP} {ad : Nat → Nat} {q m sA tA nA i bc bs : Nat} {M : Mem} {z : Zs} {dn n : Nat} {P : FPost} (hD : LD ad q m sA tA nA) (hL : LI κ ad q m sA tA nA M z dn n) (hi : i + 5 ≤ kL κ) (hk : kL κ ≤ 2560) (kk : ∀ (z' : Zs) (dn' n' : Nat) (M2 : Mem), LI κ ad q m sA tA nA M2 z' dn' n' → fR l κ (mL_law nm hh) 2098 (LV κ ad q m i) [] M2 bc bs P) : fR l κ (mL_law nm hh) 932 (LV κ ad q m i) [] M (bc + 2) (bs + 12) P := by
  obtain ⟨th, ap, pt, hs, nu, f, hC, hq, hM⟩ := hL
  obtain ⟨g, sn, kp, tx, ln⟩ := z
  replace hM : M = RM M m sA tA nA th (nI sn) (bI kp) (nI ln) ap pt hs g tx nu := hM
  have hI : BI g dn n := hC.2.2.1
  have hsn : sn ≤ 6 := hC.2.1.s6
  obtain ⟨ch, hTX⟩ := hC.2.2.2.2
  replace hTX : TX tx ln ch := hTX
  have hln := hTX.1
  refine r_aload_n dL_law_932 rfl ?_
  refine r_aload_n dL_law_933 rfl ?_
  refine r_iload dL_law_934 rfl ?_
  refine r_iconst (v := nI 1) dL_law_936 (by decide) ?_
  refine r_iaddN dL_law_937 ?_
  refine r_sld dL_law_938 (vp_in_nI (by omega) (by omega)) ?_
  refine r_top (y := kX κ (i + 1)) (by rw [nI_clamp (by omega)]) ?_
  refine r_aload_n dL_law_939 rfl ?_
  refine fR_callSH (As := [.ref (ad 254), .int (kX κ (i + 1)), .ref q]) dL_law_940 (tL_append hD.1 hC hq hD.2.1) rfl oL_append rfl kL_155M sL_append ⟨Nat.le_of_ble_eq_true rfl, Nat.le_of_ble_eq_true rfl, show 2 ≤ _ by omega, show 12 ≤ _ by omega⟩ (Nat.le_of_ble_eq_true rfl) (fun E M9 h => by cases h.2.1) (bc' := bc) (bs' := bs) rfl rfl (fun v M1 h => ?_)
  obtain ⟨h3, hv, ⟨dn', n', hC1⟩, ⟨f1, hf1, hf0⟩, ho⟩ := h
  cases hv
  show fR _ _ _ 943 _ (.int (nI (oAppend ⟨g, sn, kp, tx, ln⟩ dn n (kX κ (i + 1))).1) :: []) _ _ _ _
  refine r_istore (lv' := (5, .int (nI (oAppend ⟨g, sn, kp, tx, ln⟩ dn n (kX κ (i + 1))).1)) :: LV κ ad q m i) dL_law_943 (Nat.le_of_ble_eq_true rfl) rfl ?_
  have hM1 : M1 = _ := (RM_self hD.2.2.1 hM (ho m (Ne.symm hD.2.2.2.2.1) (fun t ht => Ne.symm (hD.2.2.2.1 t ht).1)) (ho sA (Ne.symm hD.2.2.2.2.2.1) (fun t ht => Ne.symm (hD.2.2.2.1 t ht).2.1)) (ho tA (Ne.symm hD.2.2.2.2.2.2.1) (fun t ht => Ne.symm (hD.2.2.2.1 t ht).2.2.1)) (ho nA (Ne.symm hD.2.2.2.2.2.2.2) (fun t ht => Ne.symm (hD.2.2.2.1 t ht).2.2.2)))
  refine r_mem hM1 ?_
  refine r_aload_n dL_law_945 rfl ?_
  refine r_aload_n dL_law_946 rfl ?_
  refine r_iload dL_law_947 rfl ?_
  refine r_iconst (v := nI 1) dL_law_949 (by decide) ?_
  refine r_iaddN dL_law_950 ?_
  refine r_sld dL_law_951 (vp_in_nI (by omega) (by omega)) ?_
  refine r_top (y := kX κ (i + 1)) (by rw [nI_clamp (by omega)]) ?_
  refine r_callVP0 (As := [.int (kX κ (i + 1))]) dL_law_952 (tX9_append_o hD.2.2.1 hI hsn hln) rfl RM_0 rfl rfl oX9_append rfl kL_157M nX9_append eX9_append ⟨Nat.le_of_ble_eq_true rfl, Nat.le_of_ble_eq_true rfl, Nat.zero_le _, Nat.zero_le _⟩ (Nat.le_of_ble_eq_true rfl) (bc' := bc) (bs' := bs) rfl rfl (fun E M9 h => by obtain ⟨_, _, _, _, h, _⟩ := h; cases h) (fun v M2 h => ?_)
  obtain ⟨ap2, pt2, hs2, nu2, hv2, hM2⟩ := h
  cases hv2
  subst hM2
  show fR _ _ _ 955 _ (.int (oAppend ⟨g, sn, kp, tx, ln⟩ dn n (kX κ (i + 1))).2.1 :: []) _ _ _ _
  refine r_istore (lv' := (6, .int (oAppend ⟨g, sn, kp, tx, ln⟩ dn n (kX κ (i + 1))).2.1) :: (5, .int (nI (oAppend ⟨g, sn, kp, tx, ln⟩ dn n (kX κ (i + 1))).1)) :: LV κ ad q m i) dL_law_955 (Nat.le_of_ble_eq_true rfl) rfl ?_
  exact law_tail hD hC1 h3 hf1 hf0 dL_law_957 dL_law_958 dL_law_961 dL_law_963 dL_law_968 dL_law_970 dL_law_973 dL_law_974 dL_law_975 dL_law_976 dL_law_978 dL_law_979 dL_law_980 dL_law_985 (by decide) (fun M2 h => kk _ _ _ M2 h)
theorem lL_op13 {nm : String} {hh : List (Nat × Nat × Nat × Nat)} {l : Launch} {κ : KP} {ad : Nat → Nat} {q m sA tA nA i bc bs : Nat} {M : Mem} {z : Zs} {dn n : Nat} {P : FPost} (hD : LD ad q m sA tA nA) (hL : LI κ ad q m sA tA nA M z dn n) (hi : i + 5 ≤ kL κ) (hk : kL κ ≤ 2560) (kk : ∀ (z' : Zs) (dn' n' : Nat) (M2 : Mem), LI κ ad q m sA tA nA M2 z' dn' n' → fR l κ (mL_law nm hh) 2098 (LV κ ad q m i) [] M2 bc bs P) : fR l κ (mL_law nm hh) 988 (LV κ ad q m i) [] M (bc + 0) (bs + 0) P := by
  obtain ⟨th, ap, pt, hs, nu, f, hC, hq, hM⟩ := hL
  obtain ⟨g, sn, kp, tx, ln⟩ := z
  replace hM : M = RM M m sA tA nA th (nI sn) (bI kp) (nI ln) ap pt hs g tx nu := hM
  have hI : BI g dn n := hC.2.2.1
  have hsn : sn ≤ 6 := hC.2.1.s6
  obtain ⟨ch, hTX⟩ := hC.2.2.2.2
  replace hTX : TX tx ln ch := hTX
  have hln := hTX.1
  refine r_aload_n dL_law_988 rfl ?_
  refine r_callVP0 (As := []) dL_law_989 (tX8_clearBuffer hD.1 hC) rfl hC.1 rfl rfl oX8_clearBuffer rfl kL_158M nX8_clearBuffer eX8_clearBuffer ⟨Nat.le_of_ble_eq_true rfl, Nat.le_of_ble_eq_true rfl, Nat.zero_le _, Nat.zero_le _⟩ (Nat.le_of_ble_eq_true rfl) (bc' := bc) (bs' := bs) rfl rfl (fun E M9 h => by rcases h with ⟨_, _, ⟨_, h⟩ | ⟨h, _⟩⟩; cases h; exact h rfl) (fun v M1 h => ?_)
  obtain ⟨⟨dn', n', hC1⟩, ho, ⟨-, hv⟩ | ⟨h, -⟩⟩ := h
  case inr => exact absurd rfl h
  cases hv
  show fR _ _ _ 992 _ (.int (oClearBuffer ⟨g, sn, kp, tx, ln⟩ dn n).2.1 :: []) _ _ _ _
  have ho' : ∀ b, b ≠ q → (∀ t, t < 256 → b ≠ ad t) → M1 b = M b := fun b _ hb => ho b hb
  have hM1 : M1 = _ := (RM_self hD.2.2.1 hM (ho' m (Ne.symm hD.2.2.2.2.1) (fun t ht => Ne.symm (hD.2.2.2.1 t ht).1)) (ho' sA (Ne.symm hD.2.2.2.2.2.1) (fun t ht => Ne.symm (hD.2.2.2.1 t ht).2.1)) (ho' tA (Ne.symm hD.2.2.2.2.2.2.1) (fun t ht => Ne.symm (hD.2.2.2.1 t ht).2.2.1)) (ho' nA (Ne.symm hD.2.2.2.2.2.2.2) (fun t ht => Ne.symm (hD.2.2.2.1 t ht).2.2.2)))
  have hq1 := (ho q hD.2.1).trans hq
  refine r_mem hM1 ?_
  refine r_aload_n dL_law_992 rfl ?_
  refine r_callVP0 (As := []) dL_law_993 (tX9_clearBuffer_o hD.2.2.1 hI hsn hln) rfl RM_0 rfl rfl oX9_clearBuffer rfl kL_161M nX9_clearBuffer eX9_clearBuffer ⟨Nat.le_of_ble_eq_true rfl, Nat.le_of_ble_eq_true rfl, Nat.zero_le _, Nat.zero_le _⟩ (Nat.le_of_ble_eq_true rfl) (bc' := bc) (bs' := bs) rfl rfl (fun E M9 h => by obtain ⟨_, _, _, _, h, _⟩ := h; cases h) (fun v M2 h => ?_)
  obtain ⟨ap2, pt2, hs2, nu2, hv2, hM2⟩ := h
  cases hv2
  subst hM2
  show fR _ _ _ 996 _ (.int (oClearBuffer ⟨g, sn, kp, tx, ln⟩ dn n).2.1 :: .int (oClearBuffer ⟨g, sn, kp, tx, ln⟩ dn n).2.1 :: []) _ _ _ _
  refine r_icmp_eq (tgt := 2098) dL_law_996 (by decide) (fun _ => ?_) (fun c => absurd rfl c)
  exact kk (oClearBuffer ⟨g, sn, kp, tx, ln⟩ dn n).2.2 dn' n' _ (LI.rm (z' := (oClearBuffer ⟨g, sn, kp, tx, ln⟩ dn n).2.2) hD hC1 hq1)
theorem lL_op14 {nm : String} {hh : List (Nat × Nat × Nat × Nat)} {l : Launch} {κ : KP} {ad : Nat → Nat} {q m sA tA nA i bc bs : Nat} {M : Mem} {z : Zs} {dn n : Nat} {P : FPost} (hD : LD ad q m sA tA nA) (hL : LI κ ad q m sA tA nA M z dn n) (hi : i + 5 ≤ kL κ) (hk : kL κ ≤ 2560) (kk : ∀ (z' : Zs) (dn' n' : Nat) (M2 : Mem), LI κ ad q m sA tA nA M2 z' dn' n' → fR l κ (mL_law nm hh) 2098 (LV κ ad q m i) [] M2 bc bs P) : fR l κ (mL_law nm hh) 1001 (LV κ ad q m i) [] M (bc + 0) (bs + 0) P := by
  obtain ⟨th, ap, pt, hs, nu, f, hC, hq, hM⟩ := hL
  obtain ⟨g, sn, kp, tx, ln⟩ := z
  replace hM : M = RM M m sA tA nA th (nI sn) (bI kp) (nI ln) ap pt hs g tx nu := hM
  have hI : BI g dn n := hC.2.2.1
  have hsn : sn ≤ 6 := hC.2.1.s6
  obtain ⟨ch, hTX⟩ := hC.2.2.2.2
  replace hTX : TX tx ln ch := hTX
  have hln := hTX.1
  refine r_aload_n dL_law_1001 rfl ?_
  refine r_callVP0 (As := []) dL_law_1002 (tX8_firstError hD.1 hC) rfl hC.1 rfl rfl oX8_firstError rfl kL_162M nX8_firstError eX8_firstError ⟨Nat.le_of_ble_eq_true rfl, Nat.le_of_ble_eq_true rfl, Nat.zero_le _, Nat.zero_le _⟩ (Nat.le_of_ble_eq_true rfl) (bc' := bc) (bs' := bs) rfl rfl (fun E M9 h => by rcases h with ⟨_, _, ⟨_, h⟩ | ⟨h, _⟩⟩; cases h; exact h rfl) (fun v M1 h => ?_)
  obtain ⟨⟨dn', n', hC1⟩, ho, ⟨-, hv⟩ | ⟨h, -⟩⟩ := h
  case inr => exact absurd rfl h
  cases hv
  show fR _ _ _ 1005 _ (.int (oFirstError ⟨g, sn, kp, tx, ln⟩ dn n).2.1 :: []) _ _ _ _
  have ho' : ∀ b, b ≠ q → (∀ t, t < 256 → b ≠ ad t) → M1 b = M b := fun b _ hb => ho b hb
  have hM1 : M1 = _ := (RM_self hD.2.2.1 hM (ho' m (Ne.symm hD.2.2.2.2.1) (fun t ht => Ne.symm (hD.2.2.2.1 t ht).1)) (ho' sA (Ne.symm hD.2.2.2.2.2.1) (fun t ht => Ne.symm (hD.2.2.2.1 t ht).2.1)) (ho' tA (Ne.symm hD.2.2.2.2.2.2.1) (fun t ht => Ne.symm (hD.2.2.2.1 t ht).2.2.1)) (ho' nA (Ne.symm hD.2.2.2.2.2.2.2) (fun t ht => Ne.symm (hD.2.2.2.1 t ht).2.2.2)))
  have hq1 := (ho q hD.2.1).trans hq
  refine r_mem hM1 ?_
  refine r_aload_n dL_law_1005 rfl ?_
  refine r_callVP0 (As := []) dL_law_1006 (tX9_firstError_o hD.2.2.1 hI hsn hln hTX) rfl RM_0 rfl rfl oX9_firstError rfl kL_165M nX9_firstError eX9_firstError ⟨Nat.le_of_ble_eq_true rfl, Nat.le_of_ble_eq_true rfl, Nat.zero_le _, Nat.zero_le _⟩ (Nat.le_of_ble_eq_true rfl) (bc' := bc) (bs' := bs) rfl rfl (fun E M9 h => by obtain ⟨_, _, _, _, h, _⟩ := h; cases h) (fun v M2 h => ?_)
  obtain ⟨ap2, pt2, hs2, nu2, hv2, hM2⟩ := h
  cases hv2
  subst hM2
  show fR _ _ _ 1009 _ (.int (oFirstError ⟨g, sn, kp, tx, ln⟩ dn n).2.1 :: .int (oFirstError ⟨g, sn, kp, tx, ln⟩ dn n).2.1 :: []) _ _ _ _
  refine r_icmp_eq (tgt := 2098) dL_law_1009 (by decide) (fun _ => ?_) (fun c => absurd rfl c)
  exact kk (oFirstError ⟨g, sn, kp, tx, ln⟩ dn n).2.2 dn' n' _ (LI.rm (z' := (oFirstError ⟨g, sn, kp, tx, ln⟩ dn n).2.2) hD hC1 hq1)
theorem lL_op15 {nm : String} {hh : List (Nat × Nat × Nat × Nat)} {l : Launch} {κ : KP} {ad : Nat → Nat} {q m sA tA nA i bc bs : Nat} {M : Mem} {z : Zs} {dn n : Nat} {P : FPost} (hD : LD ad q m sA tA nA) (hL : LI κ ad q m sA tA nA M z dn n) (hi : i + 5 ≤ kL κ) (hk : kL κ ≤ 2560) (kk : ∀ (z' : Zs) (dn' n' : Nat) (M2 : Mem), LI κ ad q m sA tA nA M2 z' dn' n' → fR l κ (mL_law nm hh) 2098 (LV κ ad q m i) [] M2 bc bs P) : fR l κ (mL_law nm hh) 1014 (LV κ ad q m i) [] M (bc + 1) (bs + 6) P := by
  obtain ⟨th, ap, pt, hs, nu, f, hC, hq, hM⟩ := hL
  obtain ⟨g, sn, kp, tx, ln⟩ := z
  replace hM : M = RM M m sA tA nA th (nI sn) (bI kp) (nI ln) ap pt hs g tx nu := hM
  have hI : BI g dn n := hC.2.2.1
  have hsn : sn ≤ 6 := hC.2.1.s6
  obtain ⟨ch, hTX⟩ := hC.2.2.2.2
  replace hTX : TX tx ln ch := hTX
  have hln := hTX.1
  refine r_aload_n dL_law_1014 rfl ?_
  refine r_aload_n dL_law_1015 rfl ?_
  refine fR_callSH (As := [.ref (ad 254), .ref q]) dL_law_1016 (tL_obey hD.1 hC hq hD.2.1) rfl oL_obey rfl kL_166M sL_obey ⟨Nat.le_of_ble_eq_true rfl, Nat.le_of_ble_eq_true rfl, show 1 ≤ _ by omega, show 6 ≤ _ by omega⟩ (Nat.le_of_ble_eq_true rfl) (fun E M9 h => by cases h.2.1) (bc' := bc) (bs' := bs) rfl rfl (fun v M1 h => ?_)
  obtain ⟨h3, hv, ⟨dn', n', hC1⟩, ⟨f1, hf1, hf0⟩, ho⟩ := h
  cases hv
  show fR _ _ _ 1019 _ (.int (nI (oObey ⟨g, sn, kp, tx, ln⟩ dn n).1) :: []) _ _ _ _
  refine r_istore (lv' := (5, .int (nI (oObey ⟨g, sn, kp, tx, ln⟩ dn n).1)) :: LV κ ad q m i) dL_law_1019 (Nat.le_of_ble_eq_true rfl) rfl ?_
  have hM1 : M1 = _ := (RM_self hD.2.2.1 hM (ho m (Ne.symm hD.2.2.2.2.1) (fun t ht => Ne.symm (hD.2.2.2.1 t ht).1)) (ho sA (Ne.symm hD.2.2.2.2.2.1) (fun t ht => Ne.symm (hD.2.2.2.1 t ht).2.1)) (ho tA (Ne.symm hD.2.2.2.2.2.2.1) (fun t ht => Ne.symm (hD.2.2.2.1 t ht).2.2.1)) (ho nA (Ne.symm hD.2.2.2.2.2.2.2) (fun t ht => Ne.symm (hD.2.2.2.1 t ht).2.2.2)))
  refine r_mem hM1 ?_
  refine r_aload_n dL_law_1021 rfl ?_
  refine r_callVP0 (As := []) dL_law_1022 (tX9_obey_o hD.2.2.1 hI hsn hln hTX) rfl RM_0 rfl rfl oX9_obey rfl kL_169M nX9_obey eX9_obey ⟨Nat.le_of_ble_eq_true rfl, Nat.le_of_ble_eq_true rfl, Nat.zero_le _, Nat.zero_le _⟩ (Nat.le_of_ble_eq_true rfl) (bc' := bc) (bs' := bs) rfl rfl (fun E M9 h => by obtain ⟨_, _, _, _, h, _⟩ := h; cases h) (fun v M2 h => ?_)
  obtain ⟨ap2, pt2, hs2, nu2, hv2, hM2⟩ := h
  cases hv2
  subst hM2
  show fR _ _ _ 1025 _ (.int (oObey ⟨g, sn, kp, tx, ln⟩ dn n).2.1 :: []) _ _ _ _
  refine r_istore (lv' := (6, .int (oObey ⟨g, sn, kp, tx, ln⟩ dn n).2.1) :: (5, .int (nI (oObey ⟨g, sn, kp, tx, ln⟩ dn n).1)) :: LV κ ad q m i) dL_law_1025 (Nat.le_of_ble_eq_true rfl) rfl ?_
  exact law_tail hD hC1 h3 hf1 hf0 dL_law_1027 dL_law_1028 dL_law_1031 dL_law_1033 dL_law_1038 dL_law_1040 dL_law_1043 dL_law_1044 dL_law_1045 dL_law_1046 dL_law_1048 dL_law_1049 dL_law_1050 dL_law_1055 (by decide) (fun M2 h => kk _ _ _ M2 h)
theorem lL_op16 {nm : String} {hh : List (Nat × Nat × Nat × Nat)} {l : Launch} {κ : KP} {ad : Nat → Nat} {q m sA tA nA i bc bs : Nat} {M : Mem} {z : Zs} {dn n : Nat} {P : FPost} (hD : LD ad q m sA tA nA) (hL : LI κ ad q m sA tA nA M z dn n) (hi : i + 5 ≤ kL κ) (hk : kL κ ≤ 2560) (kk : ∀ (z' : Zs) (dn' n' : Nat) (M2 : Mem), LI κ ad q m sA tA nA M2 z' dn' n' → fR l κ (mL_law nm hh) 2098 (LV κ ad q m i) [] M2 bc bs P) : fR l κ (mL_law nm hh) 1058 (LV κ ad q m i) [] M (bc + 1) (bs + 6) P := by
  obtain ⟨th, ap, pt, hs, nu, f, hC, hq, hM⟩ := hL
  obtain ⟨g, sn, kp, tx, ln⟩ := z
  replace hM : M = RM M m sA tA nA th (nI sn) (bI kp) (nI ln) ap pt hs g tx nu := hM
  have hI : BI g dn n := hC.2.2.1
  have hsn : sn ≤ 6 := hC.2.1.s6
  obtain ⟨ch, hTX⟩ := hC.2.2.2.2
  replace hTX : TX tx ln ch := hTX
  have hln := hTX.1
  refine r_aload_n dL_law_1058 rfl ?_
  refine r_aload_n dL_law_1059 rfl ?_
  refine r_iload dL_law_1060 rfl ?_
  refine r_iconst (v := nI 1) dL_law_1062 (by decide) ?_
  refine r_iaddN dL_law_1063 ?_
  refine r_sld dL_law_1064 (vp_in_nI (by omega) (by omega)) ?_
  refine r_top (y := kX κ (i + 1)) (by rw [nI_clamp (by omega)]) ?_
  refine r_aload_n dL_law_1065 rfl ?_
  refine fR_callSH (As := [.ref (ad 254), .int (kX κ (i + 1)), .ref q]) dL_law_1066 (tL_stopped hD.1 hC hq hD.2.1) rfl oL_stopped rfl kL_170M sL_stopped ⟨Nat.le_of_ble_eq_true rfl, Nat.le_of_ble_eq_true rfl, show 1 ≤ _ by omega, show 6 ≤ _ by omega⟩ (Nat.le_of_ble_eq_true rfl) (fun E M9 h => by cases h.2.1) (bc' := bc) (bs' := bs) rfl rfl (fun v M1 h => ?_)
  obtain ⟨h3, hv, ⟨dn', n', hC1⟩, ⟨f1, hf1, hf0⟩, ho⟩ := h
  cases hv
  show fR _ _ _ 1069 _ (.int (nI (oStopped ⟨g, sn, kp, tx, ln⟩ dn n (kX κ (i + 1))).1) :: []) _ _ _ _
  refine r_istore (lv' := (5, .int (nI (oStopped ⟨g, sn, kp, tx, ln⟩ dn n (kX κ (i + 1))).1)) :: LV κ ad q m i) dL_law_1069 (Nat.le_of_ble_eq_true rfl) rfl ?_
  have hM1 : M1 = _ := (RM_self hD.2.2.1 hM (ho m (Ne.symm hD.2.2.2.2.1) (fun t ht => Ne.symm (hD.2.2.2.1 t ht).1)) (ho sA (Ne.symm hD.2.2.2.2.2.1) (fun t ht => Ne.symm (hD.2.2.2.1 t ht).2.1)) (ho tA (Ne.symm hD.2.2.2.2.2.2.1) (fun t ht => Ne.symm (hD.2.2.2.1 t ht).2.2.1)) (ho nA (Ne.symm hD.2.2.2.2.2.2.2) (fun t ht => Ne.symm (hD.2.2.2.1 t ht).2.2.2)))
  refine r_mem hM1 ?_
  refine r_aload_n dL_law_1071 rfl ?_
  refine r_aload_n dL_law_1072 rfl ?_
  refine r_iload dL_law_1073 rfl ?_
  refine r_iconst (v := nI 1) dL_law_1075 (by decide) ?_
  refine r_iaddN dL_law_1076 ?_
  refine r_sld dL_law_1077 (vp_in_nI (by omega) (by omega)) ?_
  refine r_top (y := kX κ (i + 1)) (by rw [nI_clamp (by omega)]) ?_
  refine r_callVP0 (As := [.int (kX κ (i + 1))]) dL_law_1078 (tX9_stopped_o hD.2.2.1 hI hsn hln) rfl RM_0 rfl rfl oX9_stopped rfl kL_172M nX9_stopped eX9_stopped ⟨Nat.le_of_ble_eq_true rfl, Nat.le_of_ble_eq_true rfl, Nat.zero_le _, Nat.zero_le _⟩ (Nat.le_of_ble_eq_true rfl) (bc' := bc) (bs' := bs) rfl rfl (fun E M9 h => by obtain ⟨_, _, _, _, h, _⟩ := h; cases h) (fun v M2 h => ?_)
  obtain ⟨ap2, pt2, hs2, nu2, hv2, hM2⟩ := h
  cases hv2
  subst hM2
  show fR _ _ _ 1081 _ (.int (oStopped ⟨g, sn, kp, tx, ln⟩ dn n (kX κ (i + 1))).2.1 :: []) _ _ _ _
  refine r_istore (lv' := (6, .int (oStopped ⟨g, sn, kp, tx, ln⟩ dn n (kX κ (i + 1))).2.1) :: (5, .int (nI (oStopped ⟨g, sn, kp, tx, ln⟩ dn n (kX κ (i + 1))).1)) :: LV κ ad q m i) dL_law_1081 (Nat.le_of_ble_eq_true rfl) rfl ?_
  exact law_tail hD hC1 h3 hf1 hf0 dL_law_1083 dL_law_1084 dL_law_1087 dL_law_1089 dL_law_1094 dL_law_1096 dL_law_1099 dL_law_1100 dL_law_1101 dL_law_1102 dL_law_1104 dL_law_1105 dL_law_1106 dL_law_1111 (by decide) (fun M2 h => kk _ _ _ M2 h)
theorem lL_op17 {nm : String} {hh : List (Nat × Nat × Nat × Nat)} {l : Launch} {κ : KP} {ad : Nat → Nat} {q m sA tA nA i bc bs : Nat} {M : Mem} {z : Zs} {dn n : Nat} {P : FPost} (hD : LD ad q m sA tA nA) (hL : LI κ ad q m sA tA nA M z dn n) (hi : i + 5 ≤ kL κ) (hk : kL κ ≤ 2560) (kk : ∀ (z' : Zs) (dn' n' : Nat) (M2 : Mem), LI κ ad q m sA tA nA M2 z' dn' n' → fR l κ (mL_law nm hh) 2098 (LV κ ad q m i) [] M2 bc bs P) : fR l κ (mL_law nm hh) 1114 (LV κ ad q m i) [] M (bc + 1) (bs + 6) P := by
  obtain ⟨th, ap, pt, hs, nu, f, hC, hq, hM⟩ := hL
  obtain ⟨g, sn, kp, tx, ln⟩ := z
  replace hM : M = RM M m sA tA nA th (nI sn) (bI kp) (nI ln) ap pt hs g tx nu := hM
  have hI : BI g dn n := hC.2.2.1
  have hsn : sn ≤ 6 := hC.2.1.s6
  obtain ⟨ch, hTX⟩ := hC.2.2.2.2
  replace hTX : TX tx ln ch := hTX
  have hln := hTX.1
  refine r_aload_n dL_law_1114 rfl ?_
  refine r_aload_n dL_law_1115 rfl ?_
  refine fR_callSH (As := [.ref (ad 254), .ref q]) dL_law_1116 (tL_undo hD.1 hC hq hD.2.1) rfl oL_undo rfl kL_173M sL_undo ⟨Nat.le_of_ble_eq_true rfl, Nat.le_of_ble_eq_true rfl, show 1 ≤ _ by omega, show 6 ≤ _ by omega⟩ (Nat.le_of_ble_eq_true rfl) (fun E M9 h => by cases h.2.1) (bc' := bc) (bs' := bs) rfl rfl (fun v M1 h => ?_)
  obtain ⟨h3, hv, ⟨dn', n', hC1⟩, ⟨f1, hf1, hf0⟩, ho⟩ := h
  cases hv
  show fR _ _ _ 1119 _ (.int (nI (oUndo ⟨g, sn, kp, tx, ln⟩ dn n).1) :: []) _ _ _ _
  refine r_istore (lv' := (5, .int (nI (oUndo ⟨g, sn, kp, tx, ln⟩ dn n).1)) :: LV κ ad q m i) dL_law_1119 (Nat.le_of_ble_eq_true rfl) rfl ?_
  have hM1 : M1 = _ := (RM_self hD.2.2.1 hM (ho m (Ne.symm hD.2.2.2.2.1) (fun t ht => Ne.symm (hD.2.2.2.1 t ht).1)) (ho sA (Ne.symm hD.2.2.2.2.2.1) (fun t ht => Ne.symm (hD.2.2.2.1 t ht).2.1)) (ho tA (Ne.symm hD.2.2.2.2.2.2.1) (fun t ht => Ne.symm (hD.2.2.2.1 t ht).2.2.1)) (ho nA (Ne.symm hD.2.2.2.2.2.2.2) (fun t ht => Ne.symm (hD.2.2.2.1 t ht).2.2.2)))
  refine r_mem hM1 ?_
  refine r_aload_n dL_law_1121 rfl ?_
  refine r_callVP0 (As := []) dL_law_1122 (tX9_undo_o hD.2.2.1 hI hsn hln) rfl RM_0 rfl rfl oX9_undo rfl kL_175M nX9_undo eX9_undo ⟨Nat.le_of_ble_eq_true rfl, Nat.le_of_ble_eq_true rfl, Nat.zero_le _, Nat.zero_le _⟩ (Nat.le_of_ble_eq_true rfl) (bc' := bc) (bs' := bs) rfl rfl (fun E M9 h => by obtain ⟨_, _, _, _, h, _⟩ := h; cases h) (fun v M2 h => ?_)
  obtain ⟨ap2, pt2, hs2, nu2, hv2, hM2⟩ := h
  cases hv2
  subst hM2
  show fR _ _ _ 1125 _ (.int (oUndo ⟨g, sn, kp, tx, ln⟩ dn n).2.1 :: []) _ _ _ _
  refine r_istore (lv' := (6, .int (oUndo ⟨g, sn, kp, tx, ln⟩ dn n).2.1) :: (5, .int (nI (oUndo ⟨g, sn, kp, tx, ln⟩ dn n).1)) :: LV κ ad q m i) dL_law_1125 (Nat.le_of_ble_eq_true rfl) rfl ?_
  exact law_tail hD hC1 h3 hf1 hf0 dL_law_1127 dL_law_1128 dL_law_1131 dL_law_1133 dL_law_1138 dL_law_1140 dL_law_1143 dL_law_1144 dL_law_1145 dL_law_1146 dL_law_1148 dL_law_1149 dL_law_1150 dL_law_1155 (by decide) (fun M2 h => kk _ _ _ M2 h)
theorem lL_op18 {nm : String} {hh : List (Nat × Nat × Nat × Nat)} {l : Launch} {κ : KP} {ad : Nat → Nat} {q m sA tA nA i bc bs : Nat} {M : Mem} {z : Zs} {dn n : Nat} {P : FPost} (hD : LD ad q m sA tA nA) (hL : LI κ ad q m sA tA nA M z dn n) (hi : i + 5 ≤ kL κ) (hk : kL κ ≤ 2560) (kk : ∀ (z' : Zs) (dn' n' : Nat) (M2 : Mem), LI κ ad q m sA tA nA M2 z' dn' n' → fR l κ (mL_law nm hh) 2098 (LV κ ad q m i) [] M2 bc bs P) : fR l κ (mL_law nm hh) 1158 (LV κ ad q m i) [] M (bc + 0) (bs + 0) P := by
  obtain ⟨th, ap, pt, hs, nu, f, hC, hq, hM⟩ := hL
  obtain ⟨g, sn, kp, tx, ln⟩ := z
  replace hM : M = RM M m sA tA nA th (nI sn) (bI kp) (nI ln) ap pt hs g tx nu := hM
  have hI : BI g dn n := hC.2.2.1
  have hsn : sn ≤ 6 := hC.2.1.s6
  obtain ⟨ch, hTX⟩ := hC.2.2.2.2
  replace hTX : TX tx ln ch := hTX
  have hln := hTX.1
  refine r_aload_n dL_law_1158 rfl ?_
  refine r_callVP0 (As := []) dL_law_1159 (tX8_keep hD.1 hC) rfl hC.1 rfl rfl oX8_keep rfl kL_176M nX8_keep eX8_keep ⟨Nat.le_of_ble_eq_true rfl, Nat.le_of_ble_eq_true rfl, Nat.zero_le _, Nat.zero_le _⟩ (Nat.le_of_ble_eq_true rfl) (bc' := bc) (bs' := bs) rfl rfl (fun E M9 h => by rcases h with ⟨_, _, ⟨_, h⟩ | ⟨h, _⟩⟩; cases h; exact h rfl) (fun v M1 h => ?_)
  obtain ⟨⟨dn', n', hC1⟩, ho, ⟨-, hv⟩ | ⟨h, -⟩⟩ := h
  case inr => exact absurd rfl h
  cases hv
  show fR _ _ _ 1162 _ (.int (oKeep ⟨g, sn, kp, tx, ln⟩ dn n).2.1 :: []) _ _ _ _
  have ho' : ∀ b, b ≠ q → (∀ t, t < 256 → b ≠ ad t) → M1 b = M b := fun b _ hb => ho b hb
  have hM1 : M1 = _ := (RM_self hD.2.2.1 hM (ho' m (Ne.symm hD.2.2.2.2.1) (fun t ht => Ne.symm (hD.2.2.2.1 t ht).1)) (ho' sA (Ne.symm hD.2.2.2.2.2.1) (fun t ht => Ne.symm (hD.2.2.2.1 t ht).2.1)) (ho' tA (Ne.symm hD.2.2.2.2.2.2.1) (fun t ht => Ne.symm (hD.2.2.2.1 t ht).2.2.1)) (ho' nA (Ne.symm hD.2.2.2.2.2.2.2) (fun t ht => Ne.symm (hD.2.2.2.1 t ht).2.2.2)))
  have hq1 := (ho q hD.2.1).trans hq
  refine r_mem hM1 ?_
  refine r_aload_n dL_law_1162 rfl ?_
  refine r_callVP0 (As := []) dL_law_1163 (tX9_keep_o hD.2.2.1 hI hsn hln) rfl RM_0 rfl rfl oX9_keep rfl kL_179M nX9_keep eX9_keep ⟨Nat.le_of_ble_eq_true rfl, Nat.le_of_ble_eq_true rfl, Nat.zero_le _, Nat.zero_le _⟩ (Nat.le_of_ble_eq_true rfl) (bc' := bc) (bs' := bs) rfl rfl (fun E M9 h => by obtain ⟨_, _, _, _, h, _⟩ := h; cases h) (fun v M2 h => ?_)
  obtain ⟨ap2, pt2, hs2, nu2, hv2, hM2⟩ := h
  cases hv2
  subst hM2
  show fR _ _ _ 1166 _ (.int (oKeep ⟨g, sn, kp, tx, ln⟩ dn n).2.1 :: .int (oKeep ⟨g, sn, kp, tx, ln⟩ dn n).2.1 :: []) _ _ _ _
  refine r_icmp_eq (tgt := 2098) dL_law_1166 (by decide) (fun _ => ?_) (fun c => absurd rfl c)
  exact kk (oKeep ⟨g, sn, kp, tx, ln⟩ dn n).2.2 dn' n' _ (LI.rm (z' := (oKeep ⟨g, sn, kp, tx, ln⟩ dn n).2.2) hD hC1 hq1)
theorem lL_op19 {nm : String} {hh : List (Nat × Nat × Nat × Nat)} {l : Launch} {κ : KP} {ad : Nat → Nat} {q m sA tA nA i bc bs : Nat} {M : Mem} {z : Zs} {dn n : Nat} {P : FPost} (hD : LD ad q m sA tA nA) (hL : LI κ ad q m sA tA nA M z dn n) (hi : i + 5 ≤ kL κ) (hk : kL κ ≤ 2560) (kk : ∀ (z' : Zs) (dn' n' : Nat) (M2 : Mem), LI κ ad q m sA tA nA M2 z' dn' n' → fR l κ (mL_law nm hh) 2098 (LV κ ad q m i) [] M2 bc bs P) : fR l κ (mL_law nm hh) 1171 (LV κ ad q m i) [] M (bc + 1) (bs + 6) P := by
  obtain ⟨th, ap, pt, hs, nu, f, hC, hq, hM⟩ := hL
  obtain ⟨g, sn, kp, tx, ln⟩ := z
  replace hM : M = RM M m sA tA nA th (nI sn) (bI kp) (nI ln) ap pt hs g tx nu := hM
  have hI : BI g dn n := hC.2.2.1
  have hsn : sn ≤ 6 := hC.2.1.s6
  obtain ⟨ch, hTX⟩ := hC.2.2.2.2
  replace hTX : TX tx ln ch := hTX
  have hln := hTX.1
  refine r_aload_n dL_law_1171 rfl ?_
  refine r_aload_n dL_law_1172 rfl ?_
  refine fR_callSH (As := [.ref (ad 254), .ref q]) dL_law_1173 (tL_restore hD.1 hC hq hD.2.1) rfl oL_restore rfl kL_180M sL_restore ⟨Nat.le_of_ble_eq_true rfl, Nat.le_of_ble_eq_true rfl, show 1 ≤ _ by omega, show 6 ≤ _ by omega⟩ (Nat.le_of_ble_eq_true rfl) (fun E M9 h => by cases h.2.1) (bc' := bc) (bs' := bs) rfl rfl (fun v M1 h => ?_)
  obtain ⟨h3, hv, ⟨dn', n', hC1⟩, ⟨f1, hf1, hf0⟩, ho⟩ := h
  cases hv
  show fR _ _ _ 1176 _ (.int (nI (oRestore ⟨g, sn, kp, tx, ln⟩ dn n).1) :: []) _ _ _ _
  refine r_istore (lv' := (5, .int (nI (oRestore ⟨g, sn, kp, tx, ln⟩ dn n).1)) :: LV κ ad q m i) dL_law_1176 (Nat.le_of_ble_eq_true rfl) rfl ?_
  have hM1 : M1 = _ := (RM_self hD.2.2.1 hM (ho m (Ne.symm hD.2.2.2.2.1) (fun t ht => Ne.symm (hD.2.2.2.1 t ht).1)) (ho sA (Ne.symm hD.2.2.2.2.2.1) (fun t ht => Ne.symm (hD.2.2.2.1 t ht).2.1)) (ho tA (Ne.symm hD.2.2.2.2.2.2.1) (fun t ht => Ne.symm (hD.2.2.2.1 t ht).2.2.1)) (ho nA (Ne.symm hD.2.2.2.2.2.2.2) (fun t ht => Ne.symm (hD.2.2.2.1 t ht).2.2.2)))
  refine r_mem hM1 ?_
  refine r_aload_n dL_law_1178 rfl ?_
  refine r_callVP0 (As := []) dL_law_1179 (tX9_restore_o hD.2.2.1 hI hsn hln) rfl RM_0 rfl rfl oX9_restore rfl kL_182M nX9_restore eX9_restore ⟨Nat.le_of_ble_eq_true rfl, Nat.le_of_ble_eq_true rfl, Nat.zero_le _, Nat.zero_le _⟩ (Nat.le_of_ble_eq_true rfl) (bc' := bc) (bs' := bs) rfl rfl (fun E M9 h => by obtain ⟨_, _, _, _, h, _⟩ := h; cases h) (fun v M2 h => ?_)
  obtain ⟨ap2, pt2, hs2, nu2, hv2, hM2⟩ := h
  cases hv2
  subst hM2
  show fR _ _ _ 1182 _ (.int (oRestore ⟨g, sn, kp, tx, ln⟩ dn n).2.1 :: []) _ _ _ _
  refine r_istore (lv' := (6, .int (oRestore ⟨g, sn, kp, tx, ln⟩ dn n).2.1) :: (5, .int (nI (oRestore ⟨g, sn, kp, tx, ln⟩ dn n).1)) :: LV κ ad q m i) dL_law_1182 (Nat.le_of_ble_eq_true rfl) rfl ?_
  exact law_tail hD hC1 h3 hf1 hf0 dL_law_1184 dL_law_1185 dL_law_1188 dL_law_1190 dL_law_1195 dL_law_1197 dL_law_1200 dL_law_1201 dL_law_1202 dL_law_1203 dL_law_1205 dL_law_1206 dL_law_1207 dL_law_1212 (by decide) (fun M2 h => kk _ _ _ M2 h)
theorem lL_op20 {nm : String} {hh : List (Nat × Nat × Nat × Nat)} {l : Launch} {κ : KP} {ad : Nat → Nat} {q m sA tA nA i bc bs : Nat} {M : Mem} {z : Zs} {dn n : Nat} {P : FPost} (hD : LD ad q m sA tA nA) (hL : LI κ ad q m sA tA nA M z dn n) (hi : i + 5 ≤ kL κ) (hk : kL κ ≤ 2560) (kk : ∀ (z' : Zs) (dn' n' : Nat) (M2 : Mem), LI κ ad q m sA tA nA M2 z' dn' n' → fR l κ (mL_law nm hh) 2098 (LV κ ad q m i) [] M2 bc bs P) : fR l κ (mL_law nm hh) 1215 (LV κ ad q m i) [] M (bc + 2) (bs + 12) P := by
  obtain ⟨th, ap, pt, hs, nu, f, hC, hq, hM⟩ := hL
  obtain ⟨g, sn, kp, tx, ln⟩ := z
  replace hM : M = RM M m sA tA nA th (nI sn) (bI kp) (nI ln) ap pt hs g tx nu := hM
  have hI : BI g dn n := hC.2.2.1
  have hsn : sn ≤ 6 := hC.2.1.s6
  obtain ⟨ch, hTX⟩ := hC.2.2.2.2
  replace hTX : TX tx ln ch := hTX
  have hln := hTX.1
  refine r_aload_n dL_law_1215 rfl ?_
  refine r_aload_n dL_law_1216 rfl ?_
  refine r_iload dL_law_1217 rfl ?_
  refine r_iconst (v := nI 1) dL_law_1219 (by decide) ?_
  refine r_iaddN dL_law_1220 ?_
  refine r_sld dL_law_1221 (vp_in_nI (by omega) (by omega)) ?_
  refine r_top (y := kX κ (i + 1)) (by rw [nI_clamp (by omega)]) ?_
  refine r_aload_n dL_law_1222 rfl ?_
  refine r_iload dL_law_1223 rfl ?_
  refine r_iconst (v := nI 2) dL_law_1225 (by decide) ?_
  refine r_iaddN dL_law_1226 ?_
  refine r_sld dL_law_1227 (vp_in_nI (by omega) (by omega)) ?_
  refine r_top (y := kX κ (i + 2)) (by rw [nI_clamp (by omega)]) ?_
  refine r_aload_n dL_law_1228 rfl ?_
  refine fR_callSH (As := [.ref (ad 254), .int (kX κ (i + 1)), .int (kX κ (i + 2)), .ref q]) dL_law_1229 (tL_drumOf hD.1 hC hq hD.2.1) rfl oL_drumOf rfl kL_183M sL_drumOf ⟨Nat.le_of_ble_eq_true rfl, Nat.le_of_ble_eq_true rfl, show 2 ≤ _ by omega, show 12 ≤ _ by omega⟩ (Nat.le_of_ble_eq_true rfl) (fun E M9 h => by cases h.2.1) (bc' := bc) (bs' := bs) rfl rfl (fun v M1 h => ?_)
  obtain ⟨h3, hv, ⟨dn', n', hC1⟩, ⟨f1, hf1, hf0⟩, ho⟩ := h
  cases hv
  show fR _ _ _ 1232 _ (.int (nI (oDrumOf ⟨g, sn, kp, tx, ln⟩ dn n (kX κ (i + 1)) (kX κ (i + 2))).1) :: []) _ _ _ _
  refine r_istore (lv' := (5, .int (nI (oDrumOf ⟨g, sn, kp, tx, ln⟩ dn n (kX κ (i + 1)) (kX κ (i + 2))).1)) :: LV κ ad q m i) dL_law_1232 (Nat.le_of_ble_eq_true rfl) rfl ?_
  have hM1 : M1 = _ := (RM_self hD.2.2.1 hM (ho m (Ne.symm hD.2.2.2.2.1) (fun t ht => Ne.symm (hD.2.2.2.1 t ht).1)) (ho sA (Ne.symm hD.2.2.2.2.2.1) (fun t ht => Ne.symm (hD.2.2.2.1 t ht).2.1)) (ho tA (Ne.symm hD.2.2.2.2.2.2.1) (fun t ht => Ne.symm (hD.2.2.2.1 t ht).2.2.1)) (ho nA (Ne.symm hD.2.2.2.2.2.2.2) (fun t ht => Ne.symm (hD.2.2.2.1 t ht).2.2.2)))
  refine r_mem hM1 ?_
  refine r_aload_n dL_law_1234 rfl ?_
  refine r_aload_n dL_law_1235 rfl ?_
  refine r_iload dL_law_1236 rfl ?_
  refine r_iconst (v := nI 1) dL_law_1238 (by decide) ?_
  refine r_iaddN dL_law_1239 ?_
  refine r_sld dL_law_1240 (vp_in_nI (by omega) (by omega)) ?_
  refine r_top (y := kX κ (i + 1)) (by rw [nI_clamp (by omega)]) ?_
  refine r_aload_n dL_law_1241 rfl ?_
  refine r_iload dL_law_1242 rfl ?_
  refine r_iconst (v := nI 2) dL_law_1244 (by decide) ?_
  refine r_iaddN dL_law_1245 ?_
  refine r_sld dL_law_1246 (vp_in_nI (by omega) (by omega)) ?_
  refine r_top (y := kX κ (i + 2)) (by rw [nI_clamp (by omega)]) ?_
  refine r_callVP0 (As := [.int (kX κ (i + 1)), .int (kX κ (i + 2))]) dL_law_1247 (tX9_drumOf_o hD.2.2.1 hI hsn hln) rfl RM_0 rfl rfl oX9_drumOf rfl kL_185M nX9_drumOf eX9_drumOf ⟨Nat.le_of_ble_eq_true rfl, Nat.le_of_ble_eq_true rfl, Nat.zero_le _, Nat.zero_le _⟩ (Nat.le_of_ble_eq_true rfl) (bc' := bc) (bs' := bs) rfl rfl (fun E M9 h => by obtain ⟨_, _, _, _, h, _⟩ := h; cases h) (fun v M2 h => ?_)
  obtain ⟨ap2, pt2, hs2, nu2, hv2, hM2⟩ := h
  cases hv2
  subst hM2
  show fR _ _ _ 1250 _ (.int (oDrumOf ⟨g, sn, kp, tx, ln⟩ dn n (kX κ (i + 1)) (kX κ (i + 2))).2.1 :: []) _ _ _ _
  refine r_istore (lv' := (6, .int (oDrumOf ⟨g, sn, kp, tx, ln⟩ dn n (kX κ (i + 1)) (kX κ (i + 2))).2.1) :: (5, .int (nI (oDrumOf ⟨g, sn, kp, tx, ln⟩ dn n (kX κ (i + 1)) (kX κ (i + 2))).1)) :: LV κ ad q m i) dL_law_1250 (Nat.le_of_ble_eq_true rfl) rfl ?_
  exact law_tail hD hC1 h3 hf1 hf0 dL_law_1252 dL_law_1253 dL_law_1256 dL_law_1258 dL_law_1263 dL_law_1265 dL_law_1268 dL_law_1269 dL_law_1270 dL_law_1271 dL_law_1273 dL_law_1274 dL_law_1275 dL_law_1280 (by decide) (fun M2 h => kk _ _ _ M2 h)
theorem lL_op21 {nm : String} {hh : List (Nat × Nat × Nat × Nat)} {l : Launch} {κ : KP} {ad : Nat → Nat} {q m sA tA nA i bc bs : Nat} {M : Mem} {z : Zs} {dn n : Nat} {P : FPost} (hD : LD ad q m sA tA nA) (hL : LI κ ad q m sA tA nA M z dn n) (hi : i + 5 ≤ kL κ) (hk : kL κ ≤ 2560) (kk : ∀ (z' : Zs) (dn' n' : Nat) (M2 : Mem), LI κ ad q m sA tA nA M2 z' dn' n' → fR l κ (mL_law nm hh) 2098 (LV κ ad q m i) [] M2 bc bs P) : fR l κ (mL_law nm hh) 1283 (LV κ ad q m i) [] M (bc + 2) (bs + 12) P := by
  obtain ⟨th, ap, pt, hs, nu, f, hC, hq, hM⟩ := hL
  obtain ⟨g, sn, kp, tx, ln⟩ := z
  replace hM : M = RM M m sA tA nA th (nI sn) (bI kp) (nI ln) ap pt hs g tx nu := hM
  have hI : BI g dn n := hC.2.2.1
  have hsn : sn ≤ 6 := hC.2.1.s6
  obtain ⟨ch, hTX⟩ := hC.2.2.2.2
  replace hTX : TX tx ln ch := hTX
  have hln := hTX.1
  refine r_aload_n dL_law_1283 rfl ?_
  refine r_aload_n dL_law_1284 rfl ?_
  refine r_iload dL_law_1285 rfl ?_
  refine r_iconst (v := nI 1) dL_law_1287 (by decide) ?_
  refine r_iaddN dL_law_1288 ?_
  refine r_sld dL_law_1289 (vp_in_nI (by omega) (by omega)) ?_
  refine r_top (y := kX κ (i + 1)) (by rw [nI_clamp (by omega)]) ?_
  refine r_aload_n dL_law_1290 rfl ?_
  refine r_iload dL_law_1291 rfl ?_
  refine r_iconst (v := nI 2) dL_law_1293 (by decide) ?_
  refine r_iaddN dL_law_1294 ?_
  refine r_sld dL_law_1295 (vp_in_nI (by omega) (by omega)) ?_
  refine r_top (y := kX κ (i + 2)) (by rw [nI_clamp (by omega)]) ?_
  refine r_aload_n dL_law_1296 rfl ?_
  refine fR_callSH (As := [.ref (ad 254), .int (kX κ (i + 1)), .int (kX κ (i + 2)), .ref q]) dL_law_1297 (tL_sampleOf hD.1 hC hq hD.2.1) rfl oL_sampleOf rfl kL_186M sL_sampleOf ⟨Nat.le_of_ble_eq_true rfl, Nat.le_of_ble_eq_true rfl, show 2 ≤ _ by omega, show 12 ≤ _ by omega⟩ (Nat.le_of_ble_eq_true rfl) (fun E M9 h => by cases h.2.1) (bc' := bc) (bs' := bs) rfl rfl (fun v M1 h => ?_)
  obtain ⟨h3, hv, ⟨dn', n', hC1⟩, ⟨f1, hf1, hf0⟩, ho⟩ := h
  cases hv
  show fR _ _ _ 1300 _ (.int (nI (oSampleOf ⟨g, sn, kp, tx, ln⟩ dn n (kX κ (i + 1)) (kX κ (i + 2))).1) :: []) _ _ _ _
  refine r_istore (lv' := (5, .int (nI (oSampleOf ⟨g, sn, kp, tx, ln⟩ dn n (kX κ (i + 1)) (kX κ (i + 2))).1)) :: LV κ ad q m i) dL_law_1300 (Nat.le_of_ble_eq_true rfl) rfl ?_
  have hM1 : M1 = _ := (RM_self hD.2.2.1 hM (ho m (Ne.symm hD.2.2.2.2.1) (fun t ht => Ne.symm (hD.2.2.2.1 t ht).1)) (ho sA (Ne.symm hD.2.2.2.2.2.1) (fun t ht => Ne.symm (hD.2.2.2.1 t ht).2.1)) (ho tA (Ne.symm hD.2.2.2.2.2.2.1) (fun t ht => Ne.symm (hD.2.2.2.1 t ht).2.2.1)) (ho nA (Ne.symm hD.2.2.2.2.2.2.2) (fun t ht => Ne.symm (hD.2.2.2.1 t ht).2.2.2)))
  refine r_mem hM1 ?_
  refine r_aload_n dL_law_1302 rfl ?_
  refine r_aload_n dL_law_1303 rfl ?_
  refine r_iload dL_law_1304 rfl ?_
  refine r_iconst (v := nI 1) dL_law_1306 (by decide) ?_
  refine r_iaddN dL_law_1307 ?_
  refine r_sld dL_law_1308 (vp_in_nI (by omega) (by omega)) ?_
  refine r_top (y := kX κ (i + 1)) (by rw [nI_clamp (by omega)]) ?_
  refine r_aload_n dL_law_1309 rfl ?_
  refine r_iload dL_law_1310 rfl ?_
  refine r_iconst (v := nI 2) dL_law_1312 (by decide) ?_
  refine r_iaddN dL_law_1313 ?_
  refine r_sld dL_law_1314 (vp_in_nI (by omega) (by omega)) ?_
  refine r_top (y := kX κ (i + 2)) (by rw [nI_clamp (by omega)]) ?_
  refine r_callVP0 (As := [.int (kX κ (i + 1)), .int (kX κ (i + 2))]) dL_law_1315 (tX9_sampleOf_o hD.2.2.1 hI hsn hln) rfl RM_0 rfl rfl oX9_sampleOf rfl kL_188M nX9_sampleOf eX9_sampleOf ⟨Nat.le_of_ble_eq_true rfl, Nat.le_of_ble_eq_true rfl, Nat.zero_le _, Nat.zero_le _⟩ (Nat.le_of_ble_eq_true rfl) (bc' := bc) (bs' := bs) rfl rfl (fun E M9 h => by obtain ⟨_, _, _, _, h, _⟩ := h; cases h) (fun v M2 h => ?_)
  obtain ⟨ap2, pt2, hs2, nu2, hv2, hM2⟩ := h
  cases hv2
  subst hM2
  show fR _ _ _ 1318 _ (.int (oSampleOf ⟨g, sn, kp, tx, ln⟩ dn n (kX κ (i + 1)) (kX κ (i + 2))).2.1 :: []) _ _ _ _
  refine r_istore (lv' := (6, .int (oSampleOf ⟨g, sn, kp, tx, ln⟩ dn n (kX κ (i + 1)) (kX κ (i + 2))).2.1) :: (5, .int (nI (oSampleOf ⟨g, sn, kp, tx, ln⟩ dn n (kX κ (i + 1)) (kX κ (i + 2))).1)) :: LV κ ad q m i) dL_law_1318 (Nat.le_of_ble_eq_true rfl) rfl ?_
  exact law_tail hD hC1 h3 hf1 hf0 dL_law_1320 dL_law_1321 dL_law_1324 dL_law_1326 dL_law_1331 dL_law_1333 dL_law_1336 dL_law_1337 dL_law_1338 dL_law_1339 dL_law_1341 dL_law_1342 dL_law_1343 dL_law_1348 (by decide) (fun M2 h => kk _ _ _ M2 h)
theorem lL_op22 {nm : String} {hh : List (Nat × Nat × Nat × Nat)} {l : Launch} {κ : KP} {ad : Nat → Nat} {q m sA tA nA i bc bs : Nat} {M : Mem} {z : Zs} {dn n : Nat} {P : FPost} (hD : LD ad q m sA tA nA) (hL : LI κ ad q m sA tA nA M z dn n) (hi : i + 5 ≤ kL κ) (hk : kL κ ≤ 2560) (kk : ∀ (z' : Zs) (dn' n' : Nat) (M2 : Mem), LI κ ad q m sA tA nA M2 z' dn' n' → fR l κ (mL_law nm hh) 2098 (LV κ ad q m i) [] M2 bc bs P) : fR l κ (mL_law nm hh) 1351 (LV κ ad q m i) [] M (bc + 3) (bs + 18) P := by
  obtain ⟨th, ap, pt, hs, nu, f, hC, hq, hM⟩ := hL
  obtain ⟨g, sn, kp, tx, ln⟩ := z
  replace hM : M = RM M m sA tA nA th (nI sn) (bI kp) (nI ln) ap pt hs g tx nu := hM
  have hI : BI g dn n := hC.2.2.1
  have hsn : sn ≤ 6 := hC.2.1.s6
  obtain ⟨ch, hTX⟩ := hC.2.2.2.2
  replace hTX : TX tx ln ch := hTX
  have hln := hTX.1
  refine r_aload_n dL_law_1351 rfl ?_
  refine r_aload_n dL_law_1352 rfl ?_
  refine r_iload dL_law_1353 rfl ?_
  refine r_iconst (v := nI 1) dL_law_1355 (by decide) ?_
  refine r_iaddN dL_law_1356 ?_
  refine r_sld dL_law_1357 (vp_in_nI (by omega) (by omega)) ?_
  refine r_top (y := kX κ (i + 1)) (by rw [nI_clamp (by omega)]) ?_
  refine r_aload_n dL_law_1358 rfl ?_
  refine r_iload dL_law_1359 rfl ?_
  refine r_iconst (v := nI 2) dL_law_1361 (by decide) ?_
  refine r_iaddN dL_law_1362 ?_
  refine r_sld dL_law_1363 (vp_in_nI (by omega) (by omega)) ?_
  refine r_top (y := kX κ (i + 2)) (by rw [nI_clamp (by omega)]) ?_
  refine r_aload_n dL_law_1364 rfl ?_
  refine r_iload dL_law_1365 rfl ?_
  refine r_iconst (v := nI 3) dL_law_1367 (by decide) ?_
  refine r_iaddN dL_law_1368 ?_
  refine r_sld dL_law_1369 (vp_in_nI (by omega) (by omega)) ?_
  refine r_top (y := kX κ (i + 3)) (by rw [nI_clamp (by omega)]) ?_
  refine r_aload_n dL_law_1370 rfl ?_
  refine fR_callSH (As := [.ref (ad 254), .int (kX κ (i + 1)), .int (kX κ (i + 2)), .int (kX κ (i + 3)), .ref q]) dL_law_1371 (tL_reading hD.1 hC hq hD.2.1) rfl oL_reading rfl kL_189M sL_reading ⟨Nat.le_of_ble_eq_true rfl, Nat.le_of_ble_eq_true rfl, show 3 ≤ _ by omega, show 18 ≤ _ by omega⟩ (Nat.le_of_ble_eq_true rfl) (fun E M9 h => by cases h.2.1) (bc' := bc) (bs' := bs) rfl rfl (fun v M1 h => ?_)
  obtain ⟨h3, hv, ⟨dn', n', hC1⟩, ⟨f1, hf1, hf0⟩, ho⟩ := h
  cases hv
  show fR _ _ _ 1374 _ (.int (nI (oReading ⟨g, sn, kp, tx, ln⟩ dn n (kX κ (i + 1)) (kX κ (i + 2)) (kX κ (i + 3))).1) :: []) _ _ _ _
  refine r_istore (lv' := (5, .int (nI (oReading ⟨g, sn, kp, tx, ln⟩ dn n (kX κ (i + 1)) (kX κ (i + 2)) (kX κ (i + 3))).1)) :: LV κ ad q m i) dL_law_1374 (Nat.le_of_ble_eq_true rfl) rfl ?_
  have hM1 : M1 = _ := (RM_self hD.2.2.1 hM (ho m (Ne.symm hD.2.2.2.2.1) (fun t ht => Ne.symm (hD.2.2.2.1 t ht).1)) (ho sA (Ne.symm hD.2.2.2.2.2.1) (fun t ht => Ne.symm (hD.2.2.2.1 t ht).2.1)) (ho tA (Ne.symm hD.2.2.2.2.2.2.1) (fun t ht => Ne.symm (hD.2.2.2.1 t ht).2.2.1)) (ho nA (Ne.symm hD.2.2.2.2.2.2.2) (fun t ht => Ne.symm (hD.2.2.2.1 t ht).2.2.2)))
  refine r_mem hM1 ?_
  refine r_aload_n dL_law_1376 rfl ?_
  refine r_aload_n dL_law_1377 rfl ?_
  refine r_iload dL_law_1378 rfl ?_
  refine r_iconst (v := nI 1) dL_law_1380 (by decide) ?_
  refine r_iaddN dL_law_1381 ?_
  refine r_sld dL_law_1382 (vp_in_nI (by omega) (by omega)) ?_
  refine r_top (y := kX κ (i + 1)) (by rw [nI_clamp (by omega)]) ?_
  refine r_aload_n dL_law_1383 rfl ?_
  refine r_iload dL_law_1384 rfl ?_
  refine r_iconst (v := nI 2) dL_law_1386 (by decide) ?_
  refine r_iaddN dL_law_1387 ?_
  refine r_sld dL_law_1388 (vp_in_nI (by omega) (by omega)) ?_
  refine r_top (y := kX κ (i + 2)) (by rw [nI_clamp (by omega)]) ?_
  refine r_aload_n dL_law_1389 rfl ?_
  refine r_iload dL_law_1390 rfl ?_
  refine r_iconst (v := nI 3) dL_law_1392 (by decide) ?_
  refine r_iaddN dL_law_1393 ?_
  refine r_sld dL_law_1394 (vp_in_nI (by omega) (by omega)) ?_
  refine r_top (y := kX κ (i + 3)) (by rw [nI_clamp (by omega)]) ?_
  refine r_callVP0 (As := [.int (kX κ (i + 1)), .int (kX κ (i + 2)), .int (kX κ (i + 3))]) dL_law_1395 (tX9_reading_o hD.2.2.1 hI hsn hln) rfl RM_0 rfl rfl oX9_reading rfl kL_192M nX9_reading eX9_reading ⟨Nat.le_of_ble_eq_true rfl, Nat.le_of_ble_eq_true rfl, Nat.zero_le _, Nat.zero_le _⟩ (Nat.le_of_ble_eq_true rfl) (bc' := bc) (bs' := bs) rfl rfl (fun E M9 h => by obtain ⟨_, _, _, _, h, _⟩ := h; cases h) (fun v M2 h => ?_)
  obtain ⟨ap2, pt2, hs2, nu2, hv2, hM2⟩ := h
  cases hv2
  subst hM2
  show fR _ _ _ 1398 _ (.int (oReading ⟨g, sn, kp, tx, ln⟩ dn n (kX κ (i + 1)) (kX κ (i + 2)) (kX κ (i + 3))).2.1 :: []) _ _ _ _
  refine r_istore (lv' := (6, .int (oReading ⟨g, sn, kp, tx, ln⟩ dn n (kX κ (i + 1)) (kX κ (i + 2)) (kX κ (i + 3))).2.1) :: (5, .int (nI (oReading ⟨g, sn, kp, tx, ln⟩ dn n (kX κ (i + 1)) (kX κ (i + 2)) (kX κ (i + 3))).1)) :: LV κ ad q m i) dL_law_1398 (Nat.le_of_ble_eq_true rfl) rfl ?_
  exact law_tail hD hC1 h3 hf1 hf0 dL_law_1400 dL_law_1401 dL_law_1404 dL_law_1406 dL_law_1411 dL_law_1413 dL_law_1416 dL_law_1417 dL_law_1418 dL_law_1419 dL_law_1421 dL_law_1422 dL_law_1423 dL_law_1428 (by decide) (fun M2 h => kk _ _ _ M2 h)
theorem lL_op23 {nm : String} {hh : List (Nat × Nat × Nat × Nat)} {l : Launch} {κ : KP} {ad : Nat → Nat} {q m sA tA nA i bc bs : Nat} {M : Mem} {z : Zs} {dn n : Nat} {P : FPost} (hD : LD ad q m sA tA nA) (hL : LI κ ad q m sA tA nA M z dn n) (hi : i + 5 ≤ kL κ) (hk : kL κ ≤ 2560) (kk : ∀ (z' : Zs) (dn' n' : Nat) (M2 : Mem), LI κ ad q m sA tA nA M2 z' dn' n' → fR l κ (mL_law nm hh) 2098 (LV κ ad q m i) [] M2 bc bs P) : fR l κ (mL_law nm hh) 1431 (LV κ ad q m i) [] M (bc + 2) (bs + 12) P := by
  obtain ⟨th, ap, pt, hs, nu, f, hC, hq, hM⟩ := hL
  obtain ⟨g, sn, kp, tx, ln⟩ := z
  replace hM : M = RM M m sA tA nA th (nI sn) (bI kp) (nI ln) ap pt hs g tx nu := hM
  have hI : BI g dn n := hC.2.2.1
  have hsn : sn ≤ 6 := hC.2.1.s6
  obtain ⟨ch, hTX⟩ := hC.2.2.2.2
  replace hTX : TX tx ln ch := hTX
  have hln := hTX.1
  refine r_aload_n dL_law_1431 rfl ?_
  refine r_aload_n dL_law_1432 rfl ?_
  refine r_iload dL_law_1433 rfl ?_
  refine r_iconst (v := nI 1) dL_law_1435 (by decide) ?_
  refine r_iaddN dL_law_1436 ?_
  refine r_sld dL_law_1437 (vp_in_nI (by omega) (by omega)) ?_
  refine r_top (y := kX κ (i + 1)) (by rw [nI_clamp (by omega)]) ?_
  refine r_aload_n dL_law_1438 rfl ?_
  refine r_iload dL_law_1439 rfl ?_
  refine r_iconst (v := nI 2) dL_law_1441 (by decide) ?_
  refine r_iaddN dL_law_1442 ?_
  refine r_sld dL_law_1443 (vp_in_nI (by omega) (by omega)) ?_
  refine r_top (y := kX κ (i + 2)) (by rw [nI_clamp (by omega)]) ?_
  refine r_aload_n dL_law_1444 rfl ?_
  refine fR_callSH (As := [.ref (ad 254), .int (kX κ (i + 1)), .int (kX κ (i + 2)), .ref q]) dL_law_1445 (tL_needle hD.1 hC hq hD.2.1) rfl oL_needle rfl kL_193M sL_needle ⟨Nat.le_of_ble_eq_true rfl, Nat.le_of_ble_eq_true rfl, show 2 ≤ _ by omega, show 12 ≤ _ by omega⟩ (Nat.le_of_ble_eq_true rfl) (fun E M9 h => by cases h.2.1) (bc' := bc) (bs' := bs) rfl rfl (fun v M1 h => ?_)
  obtain ⟨h3, hv, ⟨dn', n', hC1⟩, ⟨f1, hf1, hf0⟩, ho⟩ := h
  cases hv
  show fR _ _ _ 1448 _ (.int (nI (oNeedle ⟨g, sn, kp, tx, ln⟩ dn n (kX κ (i + 1)) (kX κ (i + 2))).1) :: []) _ _ _ _
  refine r_istore (lv' := (5, .int (nI (oNeedle ⟨g, sn, kp, tx, ln⟩ dn n (kX κ (i + 1)) (kX κ (i + 2))).1)) :: LV κ ad q m i) dL_law_1448 (Nat.le_of_ble_eq_true rfl) rfl ?_
  have hM1 : M1 = _ := (RM_self hD.2.2.1 hM (ho m (Ne.symm hD.2.2.2.2.1) (fun t ht => Ne.symm (hD.2.2.2.1 t ht).1)) (ho sA (Ne.symm hD.2.2.2.2.2.1) (fun t ht => Ne.symm (hD.2.2.2.1 t ht).2.1)) (ho tA (Ne.symm hD.2.2.2.2.2.2.1) (fun t ht => Ne.symm (hD.2.2.2.1 t ht).2.2.1)) (ho nA (Ne.symm hD.2.2.2.2.2.2.2) (fun t ht => Ne.symm (hD.2.2.2.1 t ht).2.2.2)))
  refine r_mem hM1 ?_
  refine r_aload_n dL_law_1450 rfl ?_
  refine r_aload_n dL_law_1451 rfl ?_
  refine r_iload dL_law_1452 rfl ?_
  refine r_iconst (v := nI 1) dL_law_1454 (by decide) ?_
  refine r_iaddN dL_law_1455 ?_
  refine r_sld dL_law_1456 (vp_in_nI (by omega) (by omega)) ?_
  refine r_top (y := kX κ (i + 1)) (by rw [nI_clamp (by omega)]) ?_
  refine r_aload_n dL_law_1457 rfl ?_
  refine r_iload dL_law_1458 rfl ?_
  refine r_iconst (v := nI 2) dL_law_1460 (by decide) ?_
  refine r_iaddN dL_law_1461 ?_
  refine r_sld dL_law_1462 (vp_in_nI (by omega) (by omega)) ?_
  refine r_top (y := kX κ (i + 2)) (by rw [nI_clamp (by omega)]) ?_
  refine r_callVP0 (As := [.int (kX κ (i + 1)), .int (kX κ (i + 2))]) dL_law_1463 (tX9_needle_o hD.2.2.1 hI hsn hln) rfl RM_0 rfl rfl oX9_needle rfl kL_195M nX9_needle eX9_needle ⟨Nat.le_of_ble_eq_true rfl, Nat.le_of_ble_eq_true rfl, Nat.zero_le _, Nat.zero_le _⟩ (Nat.le_of_ble_eq_true rfl) (bc' := bc) (bs' := bs) rfl rfl (fun E M9 h => by obtain ⟨_, _, _, _, h, _⟩ := h; cases h) (fun v M2 h => ?_)
  obtain ⟨ap2, pt2, hs2, nu2, hv2, hM2⟩ := h
  cases hv2
  subst hM2
  show fR _ _ _ 1466 _ (.int (oNeedle ⟨g, sn, kp, tx, ln⟩ dn n (kX κ (i + 1)) (kX κ (i + 2))).2.1 :: []) _ _ _ _
  refine r_istore (lv' := (6, .int (oNeedle ⟨g, sn, kp, tx, ln⟩ dn n (kX κ (i + 1)) (kX κ (i + 2))).2.1) :: (5, .int (nI (oNeedle ⟨g, sn, kp, tx, ln⟩ dn n (kX κ (i + 1)) (kX κ (i + 2))).1)) :: LV κ ad q m i) dL_law_1466 (Nat.le_of_ble_eq_true rfl) rfl ?_
  exact law_tail hD hC1 h3 hf1 hf0 dL_law_1468 dL_law_1469 dL_law_1472 dL_law_1474 dL_law_1479 dL_law_1481 dL_law_1484 dL_law_1485 dL_law_1486 dL_law_1487 dL_law_1489 dL_law_1490 dL_law_1491 dL_law_1496 (by decide) (fun M2 h => kk _ _ _ M2 h)
theorem lL_op24 {nm : String} {hh : List (Nat × Nat × Nat × Nat)} {l : Launch} {κ : KP} {ad : Nat → Nat} {q m sA tA nA i bc bs : Nat} {M : Mem} {z : Zs} {dn n : Nat} {P : FPost} (hD : LD ad q m sA tA nA) (hL : LI κ ad q m sA tA nA M z dn n) (hi : i + 5 ≤ kL κ) (hk : kL κ ≤ 2560) (kk : ∀ (z' : Zs) (dn' n' : Nat) (M2 : Mem), LI κ ad q m sA tA nA M2 z' dn' n' → fR l κ (mL_law nm hh) 2098 (LV κ ad q m i) [] M2 bc bs P) : fR l κ (mL_law nm hh) 1499 (LV κ ad q m i) [] M (bc + 2) (bs + 12) P := by
  obtain ⟨th, ap, pt, hs, nu, f, hC, hq, hM⟩ := hL
  obtain ⟨g, sn, kp, tx, ln⟩ := z
  replace hM : M = RM M m sA tA nA th (nI sn) (bI kp) (nI ln) ap pt hs g tx nu := hM
  have hI : BI g dn n := hC.2.2.1
  have hsn : sn ≤ 6 := hC.2.1.s6
  obtain ⟨ch, hTX⟩ := hC.2.2.2.2
  replace hTX : TX tx ln ch := hTX
  have hln := hTX.1
  refine r_aload_n dL_law_1499 rfl ?_
  refine r_aload_n dL_law_1500 rfl ?_
  refine r_iload dL_law_1501 rfl ?_
  refine r_iconst (v := nI 1) dL_law_1503 (by decide) ?_
  refine r_iaddN dL_law_1504 ?_
  refine r_sld dL_law_1505 (vp_in_nI (by omega) (by omega)) ?_
  refine r_top (y := kX κ (i + 1)) (by rw [nI_clamp (by omega)]) ?_
  refine r_aload_n dL_law_1506 rfl ?_
  refine r_iload dL_law_1507 rfl ?_
  refine r_iconst (v := nI 2) dL_law_1509 (by decide) ?_
  refine r_iaddN dL_law_1510 ?_
  refine r_sld dL_law_1511 (vp_in_nI (by omega) (by omega)) ?_
  refine r_top (y := kX κ (i + 2)) (by rw [nI_clamp (by omega)]) ?_
  refine r_aload_n dL_law_1512 rfl ?_
  refine fR_callSH (As := [.ref (ad 254), .int (kX κ (i + 1)), .int (kX κ (i + 2)), .ref q]) dL_law_1513 (tL_bathOf hD.1 hC hq hD.2.1) rfl oL_bathOf rfl kL_196M sL_bathOf ⟨Nat.le_of_ble_eq_true rfl, Nat.le_of_ble_eq_true rfl, show 2 ≤ _ by omega, show 12 ≤ _ by omega⟩ (Nat.le_of_ble_eq_true rfl) (fun E M9 h => by cases h.2.1) (bc' := bc) (bs' := bs) rfl rfl (fun v M1 h => ?_)
  obtain ⟨h3, hv, ⟨dn', n', hC1⟩, ⟨f1, hf1, hf0⟩, ho⟩ := h
  cases hv
  show fR _ _ _ 1516 _ (.int (nI (oBathOf ⟨g, sn, kp, tx, ln⟩ dn n (kX κ (i + 1)) (kX κ (i + 2))).1) :: []) _ _ _ _
  refine r_istore (lv' := (5, .int (nI (oBathOf ⟨g, sn, kp, tx, ln⟩ dn n (kX κ (i + 1)) (kX κ (i + 2))).1)) :: LV κ ad q m i) dL_law_1516 (Nat.le_of_ble_eq_true rfl) rfl ?_
  have hM1 : M1 = _ := (RM_self hD.2.2.1 hM (ho m (Ne.symm hD.2.2.2.2.1) (fun t ht => Ne.symm (hD.2.2.2.1 t ht).1)) (ho sA (Ne.symm hD.2.2.2.2.2.1) (fun t ht => Ne.symm (hD.2.2.2.1 t ht).2.1)) (ho tA (Ne.symm hD.2.2.2.2.2.2.1) (fun t ht => Ne.symm (hD.2.2.2.1 t ht).2.2.1)) (ho nA (Ne.symm hD.2.2.2.2.2.2.2) (fun t ht => Ne.symm (hD.2.2.2.1 t ht).2.2.2)))
  refine r_mem hM1 ?_
  refine r_aload_n dL_law_1518 rfl ?_
  refine r_aload_n dL_law_1519 rfl ?_
  refine r_iload dL_law_1520 rfl ?_
  refine r_iconst (v := nI 1) dL_law_1522 (by decide) ?_
  refine r_iaddN dL_law_1523 ?_
  refine r_sld dL_law_1524 (vp_in_nI (by omega) (by omega)) ?_
  refine r_top (y := kX κ (i + 1)) (by rw [nI_clamp (by omega)]) ?_
  refine r_aload_n dL_law_1525 rfl ?_
  refine r_iload dL_law_1526 rfl ?_
  refine r_iconst (v := nI 2) dL_law_1528 (by decide) ?_
  refine r_iaddN dL_law_1529 ?_
  refine r_sld dL_law_1530 (vp_in_nI (by omega) (by omega)) ?_
  refine r_top (y := kX κ (i + 2)) (by rw [nI_clamp (by omega)]) ?_
  refine r_callVP0 (As := [.int (kX κ (i + 1)), .int (kX κ (i + 2))]) dL_law_1531 (tX9_bathOf_o hD.2.2.1 hI hsn hln) rfl RM_0 rfl rfl oX9_bathOf rfl kL_198M nX9_bathOf eX9_bathOf ⟨Nat.le_of_ble_eq_true rfl, Nat.le_of_ble_eq_true rfl, Nat.zero_le _, Nat.zero_le _⟩ (Nat.le_of_ble_eq_true rfl) (bc' := bc) (bs' := bs) rfl rfl (fun E M9 h => by obtain ⟨_, _, _, _, h, _⟩ := h; cases h) (fun v M2 h => ?_)
  obtain ⟨ap2, pt2, hs2, nu2, hv2, hM2⟩ := h
  cases hv2
  subst hM2
  show fR _ _ _ 1534 _ (.int (oBathOf ⟨g, sn, kp, tx, ln⟩ dn n (kX κ (i + 1)) (kX κ (i + 2))).2.1 :: []) _ _ _ _
  refine r_istore (lv' := (6, .int (oBathOf ⟨g, sn, kp, tx, ln⟩ dn n (kX κ (i + 1)) (kX κ (i + 2))).2.1) :: (5, .int (nI (oBathOf ⟨g, sn, kp, tx, ln⟩ dn n (kX κ (i + 1)) (kX κ (i + 2))).1)) :: LV κ ad q m i) dL_law_1534 (Nat.le_of_ble_eq_true rfl) rfl ?_
  exact law_tail hD hC1 h3 hf1 hf0 dL_law_1536 dL_law_1537 dL_law_1540 dL_law_1542 dL_law_1547 dL_law_1549 dL_law_1552 dL_law_1553 dL_law_1554 dL_law_1555 dL_law_1557 dL_law_1558 dL_law_1559 dL_law_1564 (by decide) (fun M2 h => kk _ _ _ M2 h)
theorem lL_op25 {nm : String} {hh : List (Nat × Nat × Nat × Nat)} {l : Launch} {κ : KP} {ad : Nat → Nat} {q m sA tA nA i bc bs : Nat} {M : Mem} {z : Zs} {dn n : Nat} {P : FPost} (hD : LD ad q m sA tA nA) (hL : LI κ ad q m sA tA nA M z dn n) (hi : i + 5 ≤ kL κ) (hk : kL κ ≤ 2560) (kk : ∀ (z' : Zs) (dn' n' : Nat) (M2 : Mem), LI κ ad q m sA tA nA M2 z' dn' n' → fR l κ (mL_law nm hh) 2098 (LV κ ad q m i) [] M2 bc bs P) : fR l κ (mL_law nm hh) 1567 (LV κ ad q m i) [] M (bc + 1) (bs + 6) P := by
  obtain ⟨th, ap, pt, hs, nu, f, hC, hq, hM⟩ := hL
  obtain ⟨g, sn, kp, tx, ln⟩ := z
  replace hM : M = RM M m sA tA nA th (nI sn) (bI kp) (nI ln) ap pt hs g tx nu := hM
  have hI : BI g dn n := hC.2.2.1
  have hsn : sn ≤ 6 := hC.2.1.s6
  obtain ⟨ch, hTX⟩ := hC.2.2.2.2
  replace hTX : TX tx ln ch := hTX
  have hln := hTX.1
  refine r_aload_n dL_law_1567 rfl ?_
  refine r_aload_n dL_law_1568 rfl ?_
  refine r_iload dL_law_1569 rfl ?_
  refine r_iconst (v := nI 1) dL_law_1571 (by decide) ?_
  refine r_iaddN dL_law_1572 ?_
  refine r_sld dL_law_1573 (vp_in_nI (by omega) (by omega)) ?_
  refine r_top (y := kX κ (i + 1)) (by rw [nI_clamp (by omega)]) ?_
  refine r_aload_n dL_law_1574 rfl ?_
  refine fR_callSH (As := [.ref (ad 254), .int (kX κ (i + 1)), .ref q]) dL_law_1575 (tL_count hD.1 hC hq hD.2.1) rfl oL_count rfl kL_199M sL_count ⟨Nat.le_of_ble_eq_true rfl, Nat.le_of_ble_eq_true rfl, show 1 ≤ _ by omega, show 6 ≤ _ by omega⟩ (Nat.le_of_ble_eq_true rfl) (fun E M9 h => by cases h.2.1) (bc' := bc) (bs' := bs) rfl rfl (fun v M1 h => ?_)
  obtain ⟨h3, hv, ⟨dn', n', hC1⟩, ⟨f1, hf1, hf0⟩, ho⟩ := h
  cases hv
  show fR _ _ _ 1578 _ (.int (nI (oCount ⟨g, sn, kp, tx, ln⟩ dn n (kX κ (i + 1))).1) :: []) _ _ _ _
  refine r_istore (lv' := (5, .int (nI (oCount ⟨g, sn, kp, tx, ln⟩ dn n (kX κ (i + 1))).1)) :: LV κ ad q m i) dL_law_1578 (Nat.le_of_ble_eq_true rfl) rfl ?_
  have hM1 : M1 = _ := (RM_self hD.2.2.1 hM (ho m (Ne.symm hD.2.2.2.2.1) (fun t ht => Ne.symm (hD.2.2.2.1 t ht).1)) (ho sA (Ne.symm hD.2.2.2.2.2.1) (fun t ht => Ne.symm (hD.2.2.2.1 t ht).2.1)) (ho tA (Ne.symm hD.2.2.2.2.2.2.1) (fun t ht => Ne.symm (hD.2.2.2.1 t ht).2.2.1)) (ho nA (Ne.symm hD.2.2.2.2.2.2.2) (fun t ht => Ne.symm (hD.2.2.2.1 t ht).2.2.2)))
  refine r_mem hM1 ?_
  refine r_aload_n dL_law_1580 rfl ?_
  refine r_aload_n dL_law_1581 rfl ?_
  refine r_iload dL_law_1582 rfl ?_
  refine r_iconst (v := nI 1) dL_law_1584 (by decide) ?_
  refine r_iaddN dL_law_1585 ?_
  refine r_sld dL_law_1586 (vp_in_nI (by omega) (by omega)) ?_
  refine r_top (y := kX κ (i + 1)) (by rw [nI_clamp (by omega)]) ?_
  refine r_callVP0 (As := [.int (kX κ (i + 1))]) dL_law_1587 (tX9_count_o hD.2.2.1 hI hsn hln) rfl RM_0 rfl rfl oX9_count rfl kL_201M nX9_count eX9_count ⟨Nat.le_of_ble_eq_true rfl, Nat.le_of_ble_eq_true rfl, Nat.zero_le _, Nat.zero_le _⟩ (Nat.le_of_ble_eq_true rfl) (bc' := bc) (bs' := bs) rfl rfl (fun E M9 h => by obtain ⟨_, _, _, _, h, _⟩ := h; cases h) (fun v M2 h => ?_)
  obtain ⟨ap2, pt2, hs2, nu2, hv2, hM2⟩ := h
  cases hv2
  subst hM2
  show fR _ _ _ 1590 _ (.int (oCount ⟨g, sn, kp, tx, ln⟩ dn n (kX κ (i + 1))).2.1 :: []) _ _ _ _
  refine r_istore (lv' := (6, .int (oCount ⟨g, sn, kp, tx, ln⟩ dn n (kX κ (i + 1))).2.1) :: (5, .int (nI (oCount ⟨g, sn, kp, tx, ln⟩ dn n (kX κ (i + 1))).1)) :: LV κ ad q m i) dL_law_1590 (Nat.le_of_ble_eq_true rfl) rfl ?_
  exact law_tail hD hC1 h3 hf1 hf0 dL_law_1592 dL_law_1593 dL_law_1596 dL_law_1598 dL_law_1603 dL_law_1605 dL_law_1608 dL_law_1609 dL_law_1610 dL_law_1611 dL_law_1613 dL_law_1614 dL_law_1615 dL_law_1620 (by decide) (fun M2 h => kk _ _ _ M2 h)
theorem lL_op26 {nm : String} {hh : List (Nat × Nat × Nat × Nat)} {l : Launch} {κ : KP} {ad : Nat → Nat} {q m sA tA nA i bc bs : Nat} {M : Mem} {z : Zs} {dn n : Nat} {P : FPost} (hD : LD ad q m sA tA nA) (hL : LI κ ad q m sA tA nA M z dn n) (hi : i + 5 ≤ kL κ) (hk : kL κ ≤ 2560) (kk : ∀ (z' : Zs) (dn' n' : Nat) (M2 : Mem), LI κ ad q m sA tA nA M2 z' dn' n' → fR l κ (mL_law nm hh) 2098 (LV κ ad q m i) [] M2 bc bs P) : fR l κ (mL_law nm hh) 1623 (LV κ ad q m i) [] M (bc + 2) (bs + 12) P := by
  obtain ⟨th, ap, pt, hs, nu, f, hC, hq, hM⟩ := hL
  obtain ⟨g, sn, kp, tx, ln⟩ := z
  replace hM : M = RM M m sA tA nA th (nI sn) (bI kp) (nI ln) ap pt hs g tx nu := hM
  have hI : BI g dn n := hC.2.2.1
  have hsn : sn ≤ 6 := hC.2.1.s6
  obtain ⟨ch, hTX⟩ := hC.2.2.2.2
  replace hTX : TX tx ln ch := hTX
  have hln := hTX.1
  refine r_aload_n dL_law_1623 rfl ?_
  refine r_aload_n dL_law_1624 rfl ?_
  refine r_iload dL_law_1625 rfl ?_
  refine r_iconst (v := nI 1) dL_law_1627 (by decide) ?_
  refine r_iaddN dL_law_1628 ?_
  refine r_sld dL_law_1629 (vp_in_nI (by omega) (by omega)) ?_
  refine r_top (y := kX κ (i + 1)) (by rw [nI_clamp (by omega)]) ?_
  refine r_aload_n dL_law_1630 rfl ?_
  refine r_iload dL_law_1631 rfl ?_
  refine r_iconst (v := nI 2) dL_law_1633 (by decide) ?_
  refine r_iaddN dL_law_1634 ?_
  refine r_sld dL_law_1635 (vp_in_nI (by omega) (by omega)) ?_
  refine r_top (y := kX κ (i + 2)) (by rw [nI_clamp (by omega)]) ?_
  refine r_aload_n dL_law_1636 rfl ?_
  refine fR_callSH (As := [.ref (ad 254), .int (kX κ (i + 1)), .int (kX κ (i + 2)), .ref q]) dL_law_1637 (tL_noSink hD.1 hC hq hD.2.1) rfl oL_noSink rfl kL_202M sL_noSink ⟨Nat.le_of_ble_eq_true rfl, Nat.le_of_ble_eq_true rfl, show 2 ≤ _ by omega, show 12 ≤ _ by omega⟩ (Nat.le_of_ble_eq_true rfl) (fun E M9 h => by cases h.2.1) (bc' := bc) (bs' := bs) rfl rfl (fun v M1 h => ?_)
  obtain ⟨h3, hv, ⟨dn', n', hC1⟩, ⟨f1, hf1, hf0⟩, ho⟩ := h
  cases hv
  show fR _ _ _ 1640 _ (.int (nI (oNoSink ⟨g, sn, kp, tx, ln⟩ dn n (kX κ (i + 1)) (kX κ (i + 2))).1) :: []) _ _ _ _
  refine r_istore (lv' := (5, .int (nI (oNoSink ⟨g, sn, kp, tx, ln⟩ dn n (kX κ (i + 1)) (kX κ (i + 2))).1)) :: LV κ ad q m i) dL_law_1640 (Nat.le_of_ble_eq_true rfl) rfl ?_
  have hM1 : M1 = _ := (RM_self hD.2.2.1 hM (ho m (Ne.symm hD.2.2.2.2.1) (fun t ht => Ne.symm (hD.2.2.2.1 t ht).1)) (ho sA (Ne.symm hD.2.2.2.2.2.1) (fun t ht => Ne.symm (hD.2.2.2.1 t ht).2.1)) (ho tA (Ne.symm hD.2.2.2.2.2.2.1) (fun t ht => Ne.symm (hD.2.2.2.1 t ht).2.2.1)) (ho nA (Ne.symm hD.2.2.2.2.2.2.2) (fun t ht => Ne.symm (hD.2.2.2.1 t ht).2.2.2)))
  refine r_mem hM1 ?_
  refine r_aload_n dL_law_1642 rfl ?_
  refine r_aload_n dL_law_1643 rfl ?_
  refine r_iload dL_law_1644 rfl ?_
  refine r_iconst (v := nI 1) dL_law_1646 (by decide) ?_
  refine r_iaddN dL_law_1647 ?_
  refine r_sld dL_law_1648 (vp_in_nI (by omega) (by omega)) ?_
  refine r_top (y := kX κ (i + 1)) (by rw [nI_clamp (by omega)]) ?_
  refine r_aload_n dL_law_1649 rfl ?_
  refine r_iload dL_law_1650 rfl ?_
  refine r_iconst (v := nI 2) dL_law_1652 (by decide) ?_
  refine r_iaddN dL_law_1653 ?_
  refine r_sld dL_law_1654 (vp_in_nI (by omega) (by omega)) ?_
  refine r_top (y := kX κ (i + 2)) (by rw [nI_clamp (by omega)]) ?_
  refine r_callVP0 (As := [.int (kX κ (i + 1)), .int (kX κ (i + 2))]) dL_law_1655 (tX9_noSink_o hD.2.2.1 hI hsn hln) rfl RM_0 rfl rfl oX9_noSink rfl kL_204M nX9_noSink eX9_noSink ⟨Nat.le_of_ble_eq_true rfl, Nat.le_of_ble_eq_true rfl, Nat.zero_le _, Nat.zero_le _⟩ (Nat.le_of_ble_eq_true rfl) (bc' := bc) (bs' := bs) rfl rfl (fun E M9 h => by obtain ⟨_, _, _, _, h, _⟩ := h; cases h) (fun v M2 h => ?_)
  obtain ⟨ap2, pt2, hs2, nu2, hv2, hM2⟩ := h
  cases hv2
  subst hM2
  show fR _ _ _ 1658 _ (.int (oNoSink ⟨g, sn, kp, tx, ln⟩ dn n (kX κ (i + 1)) (kX κ (i + 2))).2.1 :: []) _ _ _ _
  refine r_istore (lv' := (6, .int (oNoSink ⟨g, sn, kp, tx, ln⟩ dn n (kX κ (i + 1)) (kX κ (i + 2))).2.1) :: (5, .int (nI (oNoSink ⟨g, sn, kp, tx, ln⟩ dn n (kX κ (i + 1)) (kX κ (i + 2))).1)) :: LV κ ad q m i) dL_law_1658 (Nat.le_of_ble_eq_true rfl) rfl ?_
  exact law_tail hD hC1 h3 hf1 hf0 dL_law_1660 dL_law_1661 dL_law_1664 dL_law_1666 dL_law_1671 dL_law_1673 dL_law_1676 dL_law_1677 dL_law_1678 dL_law_1679 dL_law_1681 dL_law_1682 dL_law_1683 dL_law_1688 (by decide) (fun M2 h => kk _ _ _ M2 h)
theorem lL_op27 {nm : String} {hh : List (Nat × Nat × Nat × Nat)} {l : Launch} {κ : KP} {ad : Nat → Nat} {q m sA tA nA i bc bs : Nat} {M : Mem} {z : Zs} {dn n : Nat} {P : FPost} (hD : LD ad q m sA tA nA) (hL : LI κ ad q m sA tA nA M z dn n) (hi : i + 5 ≤ kL κ) (hk : kL κ ≤ 2560) (kk : ∀ (z' : Zs) (dn' n' : Nat) (M2 : Mem), LI κ ad q m sA tA nA M2 z' dn' n' → fR l κ (mL_law nm hh) 2098 (LV κ ad q m i) [] M2 bc bs P) : fR l κ (mL_law nm hh) 1691 (LV κ ad q m i) [] M (bc + 1) (bs + 6) P := by
  obtain ⟨th, ap, pt, hs, nu, f, hC, hq, hM⟩ := hL
  obtain ⟨g, sn, kp, tx, ln⟩ := z
  replace hM : M = RM M m sA tA nA th (nI sn) (bI kp) (nI ln) ap pt hs g tx nu := hM
  have hI : BI g dn n := hC.2.2.1
  have hsn : sn ≤ 6 := hC.2.1.s6
  obtain ⟨ch, hTX⟩ := hC.2.2.2.2
  replace hTX : TX tx ln ch := hTX
  have hln := hTX.1
  refine r_aload_n dL_law_1691 rfl ?_
  refine r_aload_n dL_law_1692 rfl ?_
  refine r_iload dL_law_1693 rfl ?_
  refine r_iconst (v := nI 1) dL_law_1695 (by decide) ?_
  refine r_iaddN dL_law_1696 ?_
  refine r_sld dL_law_1697 (vp_in_nI (by omega) (by omega)) ?_
  refine r_top (y := kX κ (i + 1)) (by rw [nI_clamp (by omega)]) ?_
  refine r_aload_n dL_law_1698 rfl ?_
  refine fR_callSH (As := [.ref (ad 254), .int (kX κ (i + 1)), .ref q]) dL_law_1699 (tL_noSale hD.1 hC hq hD.2.1) rfl oL_noSale rfl kL_205M sL_noSale ⟨Nat.le_of_ble_eq_true rfl, Nat.le_of_ble_eq_true rfl, show 1 ≤ _ by omega, show 6 ≤ _ by omega⟩ (Nat.le_of_ble_eq_true rfl) (fun E M9 h => by cases h.2.1) (bc' := bc) (bs' := bs) rfl rfl (fun v M1 h => ?_)
  obtain ⟨h3, hv, ⟨dn', n', hC1⟩, ⟨f1, hf1, hf0⟩, ho⟩ := h
  cases hv
  show fR _ _ _ 1702 _ (.int (nI (oNoSale ⟨g, sn, kp, tx, ln⟩ dn n (kX κ (i + 1))).1) :: []) _ _ _ _
  refine r_istore (lv' := (5, .int (nI (oNoSale ⟨g, sn, kp, tx, ln⟩ dn n (kX κ (i + 1))).1)) :: LV κ ad q m i) dL_law_1702 (Nat.le_of_ble_eq_true rfl) rfl ?_
  have hM1 : M1 = _ := (RM_self hD.2.2.1 hM (ho m (Ne.symm hD.2.2.2.2.1) (fun t ht => Ne.symm (hD.2.2.2.1 t ht).1)) (ho sA (Ne.symm hD.2.2.2.2.2.1) (fun t ht => Ne.symm (hD.2.2.2.1 t ht).2.1)) (ho tA (Ne.symm hD.2.2.2.2.2.2.1) (fun t ht => Ne.symm (hD.2.2.2.1 t ht).2.2.1)) (ho nA (Ne.symm hD.2.2.2.2.2.2.2) (fun t ht => Ne.symm (hD.2.2.2.1 t ht).2.2.2)))
  refine r_mem hM1 ?_
  refine r_aload_n dL_law_1704 rfl ?_
  refine r_aload_n dL_law_1705 rfl ?_
  refine r_iload dL_law_1706 rfl ?_
  refine r_iconst (v := nI 1) dL_law_1708 (by decide) ?_
  refine r_iaddN dL_law_1709 ?_
  refine r_sld dL_law_1710 (vp_in_nI (by omega) (by omega)) ?_
  refine r_top (y := kX κ (i + 1)) (by rw [nI_clamp (by omega)]) ?_
  refine r_callVP0 (As := [.int (kX κ (i + 1))]) dL_law_1711 (tX9_noSale_o hD.2.2.1 hI hsn hln) rfl RM_0 rfl rfl oX9_noSale rfl kL_207M nX9_noSale eX9_noSale ⟨Nat.le_of_ble_eq_true rfl, Nat.le_of_ble_eq_true rfl, Nat.zero_le _, Nat.zero_le _⟩ (Nat.le_of_ble_eq_true rfl) (bc' := bc) (bs' := bs) rfl rfl (fun E M9 h => by obtain ⟨_, _, _, _, h, _⟩ := h; cases h) (fun v M2 h => ?_)
  obtain ⟨ap2, pt2, hs2, nu2, hv2, hM2⟩ := h
  cases hv2
  subst hM2
  show fR _ _ _ 1714 _ (.int (oNoSale ⟨g, sn, kp, tx, ln⟩ dn n (kX κ (i + 1))).2.1 :: []) _ _ _ _
  refine r_istore (lv' := (6, .int (oNoSale ⟨g, sn, kp, tx, ln⟩ dn n (kX κ (i + 1))).2.1) :: (5, .int (nI (oNoSale ⟨g, sn, kp, tx, ln⟩ dn n (kX κ (i + 1))).1)) :: LV κ ad q m i) dL_law_1714 (Nat.le_of_ble_eq_true rfl) rfl ?_
  exact law_tail hD hC1 h3 hf1 hf0 dL_law_1716 dL_law_1717 dL_law_1720 dL_law_1722 dL_law_1727 dL_law_1729 dL_law_1732 dL_law_1733 dL_law_1734 dL_law_1735 dL_law_1737 dL_law_1738 dL_law_1739 dL_law_1744 (by decide) (fun M2 h => kk _ _ _ M2 h)
theorem lL_op28 {nm : String} {hh : List (Nat × Nat × Nat × Nat)} {l : Launch} {κ : KP} {ad : Nat → Nat} {q m sA tA nA i bc bs : Nat} {M : Mem} {z : Zs} {dn n : Nat} {P : FPost} (hD : LD ad q m sA tA nA) (hL : LI κ ad q m sA tA nA M z dn n) (hi : i + 5 ≤ kL κ) (hk : kL κ ≤ 2560) (kk : ∀ (z' : Zs) (dn' n' : Nat) (M2 : Mem), LI κ ad q m sA tA nA M2 z' dn' n' → fR l κ (mL_law nm hh) 2098 (LV κ ad q m i) [] M2 bc bs P) : fR l κ (mL_law nm hh) 1747 (LV κ ad q m i) [] M (bc + 4) (bs + 24) P := by
  obtain ⟨th, ap, pt, hs, nu, f, hC, hq, hM⟩ := hL
  obtain ⟨g, sn, kp, tx, ln⟩ := z
  replace hM : M = RM M m sA tA nA th (nI sn) (bI kp) (nI ln) ap pt hs g tx nu := hM
  have hI : BI g dn n := hC.2.2.1
  have hsn : sn ≤ 6 := hC.2.1.s6
  obtain ⟨ch, hTX⟩ := hC.2.2.2.2
  replace hTX : TX tx ln ch := hTX
  have hln := hTX.1
  refine r_aload_n dL_law_1747 rfl ?_
  refine r_aload_n dL_law_1748 rfl ?_
  refine r_iload dL_law_1749 rfl ?_
  refine r_iconst (v := nI 1) dL_law_1751 (by decide) ?_
  refine r_iaddN dL_law_1752 ?_
  refine r_sld dL_law_1753 (vp_in_nI (by omega) (by omega)) ?_
  refine r_top (y := kX κ (i + 1)) (by rw [nI_clamp (by omega)]) ?_
  refine r_aload_n dL_law_1754 rfl ?_
  refine r_iload dL_law_1755 rfl ?_
  refine r_iconst (v := nI 2) dL_law_1757 (by decide) ?_
  refine r_iaddN dL_law_1758 ?_
  refine r_sld dL_law_1759 (vp_in_nI (by omega) (by omega)) ?_
  refine r_top (y := kX κ (i + 2)) (by rw [nI_clamp (by omega)]) ?_
  refine r_aload_n dL_law_1760 rfl ?_
  refine r_iload dL_law_1761 rfl ?_
  refine r_iconst (v := nI 3) dL_law_1763 (by decide) ?_
  refine r_iaddN dL_law_1764 ?_
  refine r_sld dL_law_1765 (vp_in_nI (by omega) (by omega)) ?_
  refine r_top (y := kX κ (i + 3)) (by rw [nI_clamp (by omega)]) ?_
  refine r_aload_n dL_law_1766 rfl ?_
  refine r_iload dL_law_1767 rfl ?_
  refine r_iconst (v := nI 4) dL_law_1769 (by decide) ?_
  refine r_iaddN dL_law_1770 ?_
  refine r_sld dL_law_1771 (vp_in_nI (by omega) (by omega)) ?_
  refine r_top (y := kX κ (i + 4)) (by rw [nI_clamp (by omega)]) ?_
  refine r_aload_n dL_law_1772 rfl ?_
  refine fR_callSH (As := [.ref (ad 254), .int (kX κ (i + 1)), .int (kX κ (i + 2)), .int (kX κ (i + 3)), .int (kX κ (i + 4)), .ref q]) dL_law_1773 (tL_ifSunk hD.1 hC hq hD.2.1) rfl oL_ifSunk rfl kL_208M sL_ifSunk ⟨Nat.le_of_ble_eq_true rfl, Nat.le_of_ble_eq_true rfl, show 4 ≤ _ by omega, show 24 ≤ _ by omega⟩ (Nat.le_of_ble_eq_true rfl) (fun E M9 h => by cases h.2.1) (bc' := bc) (bs' := bs) rfl rfl (fun v M1 h => ?_)
  obtain ⟨h3, hv, ⟨dn', n', hC1⟩, ⟨f1, hf1, hf0⟩, ho⟩ := h
  cases hv
  show fR _ _ _ 1776 _ (.int (nI (oIfSunk ⟨g, sn, kp, tx, ln⟩ dn n (kX κ (i + 1)) (kX κ (i + 2)) (kX κ (i + 3)) (kX κ (i + 4))).1) :: []) _ _ _ _
  refine r_istore (lv' := (5, .int (nI (oIfSunk ⟨g, sn, kp, tx, ln⟩ dn n (kX κ (i + 1)) (kX κ (i + 2)) (kX κ (i + 3)) (kX κ (i + 4))).1)) :: LV κ ad q m i) dL_law_1776 (Nat.le_of_ble_eq_true rfl) rfl ?_
  have hM1 : M1 = _ := (RM_self hD.2.2.1 hM (ho m (Ne.symm hD.2.2.2.2.1) (fun t ht => Ne.symm (hD.2.2.2.1 t ht).1)) (ho sA (Ne.symm hD.2.2.2.2.2.1) (fun t ht => Ne.symm (hD.2.2.2.1 t ht).2.1)) (ho tA (Ne.symm hD.2.2.2.2.2.2.1) (fun t ht => Ne.symm (hD.2.2.2.1 t ht).2.2.1)) (ho nA (Ne.symm hD.2.2.2.2.2.2.2) (fun t ht => Ne.symm (hD.2.2.2.1 t ht).2.2.2)))
  refine r_mem hM1 ?_
  refine r_aload_n dL_law_1778 rfl ?_
  refine r_aload_n dL_law_1779 rfl ?_
  refine r_iload dL_law_1780 rfl ?_
  refine r_iconst (v := nI 1) dL_law_1782 (by decide) ?_
  refine r_iaddN dL_law_1783 ?_
  refine r_sld dL_law_1784 (vp_in_nI (by omega) (by omega)) ?_
  refine r_top (y := kX κ (i + 1)) (by rw [nI_clamp (by omega)]) ?_
  refine r_aload_n dL_law_1785 rfl ?_
  refine r_iload dL_law_1786 rfl ?_
  refine r_iconst (v := nI 2) dL_law_1788 (by decide) ?_
  refine r_iaddN dL_law_1789 ?_
  refine r_sld dL_law_1790 (vp_in_nI (by omega) (by omega)) ?_
  refine r_top (y := kX κ (i + 2)) (by rw [nI_clamp (by omega)]) ?_
  refine r_aload_n dL_law_1791 rfl ?_
  refine r_iload dL_law_1792 rfl ?_
  refine r_iconst (v := nI 3) dL_law_1794 (by decide) ?_
  refine r_iaddN dL_law_1795 ?_
  refine r_sld dL_law_1796 (vp_in_nI (by omega) (by omega)) ?_
  refine r_top (y := kX κ (i + 3)) (by rw [nI_clamp (by omega)]) ?_
  refine r_aload_n dL_law_1797 rfl ?_
  refine r_iload dL_law_1798 rfl ?_
  refine r_iconst (v := nI 4) dL_law_1800 (by decide) ?_
  refine r_iaddN dL_law_1801 ?_
  refine r_sld dL_law_1802 (vp_in_nI (by omega) (by omega)) ?_
  refine r_top (y := kX κ (i + 4)) (by rw [nI_clamp (by omega)]) ?_
  refine r_callVP0 (As := [.int (kX κ (i + 1)), .int (kX κ (i + 2)), .int (kX κ (i + 3)), .int (kX κ (i + 4))]) dL_law_1803 (tX9_ifSunk_o hD.2.2.1 hI hsn hln) rfl RM_0 rfl rfl oX9_ifSunk rfl kL_210M nX9_ifSunk eX9_ifSunk ⟨Nat.le_of_ble_eq_true rfl, Nat.le_of_ble_eq_true rfl, Nat.zero_le _, Nat.zero_le _⟩ (Nat.le_of_ble_eq_true rfl) (bc' := bc) (bs' := bs) rfl rfl (fun E M9 h => by obtain ⟨_, _, _, _, h, _⟩ := h; cases h) (fun v M2 h => ?_)
  obtain ⟨ap2, pt2, hs2, nu2, hv2, hM2⟩ := h
  cases hv2
  subst hM2
  show fR _ _ _ 1806 _ (.int (oIfSunk ⟨g, sn, kp, tx, ln⟩ dn n (kX κ (i + 1)) (kX κ (i + 2)) (kX κ (i + 3)) (kX κ (i + 4))).2.1 :: []) _ _ _ _
  refine r_istore (lv' := (6, .int (oIfSunk ⟨g, sn, kp, tx, ln⟩ dn n (kX κ (i + 1)) (kX κ (i + 2)) (kX κ (i + 3)) (kX κ (i + 4))).2.1) :: (5, .int (nI (oIfSunk ⟨g, sn, kp, tx, ln⟩ dn n (kX κ (i + 1)) (kX κ (i + 2)) (kX κ (i + 3)) (kX κ (i + 4))).1)) :: LV κ ad q m i) dL_law_1806 (Nat.le_of_ble_eq_true rfl) rfl ?_
  exact law_tail hD hC1 h3 hf1 hf0 dL_law_1808 dL_law_1809 dL_law_1812 dL_law_1814 dL_law_1819 dL_law_1821 dL_law_1824 dL_law_1825 dL_law_1826 dL_law_1827 dL_law_1829 dL_law_1830 dL_law_1831 dL_law_1836 (by decide) (fun M2 h => kk _ _ _ M2 h)
theorem lL_op29 {nm : String} {hh : List (Nat × Nat × Nat × Nat)} {l : Launch} {κ : KP} {ad : Nat → Nat} {q m sA tA nA i bc bs : Nat} {M : Mem} {z : Zs} {dn n : Nat} {P : FPost} (hD : LD ad q m sA tA nA) (hL : LI κ ad q m sA tA nA M z dn n) (hi : i + 5 ≤ kL κ) (hk : kL κ ≤ 2560) (kk : ∀ (z' : Zs) (dn' n' : Nat) (M2 : Mem), LI κ ad q m sA tA nA M2 z' dn' n' → fR l κ (mL_law nm hh) 2098 (LV κ ad q m i) [] M2 bc bs P) : fR l κ (mL_law nm hh) 1839 (LV κ ad q m i) [] M (bc + 4) (bs + 24) P := by
  obtain ⟨th, ap, pt, hs, nu, f, hC, hq, hM⟩ := hL
  obtain ⟨g, sn, kp, tx, ln⟩ := z
  replace hM : M = RM M m sA tA nA th (nI sn) (bI kp) (nI ln) ap pt hs g tx nu := hM
  have hI : BI g dn n := hC.2.2.1
  have hsn : sn ≤ 6 := hC.2.1.s6
  obtain ⟨ch, hTX⟩ := hC.2.2.2.2
  replace hTX : TX tx ln ch := hTX
  have hln := hTX.1
  refine r_aload_n dL_law_1839 rfl ?_
  refine r_aload_n dL_law_1840 rfl ?_
  refine r_iload dL_law_1841 rfl ?_
  refine r_iconst (v := nI 1) dL_law_1843 (by decide) ?_
  refine r_iaddN dL_law_1844 ?_
  refine r_sld dL_law_1845 (vp_in_nI (by omega) (by omega)) ?_
  refine r_top (y := kX κ (i + 1)) (by rw [nI_clamp (by omega)]) ?_
  refine r_aload_n dL_law_1846 rfl ?_
  refine r_iload dL_law_1847 rfl ?_
  refine r_iconst (v := nI 2) dL_law_1849 (by decide) ?_
  refine r_iaddN dL_law_1850 ?_
  refine r_sld dL_law_1851 (vp_in_nI (by omega) (by omega)) ?_
  refine r_top (y := kX κ (i + 2)) (by rw [nI_clamp (by omega)]) ?_
  refine r_aload_n dL_law_1852 rfl ?_
  refine r_iload dL_law_1853 rfl ?_
  refine r_iconst (v := nI 3) dL_law_1855 (by decide) ?_
  refine r_iaddN dL_law_1856 ?_
  refine r_sld dL_law_1857 (vp_in_nI (by omega) (by omega)) ?_
  refine r_top (y := kX κ (i + 3)) (by rw [nI_clamp (by omega)]) ?_
  refine r_aload_n dL_law_1858 rfl ?_
  refine r_iload dL_law_1859 rfl ?_
  refine r_iconst (v := nI 4) dL_law_1861 (by decide) ?_
  refine r_iaddN dL_law_1862 ?_
  refine r_sld dL_law_1863 (vp_in_nI (by omega) (by omega)) ?_
  refine r_top (y := kX κ (i + 4)) (by rw [nI_clamp (by omega)]) ?_
  refine r_aload_n dL_law_1864 rfl ?_
  refine fR_callSH (As := [.ref (ad 254), .int (kX κ (i + 1)), .int (kX κ (i + 2)), .int (kX κ (i + 3)), .int (kX κ (i + 4)), .ref q]) dL_law_1865 (tL_secondsTo hD.1 hC hq hD.2.1) rfl oL_secondsTo rfl kL_211M sL_secondsTo ⟨Nat.le_of_ble_eq_true rfl, Nat.le_of_ble_eq_true rfl, show 4 ≤ _ by omega, show 24 ≤ _ by omega⟩ (Nat.le_of_ble_eq_true rfl) (fun E M9 h => by cases h.2.1) (bc' := bc) (bs' := bs) rfl rfl (fun v M1 h => ?_)
  obtain ⟨h3, hv, ⟨dn', n', hC1⟩, ⟨f1, hf1, hf0⟩, ho⟩ := h
  cases hv
  show fR _ _ _ 1868 _ (.int (nI (oSecondsTo ⟨g, sn, kp, tx, ln⟩ dn n (kX κ (i + 1)) (kX κ (i + 2)) (kX κ (i + 3)) (kX κ (i + 4))).1) :: []) _ _ _ _
  refine r_istore (lv' := (5, .int (nI (oSecondsTo ⟨g, sn, kp, tx, ln⟩ dn n (kX κ (i + 1)) (kX κ (i + 2)) (kX κ (i + 3)) (kX κ (i + 4))).1)) :: LV κ ad q m i) dL_law_1868 (Nat.le_of_ble_eq_true rfl) rfl ?_
  have hM1 : M1 = _ := (RM_self hD.2.2.1 hM (ho m (Ne.symm hD.2.2.2.2.1) (fun t ht => Ne.symm (hD.2.2.2.1 t ht).1)) (ho sA (Ne.symm hD.2.2.2.2.2.1) (fun t ht => Ne.symm (hD.2.2.2.1 t ht).2.1)) (ho tA (Ne.symm hD.2.2.2.2.2.2.1) (fun t ht => Ne.symm (hD.2.2.2.1 t ht).2.2.1)) (ho nA (Ne.symm hD.2.2.2.2.2.2.2) (fun t ht => Ne.symm (hD.2.2.2.1 t ht).2.2.2)))
  refine r_mem hM1 ?_
  refine r_aload_n dL_law_1870 rfl ?_
  refine r_aload_n dL_law_1871 rfl ?_
  refine r_iload dL_law_1872 rfl ?_
  refine r_iconst (v := nI 1) dL_law_1874 (by decide) ?_
  refine r_iaddN dL_law_1875 ?_
  refine r_sld dL_law_1876 (vp_in_nI (by omega) (by omega)) ?_
  refine r_top (y := kX κ (i + 1)) (by rw [nI_clamp (by omega)]) ?_
  refine r_aload_n dL_law_1877 rfl ?_
  refine r_iload dL_law_1878 rfl ?_
  refine r_iconst (v := nI 2) dL_law_1880 (by decide) ?_
  refine r_iaddN dL_law_1881 ?_
  refine r_sld dL_law_1882 (vp_in_nI (by omega) (by omega)) ?_
  refine r_top (y := kX κ (i + 2)) (by rw [nI_clamp (by omega)]) ?_
  refine r_aload_n dL_law_1883 rfl ?_
  refine r_iload dL_law_1884 rfl ?_
  refine r_iconst (v := nI 3) dL_law_1886 (by decide) ?_
  refine r_iaddN dL_law_1887 ?_
  refine r_sld dL_law_1888 (vp_in_nI (by omega) (by omega)) ?_
  refine r_top (y := kX κ (i + 3)) (by rw [nI_clamp (by omega)]) ?_
  refine r_aload_n dL_law_1889 rfl ?_
  refine r_iload dL_law_1890 rfl ?_
  refine r_iconst (v := nI 4) dL_law_1892 (by decide) ?_
  refine r_iaddN dL_law_1893 ?_
  refine r_sld dL_law_1894 (vp_in_nI (by omega) (by omega)) ?_
  refine r_top (y := kX κ (i + 4)) (by rw [nI_clamp (by omega)]) ?_
  refine r_callVP0 (As := [.int (kX κ (i + 1)), .int (kX κ (i + 2)), .int (kX κ (i + 3)), .int (kX κ (i + 4))]) dL_law_1895 (tX9_secondsTo_o hD.2.2.1 hI hsn hln) rfl RM_0 rfl rfl oX9_secondsTo rfl kL_213M nX9_secondsTo eX9_secondsTo ⟨Nat.le_of_ble_eq_true rfl, Nat.le_of_ble_eq_true rfl, Nat.zero_le _, Nat.zero_le _⟩ (Nat.le_of_ble_eq_true rfl) (bc' := bc) (bs' := bs) rfl rfl (fun E M9 h => by obtain ⟨_, _, _, _, h, _⟩ := h; cases h) (fun v M2 h => ?_)
  obtain ⟨ap2, pt2, hs2, nu2, hv2, hM2⟩ := h
  cases hv2
  subst hM2
  show fR _ _ _ 1898 _ (.int (oSecondsTo ⟨g, sn, kp, tx, ln⟩ dn n (kX κ (i + 1)) (kX κ (i + 2)) (kX κ (i + 3)) (kX κ (i + 4))).2.1 :: []) _ _ _ _
  refine r_istore (lv' := (6, .int (oSecondsTo ⟨g, sn, kp, tx, ln⟩ dn n (kX κ (i + 1)) (kX κ (i + 2)) (kX κ (i + 3)) (kX κ (i + 4))).2.1) :: (5, .int (nI (oSecondsTo ⟨g, sn, kp, tx, ln⟩ dn n (kX κ (i + 1)) (kX κ (i + 2)) (kX κ (i + 3)) (kX κ (i + 4))).1)) :: LV κ ad q m i) dL_law_1898 (Nat.le_of_ble_eq_true rfl) rfl ?_
  exact law_tail hD hC1 h3 hf1 hf0 dL_law_1900 dL_law_1901 dL_law_1904 dL_law_1906 dL_law_1911 dL_law_1913 dL_law_1916 dL_law_1917 dL_law_1918 dL_law_1919 dL_law_1921 dL_law_1922 dL_law_1923 dL_law_1928 (by decide) (fun M2 h => kk _ _ _ M2 h)
theorem lL_op30 {nm : String} {hh : List (Nat × Nat × Nat × Nat)} {l : Launch} {κ : KP} {ad : Nat → Nat} {q m sA tA nA i bc bs : Nat} {M : Mem} {z : Zs} {dn n : Nat} {P : FPost} (hD : LD ad q m sA tA nA) (hL : LI κ ad q m sA tA nA M z dn n) (hi : i + 5 ≤ kL κ) (hk : kL κ ≤ 2560) (kk : ∀ (z' : Zs) (dn' n' : Nat) (M2 : Mem), LI κ ad q m sA tA nA M2 z' dn' n' → fR l κ (mL_law nm hh) 2098 (LV κ ad q m i) [] M2 bc bs P) : fR l κ (mL_law nm hh) 1931 (LV κ ad q m i) [] M (bc + 1) (bs + 6) P := by
  obtain ⟨th, ap, pt, hs, nu, f, hC, hq, hM⟩ := hL
  obtain ⟨g, sn, kp, tx, ln⟩ := z
  replace hM : M = RM M m sA tA nA th (nI sn) (bI kp) (nI ln) ap pt hs g tx nu := hM
  have hI : BI g dn n := hC.2.2.1
  have hsn : sn ≤ 6 := hC.2.1.s6
  obtain ⟨ch, hTX⟩ := hC.2.2.2.2
  replace hTX : TX tx ln ch := hTX
  have hln := hTX.1
  refine r_aload_n dL_law_1931 rfl ?_
  refine r_aload_n dL_law_1932 rfl ?_
  refine r_iload dL_law_1933 rfl ?_
  refine r_iconst (v := nI 1) dL_law_1935 (by decide) ?_
  refine r_iaddN dL_law_1936 ?_
  refine r_sld dL_law_1937 (vp_in_nI (by omega) (by omega)) ?_
  refine r_top (y := kX κ (i + 1)) (by rw [nI_clamp (by omega)]) ?_
  refine r_aload_n dL_law_1938 rfl ?_
  refine fR_callSH (As := [.ref (ad 254), .int (kX κ (i + 1)), .ref q]) dL_law_1939 (tL_readyIn hD.1 hC hq hD.2.1) rfl oL_readyIn rfl kL_214M sL_readyIn ⟨Nat.le_of_ble_eq_true rfl, Nat.le_of_ble_eq_true rfl, show 1 ≤ _ by omega, show 6 ≤ _ by omega⟩ (Nat.le_of_ble_eq_true rfl) (fun E M9 h => by cases h.2.1) (bc' := bc) (bs' := bs) rfl rfl (fun v M1 h => ?_)
  obtain ⟨h3, hv, ⟨dn', n', hC1⟩, ⟨f1, hf1, hf0⟩, ho⟩ := h
  cases hv
  show fR _ _ _ 1942 _ (.int (nI (oReadyIn ⟨g, sn, kp, tx, ln⟩ dn n (kX κ (i + 1))).1) :: []) _ _ _ _
  refine r_istore (lv' := (5, .int (nI (oReadyIn ⟨g, sn, kp, tx, ln⟩ dn n (kX κ (i + 1))).1)) :: LV κ ad q m i) dL_law_1942 (Nat.le_of_ble_eq_true rfl) rfl ?_
  have hM1 : M1 = _ := (RM_self hD.2.2.1 hM (ho m (Ne.symm hD.2.2.2.2.1) (fun t ht => Ne.symm (hD.2.2.2.1 t ht).1)) (ho sA (Ne.symm hD.2.2.2.2.2.1) (fun t ht => Ne.symm (hD.2.2.2.1 t ht).2.1)) (ho tA (Ne.symm hD.2.2.2.2.2.2.1) (fun t ht => Ne.symm (hD.2.2.2.1 t ht).2.2.1)) (ho nA (Ne.symm hD.2.2.2.2.2.2.2) (fun t ht => Ne.symm (hD.2.2.2.1 t ht).2.2.2)))
  refine r_mem hM1 ?_
  refine r_aload_n dL_law_1944 rfl ?_
  refine r_aload_n dL_law_1945 rfl ?_
  refine r_iload dL_law_1946 rfl ?_
  refine r_iconst (v := nI 1) dL_law_1948 (by decide) ?_
  refine r_iaddN dL_law_1949 ?_
  refine r_sld dL_law_1950 (vp_in_nI (by omega) (by omega)) ?_
  refine r_top (y := kX κ (i + 1)) (by rw [nI_clamp (by omega)]) ?_
  refine r_callVP0 (As := [.int (kX κ (i + 1))]) dL_law_1951 (tX9_readyIn_o hD.2.2.1 hI hsn hln) rfl RM_0 rfl rfl oX9_readyIn rfl kL_216M nX9_readyIn eX9_readyIn ⟨Nat.le_of_ble_eq_true rfl, Nat.le_of_ble_eq_true rfl, Nat.zero_le _, Nat.zero_le _⟩ (Nat.le_of_ble_eq_true rfl) (bc' := bc) (bs' := bs) rfl rfl (fun E M9 h => by obtain ⟨_, _, _, _, h, _⟩ := h; cases h) (fun v M2 h => ?_)
  obtain ⟨ap2, pt2, hs2, nu2, hv2, hM2⟩ := h
  cases hv2
  subst hM2
  show fR _ _ _ 1954 _ (.int (oReadyIn ⟨g, sn, kp, tx, ln⟩ dn n (kX κ (i + 1))).2.1 :: []) _ _ _ _
  refine r_istore (lv' := (6, .int (oReadyIn ⟨g, sn, kp, tx, ln⟩ dn n (kX κ (i + 1))).2.1) :: (5, .int (nI (oReadyIn ⟨g, sn, kp, tx, ln⟩ dn n (kX κ (i + 1))).1)) :: LV κ ad q m i) dL_law_1954 (Nat.le_of_ble_eq_true rfl) rfl ?_
  exact law_tail hD hC1 h3 hf1 hf0 dL_law_1956 dL_law_1957 dL_law_1960 dL_law_1962 dL_law_1967 dL_law_1969 dL_law_1972 dL_law_1973 dL_law_1974 dL_law_1975 dL_law_1977 dL_law_1978 dL_law_1979 dL_law_1984 (by decide) (fun M2 h => kk _ _ _ M2 h)
theorem lL_op31 {nm : String} {hh : List (Nat × Nat × Nat × Nat)} {l : Launch} {κ : KP} {ad : Nat → Nat} {q m sA tA nA i bc bs : Nat} {M : Mem} {z : Zs} {dn n : Nat} {P : FPost} (hD : LD ad q m sA tA nA) (hL : LI κ ad q m sA tA nA M z dn n) (hi : i + 5 ≤ kL κ) (hk : kL κ ≤ 2560) (kk : ∀ (z' : Zs) (dn' n' : Nat) (M2 : Mem), LI κ ad q m sA tA nA M2 z' dn' n' → fR l κ (mL_law nm hh) 2098 (LV κ ad q m i) [] M2 bc bs P) : fR l κ (mL_law nm hh) 1987 (LV κ ad q m i) [] M (bc + 1) (bs + 6) P := by
  obtain ⟨th, ap, pt, hs, nu, f, hC, hq, hM⟩ := hL
  obtain ⟨g, sn, kp, tx, ln⟩ := z
  replace hM : M = RM M m sA tA nA th (nI sn) (bI kp) (nI ln) ap pt hs g tx nu := hM
  have hI : BI g dn n := hC.2.2.1
  have hsn : sn ≤ 6 := hC.2.1.s6
  obtain ⟨ch, hTX⟩ := hC.2.2.2.2
  replace hTX : TX tx ln ch := hTX
  have hln := hTX.1
  refine r_aload_n dL_law_1987 rfl ?_
  refine r_aload_n dL_law_1988 rfl ?_
  refine r_iload dL_law_1989 rfl ?_
  refine r_iconst (v := nI 1) dL_law_1991 (by decide) ?_
  refine r_iaddN dL_law_1992 ?_
  refine r_sld dL_law_1993 (vp_in_nI (by omega) (by omega)) ?_
  refine r_top (y := kX κ (i + 1)) (by rw [nI_clamp (by omega)]) ?_
  refine r_aload_n dL_law_1994 rfl ?_
  refine fR_callSH (As := [.ref (ad 254), .int (kX κ (i + 1)), .ref q]) dL_law_1995 (tL_bestBath hD.1 hC hq hD.2.1) rfl oL_bestBath rfl kL_217M sL_bestBath ⟨Nat.le_of_ble_eq_true rfl, Nat.le_of_ble_eq_true rfl, show 1 ≤ _ by omega, show 6 ≤ _ by omega⟩ (Nat.le_of_ble_eq_true rfl) (fun E M9 h => by cases h.2.1) (bc' := bc) (bs' := bs) rfl rfl (fun v M1 h => ?_)
  obtain ⟨h3, hv, ⟨dn', n', hC1⟩, ⟨f1, hf1, hf0⟩, ho⟩ := h
  cases hv
  show fR _ _ _ 1998 _ (.int (nI (oBestBath ⟨g, sn, kp, tx, ln⟩ dn n (kX κ (i + 1))).1) :: []) _ _ _ _
  refine r_istore (lv' := (5, .int (nI (oBestBath ⟨g, sn, kp, tx, ln⟩ dn n (kX κ (i + 1))).1)) :: LV κ ad q m i) dL_law_1998 (Nat.le_of_ble_eq_true rfl) rfl ?_
  have hM1 : M1 = _ := (RM_self hD.2.2.1 hM (ho m (Ne.symm hD.2.2.2.2.1) (fun t ht => Ne.symm (hD.2.2.2.1 t ht).1)) (ho sA (Ne.symm hD.2.2.2.2.2.1) (fun t ht => Ne.symm (hD.2.2.2.1 t ht).2.1)) (ho tA (Ne.symm hD.2.2.2.2.2.2.1) (fun t ht => Ne.symm (hD.2.2.2.1 t ht).2.2.1)) (ho nA (Ne.symm hD.2.2.2.2.2.2.2) (fun t ht => Ne.symm (hD.2.2.2.1 t ht).2.2.2)))
  refine r_mem hM1 ?_
  refine r_aload_n dL_law_2000 rfl ?_
  refine r_aload_n dL_law_2001 rfl ?_
  refine r_iload dL_law_2002 rfl ?_
  refine r_iconst (v := nI 1) dL_law_2004 (by decide) ?_
  refine r_iaddN dL_law_2005 ?_
  refine r_sld dL_law_2006 (vp_in_nI (by omega) (by omega)) ?_
  refine r_top (y := kX κ (i + 1)) (by rw [nI_clamp (by omega)]) ?_
  refine r_callVP0 (As := [.int (kX κ (i + 1))]) dL_law_2007 (tX9_bestBath_o hD.2.2.1 hI hsn hln) rfl RM_0 rfl rfl oX9_bestBath rfl kL_219M nX9_bestBath eX9_bestBath ⟨Nat.le_of_ble_eq_true rfl, Nat.le_of_ble_eq_true rfl, Nat.zero_le _, Nat.zero_le _⟩ (Nat.le_of_ble_eq_true rfl) (bc' := bc) (bs' := bs) rfl rfl (fun E M9 h => by obtain ⟨_, _, _, _, h, _⟩ := h; cases h) (fun v M2 h => ?_)
  obtain ⟨ap2, pt2, hs2, nu2, hv2, hM2⟩ := h
  cases hv2
  subst hM2
  show fR _ _ _ 2010 _ (.int (oBestBath ⟨g, sn, kp, tx, ln⟩ dn n (kX κ (i + 1))).2.1 :: []) _ _ _ _
  refine r_istore (lv' := (6, .int (oBestBath ⟨g, sn, kp, tx, ln⟩ dn n (kX κ (i + 1))).2.1) :: (5, .int (nI (oBestBath ⟨g, sn, kp, tx, ln⟩ dn n (kX κ (i + 1))).1)) :: LV κ ad q m i) dL_law_2010 (Nat.le_of_ble_eq_true rfl) rfl ?_
  exact law_tail hD hC1 h3 hf1 hf0 dL_law_2012 dL_law_2013 dL_law_2016 dL_law_2018 dL_law_2023 dL_law_2025 dL_law_2028 dL_law_2029 dL_law_2030 dL_law_2031 dL_law_2033 dL_law_2034 dL_law_2035 dL_law_2040 (by decide) (fun M2 h => kk _ _ _ M2 h)
theorem lL_op32 {nm : String} {hh : List (Nat × Nat × Nat × Nat)} {l : Launch} {κ : KP} {ad : Nat → Nat} {q m sA tA nA i bc bs : Nat} {M : Mem} {z : Zs} {dn n : Nat} {P : FPost} (hD : LD ad q m sA tA nA) (hL : LI κ ad q m sA tA nA M z dn n) (hi : i + 5 ≤ kL κ) (hk : kL κ ≤ 2560) (kk : ∀ (z' : Zs) (dn' n' : Nat) (M2 : Mem), LI κ ad q m sA tA nA M2 z' dn' n' → fR l κ (mL_law nm hh) 2098 (LV κ ad q m i) [] M2 bc bs P) : fR l κ (mL_law nm hh) 2043 (LV κ ad q m i) [] M (bc + 0) (bs + 0) P := by
  obtain ⟨th, ap, pt, hs, nu, f, hC, hq, hM⟩ := hL
  obtain ⟨g, sn, kp, tx, ln⟩ := z
  replace hM : M = RM M m sA tA nA th (nI sn) (bI kp) (nI ln) ap pt hs g tx nu := hM
  have hI : BI g dn n := hC.2.2.1
  have hsn : sn ≤ 6 := hC.2.1.s6
  obtain ⟨ch, hTX⟩ := hC.2.2.2.2
  replace hTX : TX tx ln ch := hTX
  have hln := hTX.1
  refine r_aload_n dL_law_2043 rfl ?_
  refine r_callV0 (As := []) dL_law_2044 (tX8_readShare hD.1 hC) rfl hC.1 rfl rfl oX8_readShare rfl kL_220M nX8_readShare eX8_readShare ⟨Nat.le_of_ble_eq_true rfl, Nat.le_of_ble_eq_true rfl, Nat.zero_le _, Nat.zero_le _⟩ (Nat.le_of_ble_eq_true rfl) (bc' := bc) (bs' := bs) rfl rfl ?_
  show fR _ _ _ 2047 _ (.double (shD (pPend g n) n) :: []) _ _ _ _
  refine r_dstore (lv' := (5, .double (shD (pPend g n) n)) :: LV κ ad q m i) dL_law_2047 (Nat.le_of_ble_eq_true rfl) rfl ?_
  refine r_mem hM ?_
  refine r_aload_n dL_law_2049 rfl ?_
  refine r_callVP0 (As := []) dL_law_2050 (tX9_readShare_o hD.2.2.1 hI hsn hln) rfl RM_0 rfl rfl oX9_readShare rfl kL_224M nX9_readShare eX9_readShare ⟨Nat.le_of_ble_eq_true rfl, Nat.le_of_ble_eq_true rfl, Nat.zero_le _, Nat.zero_le _⟩ (Nat.le_of_ble_eq_true rfl) (bc' := bc) (bs' := bs) rfl rfl (fun E M9 h => by cases h.1) (fun v M2 h => ?_)
  obtain ⟨hv2, ap2, pt2, hs2, nu2, hM2⟩ := h
  cases hv2
  subst hM2
  show fR _ _ _ 2053 _ (.double (shD (pPend g n) n) :: []) _ _ _ _
  refine r_dstore (lv' := (7, .double (shD (pPend g n) n)) :: (5, .double (shD (pPend g n) n)) :: LV κ ad q m i) dL_law_2053 (Nat.le_of_ble_eq_true rfl) rfl ?_
  refine r_dload dL_law_2055 rfl ?_
  refine r_dload dL_law_2057 rfl ?_
  refine r_dcmp dL_law_2059 ?_
  refine r_if_eq (tgt := 2081) dL_law_2060 (by decide) (fun _ => ?_) (fun c => absurd (shOk_at pPend_le hI.nle).2.2.1 c)
  refine r_goto (tgt := 2098) dL_law_2081 (by decide) ?_
  refine r_lv (lv' := LV κ ad q m i) (by simp [LV]) ?_
  exact kk ⟨g, sn, kp, tx, ln⟩ dn n _ (LI.rm (z' := ⟨g, sn, kp, tx, ln⟩) hD hC hq)
theorem lL_op33 {nm : String} {hh : List (Nat × Nat × Nat × Nat)} {l : Launch} {κ : KP} {ad : Nat → Nat} {q m sA tA nA i bc bs : Nat} {M : Mem} {z : Zs} {dn n : Nat} {P : FPost} (hD : LD ad q m sA tA nA) (hL : LI κ ad q m sA tA nA M z dn n) (hi : i + 5 ≤ kL κ) (hk : kL κ ≤ 2560) (kk : ∀ (z' : Zs) (dn' n' : Nat) (M2 : Mem), LI κ ad q m sA tA nA M2 z' dn' n' → fR l κ (mL_law nm hh) 2098 (LV κ ad q m i) [] M2 bc bs P) : fR l κ (mL_law nm hh) 2084 (LV κ ad q m i) [] M (bc + 0) (bs + 0) P := by
  obtain ⟨th, ap, pt, hs, nu, f, hC, hq, hM⟩ := hL
  obtain ⟨g, sn, kp, tx, ln⟩ := z
  replace hM : M = RM M m sA tA nA th (nI sn) (bI kp) (nI ln) ap pt hs g tx nu := hM
  have hI : BI g dn n := hC.2.2.1
  have hsn : sn ≤ 6 := hC.2.1.s6
  obtain ⟨ch, hTX⟩ := hC.2.2.2.2
  replace hTX : TX tx ln ch := hTX
  have hln := hTX.1
  refine r_aload_n dL_law_2084 rfl ?_
  refine r_callV0 (As := []) dL_law_2085 (tX8_digest hD.1 hC) rfl hC.1 rfl rfl oX8_digest rfl kL_225M nX8_digest eX8_digest ⟨Nat.le_of_ble_eq_true rfl, Nat.le_of_ble_eq_true rfl, Nat.zero_le _, Nat.zero_le _⟩ (Nat.le_of_ble_eq_true rfl) (bc' := bc) (bs' := bs) rfl rfl ?_
  show fR _ _ _ 2088 _ (.long (pDigest ⟨g, sn, kp, tx, ln⟩ dn n) :: []) _ _ _ _
  refine r_mem hM ?_
  refine r_aload_n dL_law_2088 rfl ?_
  refine r_callVP0 (As := []) dL_law_2089 (tX9_digest_o hD.2.2.1 hI hsn hln) rfl RM_0 rfl rfl oX9_digest rfl kL_229M nX9_digest eX9_digest ⟨Nat.le_of_ble_eq_true rfl, Nat.le_of_ble_eq_true rfl, Nat.zero_le _, Nat.zero_le _⟩ (Nat.le_of_ble_eq_true rfl) (bc' := bc) (bs' := bs) rfl rfl (fun E M9 h => by cases h.1) (fun v M2 h => ?_)
  obtain ⟨hv2, ap2, pt2, hs2, nu2, hM2⟩ := h
  cases hv2
  subst hM2
  show fR _ _ _ 2092 _ (.long (pDigest ⟨g, sn, kp, tx, ln⟩ dn n) :: (.long (pDigest ⟨g, sn, kp, tx, ln⟩ dn n) :: [])) _ _ _ _
  refine r_lcmp dL_law_2092 ?_
  refine r_top lcmp_same ?_
  refine r_if_eqN (tgt := 2098) dL_law_2093 (by decide) (by omega) (fun _ => ?_) (fun c => absurd rfl c)
  exact kk ⟨g, sn, kp, tx, ln⟩ dn n _ (LI.rm (z' := ⟨g, sn, kp, tx, ln⟩) hD hC hq)
