/-! A SAMPLE HANGS TOGETHER -/
theorem lL_isSample_D {l : Launch} {κ : KP} {M : Mem} {ad : Nat → Nat} {g tx : Nat → Int32} {dn n sn ln : Nat} {kp : Bool} (hA : aInj ad) (hC : ClsAt κ ad M ⟨g, sn, kp, tx, ln⟩ dn n) {k : Nat} (hk : k < n) {x : Int32} (hX3 : ∀ b, b < 3 → pInBath g n (nI b) ≤ 3) (hx : pWhy g k = 0 → pPen g k = x / nI 3) : fR l κ mL_isSample 373 [(6, .int (x)), (5, .int (nI (1))), (4, .int ((pPen g k))), (3, .int ((pWhy g k))), (2, .int (nI ((pMany g k)))), (1, .int (nI (k))), (0, .ref (ad 254))] [] M 0 0 (isI (nI 1) M) := by
  have hI : BI g dn n := hC.2.2.1
  have hdn := hI.dle
  have hn := hI.nle
  have hsn : sn ≤ 6 := hC.2.1.s6
  have hm9 := (hI.mM k hk).2
  refine r_aload_n dL_isSample_373 rfl ?_
  refine r_iload_n dL_isSample_374 rfl ?_
  refine r_callV (As := [.int (nI (k))]) dL_isSample_375 (fM_isI (v' := (pBF g n k 3)) (tZ_bestBath hA hC (by omega)) rfl) rfl hC.1 rfl rfl oX8_bestBathZ rfl kL_94M nX8_bestBathZ eX8_bestBathZ (by unfold fRoom; decide) (Nat.le_of_ble_eq_true rfl) rfl (bc' := 0) (bs' := 0) rfl rfl ?_
  show fR _ _ _ 378 _ (.int (pBF g n k 3) :: _) _ _ _ _
  refine r_istore (lv' := [(7, .int (pBF g n k 3)), (6, .int (x)), (5, .int (nI (1))), (4, .int ((pPen g k))), (3, .int ((pWhy g k))), (2, .int (nI ((pMany g k)))), (1, .int (nI (k))), (0, .ref (ad 254))]) dL_isSample_378 (by decide) rfl ?_
  by_cases w0 : pWhy g k = 0
  · skip
    refine r_iload dL_isSample_380 rfl ?_
    refine r_if_eqN (tgt := 419) dL_isSample_382 (by decide) (by omega) (fun c1 => absurd c1 (by omega)) (fun c1 => ?_)
    refine r_iload_n dL_isSample_385 rfl ?_
    refine r_if_gt (tgt := 398) dL_isSample_386 (by decide) (fun c2 => by exact absurd c2 (by rw [w0]; decide)) (fun c2 => ?_)
    refine r_iload dL_isSample_389 rfl ?_
    refine r_iload dL_isSample_391 rfl ?_
    refine r_iconst (v := nI 3) dL_isSample_393 (by decide) ?_
    refine r_idiv dL_isSample_394 (by decide) ?_
    refine r_icmp_ne (tgt := 419) dL_isSample_395 (by decide) (fun c3 => by exact absurd (hx w0) c3) (fun c3 => ?_)
    by_cases b1 : pBF g n k 3 = -1
    · skip
      refine r_iload dL_isSample_398 rfl ?_
      refine r_iconst (v := (-1)) dL_isSample_400 (by decide) ?_
      refine r_icmp_eq (tgt := 415) dL_isSample_401 (by decide) (fun c4 => ?_) (fun c4 => by exact absurd b1 c4)
      refine r_iconst (v := nI 1) dL_isSample_415 (by decide) ?_
      refine r_goto (tgt := 420) dL_isSample_416 (by decide) ?_
      exact fR_zret dL_isSample_420 rfl rfl (isI_of (by rfl))
    · skip
      obtain ⟨b, hb, eb⟩ := (pBF_of (g := g) (n := n) (k := k) 3 (Nat.le_refl 3)).resolve_left b1
      have hib := hX3 b hb
      refine r_iload dL_isSample_398 rfl ?_
      refine r_iconst (v := (-1)) dL_isSample_400 (by decide) ?_
      refine r_icmp_eq (tgt := 415) dL_isSample_401 (by decide) (fun c5 => by exact absurd c5 b1) (fun c5 => ?_)
      refine r_aload_n dL_isSample_404 rfl ?_
      refine r_iload dL_isSample_405 rfl ?_
      refine r_top (y := nI b) eb ?_
      refine r_iconst (v := nI 1) dL_isSample_407 (by decide) ?_
      refine r_callV (As := [.int (nI (b)), .int (nI (1))]) dL_isSample_408 (fM_isI (v' := (nI (pInBath g n (nI b)))) (tZ_bathOf hA hC (by omega) (by omega)) rfl) rfl hC.1 rfl rfl oX8_bathOfZ rfl kL_33M nX8_bathOfZ eX8_bathOfZ (by unfold fRoom; decide) (Nat.le_of_ble_eq_true rfl) rfl (bc' := 0) (bs' := 0) rfl rfl ?_
      show fR _ _ _ 411 _ (.int (nI (pInBath g n (nI b))) :: _) _ _ _ _
      refine r_iconst (v := nI 3) dL_isSample_411 (by decide) ?_
      refine r_icmp_gtN (tgt := 419) dL_isSample_412 (by decide) (by omega) (by omega) (fun c6 => by omega) (fun c6 => ?_)
      refine r_iconst (v := nI 1) dL_isSample_415 (by decide) ?_
      refine r_goto (tgt := 420) dL_isSample_416 (by decide) ?_
      exact fR_zret dL_isSample_420 rfl rfl (isI_of (by rfl))
  · skip
    refine r_iload dL_isSample_380 rfl ?_
    refine r_if_eqN (tgt := 419) dL_isSample_382 (by decide) (by omega) (fun c7 => absurd c7 (by omega)) (fun c7 => ?_)
    refine r_iload_n dL_isSample_385 rfl ?_
    refine r_if_gt (tgt := 398) dL_isSample_386 (by decide) (fun c8 => ?_) (fun c8 => by exact absurd (pWhy_pos.1.mpr w0) c8)
    by_cases b1 : pBF g n k 3 = -1
    · skip
      refine r_iload dL_isSample_398 rfl ?_
      refine r_iconst (v := (-1)) dL_isSample_400 (by decide) ?_
      refine r_icmp_eq (tgt := 415) dL_isSample_401 (by decide) (fun c9 => ?_) (fun c9 => by exact absurd b1 c9)
      refine r_iconst (v := nI 1) dL_isSample_415 (by decide) ?_
      refine r_goto (tgt := 420) dL_isSample_416 (by decide) ?_
      exact fR_zret dL_isSample_420 rfl rfl (isI_of (by rfl))
    · skip
      obtain ⟨b, hb, eb⟩ := (pBF_of (g := g) (n := n) (k := k) 3 (Nat.le_refl 3)).resolve_left b1
      have hib := hX3 b hb
      refine r_iload dL_isSample_398 rfl ?_
      refine r_iconst (v := (-1)) dL_isSample_400 (by decide) ?_
      refine r_icmp_eq (tgt := 415) dL_isSample_401 (by decide) (fun c10 => by exact absurd c10 b1) (fun c10 => ?_)
      refine r_aload_n dL_isSample_404 rfl ?_
      refine r_iload dL_isSample_405 rfl ?_
      refine r_top (y := nI b) eb ?_
      refine r_iconst (v := nI 1) dL_isSample_407 (by decide) ?_
      refine r_callV (As := [.int (nI (b)), .int (nI (1))]) dL_isSample_408 (fM_isI (v' := (nI (pInBath g n (nI b)))) (tZ_bathOf hA hC (by omega) (by omega)) rfl) rfl hC.1 rfl rfl oX8_bathOfZ rfl kL_33M nX8_bathOfZ eX8_bathOfZ (by unfold fRoom; decide) (Nat.le_of_ble_eq_true rfl) rfl (bc' := 0) (bs' := 0) rfl rfl ?_
      show fR _ _ _ 411 _ (.int (nI (pInBath g n (nI b))) :: _) _ _ _ _
      refine r_iconst (v := nI 3) dL_isSample_411 (by decide) ?_
      refine r_icmp_gtN (tgt := 419) dL_isSample_412 (by decide) (by omega) (by omega) (fun c11 => by omega) (fun c11 => ?_)
      refine r_iconst (v := nI 1) dL_isSample_415 (by decide) ?_
      refine r_goto (tgt := 420) dL_isSample_416 (by decide) ?_
      exact fR_zret dL_isSample_420 rfl rfl (isI_of (by rfl))
theorem lL_isSample_Cn {l : Launch} {κ : KP} {M : Mem} {ad : Nat → Nat} {g tx : Nat → Int32} {dn n sn ln : Nat} {kp : Bool} (hA : aInj ad) (hC : ClsAt κ ad M ⟨g, sn, kp, tx, ln⟩ dn n) {k : Nat} (hk : k < n) (hX3 : ∀ b, b < 3 → pInBath g n (nI b) ≤ 3) (w0 : ¬ pWhy g k = 0) : fR l κ mL_isSample 222 [(5, .int (nI (1))), (4, .int ((pPen g k))), (3, .int ((pWhy g k))), (2, .int (nI ((pMany g k)))), (1, .int (nI (k))), (0, .ref (ad 254))] [] M 0 0 (isI (nI 1) M) := by
  have hI : BI g dn n := hC.2.2.1
  have hdn := hI.dle
  have hn := hI.nle
  have hsn : sn ≤ 6 := hC.2.1.s6
  have hm9 := (hI.mM k hk).2
  refine r_iconst (v := nI 0) dL_isSample_222 (by decide) ?_
  refine r_istore (lv' := [(6, .int (nI (0))), (5, .int (nI (1))), (4, .int ((pPen g k))), (3, .int ((pWhy g k))), (2, .int (nI ((pMany g k)))), (1, .int (nI (k))), (0, .ref (ad 254))]) dL_isSample_223 (by decide) rfl ?_
  refine r_iload_n dL_isSample_225 rfl ?_
  refine r_iconst (v := nI 3) dL_isSample_226 (by decide) ?_
  refine r_isub dL_isSample_227 ?_
  refine r_istore (lv' := [(7, .int (((nI ((pMany g k))) - (nI (3))))), (6, .int (nI (0))), (5, .int (nI (1))), (4, .int ((pPen g k))), (3, .int ((pWhy g k))), (2, .int (nI ((pMany g k)))), (1, .int (nI (k))), (0, .ref (ad 254))]) dL_isSample_228 (by decide) rfl ?_
  refine r_iload dL_isSample_230 rfl ?_
  refine r_iload_n dL_isSample_232 rfl ?_
  refine r_icmp_ge (tgt := 373) dL_isSample_233 (by decide) (fun c1 => ?_) (fun c1 => ?_)
  · skip
    refine r_lv (lv' := [(6, .int (nI (0))), (5, .int (nI (1))), (4, .int ((pPen g k))), (3, .int ((pWhy g k))), (2, .int (nI ((pMany g k)))), (1, .int (nI (k))), (0, .ref (ad 254))]) (by simp) ?_
    exact lL_isSample_D hA hC hk hX3 (fun z => absurd z w0)
  · skip
    refine r_iload dL_isSample_236 rfl ?_
    refine r_if_eqN (tgt := 373) dL_isSample_238 (by decide) (by omega) (fun c2 => absurd c2 (by omega)) (fun c2 => ?_)
    refine r_iload_n dL_isSample_241 rfl ?_
    refine r_if_ne (tgt := 373) dL_isSample_242 (by decide) (fun c3 => ?_) (fun c3 => by exact absurd c3 w0)
    refine r_lv (lv' := [(6, .int (nI (0))), (5, .int (nI (1))), (4, .int ((pPen g k))), (3, .int ((pWhy g k))), (2, .int (nI ((pMany g k)))), (1, .int (nI (k))), (0, .ref (ad 254))]) (by simp) ?_
    exact lL_isSample_D hA hC hk hX3 (fun z => absurd z w0)
theorem lL_isSample_Cy {l : Launch} {κ : KP} {M : Mem} {ad : Nat → Nat} {g tx : Nat → Int32} {dn n sn ln : Nat} {kp : Bool} (hA : aInj ad) (hC : ClsAt κ ad M ⟨g, sn, kp, tx, ln⟩ dn n) {k : Nat} (hk : k < n) (hX3 : ∀ b, b < 3 → pInBath g n (nI b) ≤ 3) (w0 : pWhy g k = 0) : fR l κ mL_isSample 222 [(5, .int (nI (1))), (4, .int ((pPen g k))), (3, .int ((pWhy g k))), (2, .int (nI ((pMany g k)))), (1, .int (nI (k))), (0, .ref (ad 254))] [] M 0 0 (isI (nI 1) M) := by
  have hI : BI g dn n := hC.2.2.1
  have hdn := hI.dle
  have hn := hI.nle
  have hsn : sn ≤ 6 := hC.2.1.s6
  have hm9 := (hI.mM k hk).2
  have h3 := pWhy_many (pWhy_pos.2.mpr w0)
  have hR := pWhy_are w0
  refine r_iconst (v := nI 0) dL_isSample_222 (by decide) ?_
  refine r_istore (lv' := [(6, .int (nI (0))), (5, .int (nI (1))), (4, .int ((pPen g k))), (3, .int ((pWhy g k))), (2, .int (nI ((pMany g k)))), (1, .int (nI (k))), (0, .ref (ad 254))]) dL_isSample_223 (by decide) rfl ?_
  refine r_iload_n dL_isSample_225 rfl ?_
  refine r_iconst (v := nI 3) dL_isSample_226 (by decide) ?_
  refine r_isubN dL_isSample_227 (by omega) ?_
  refine r_istore (lv' := [(7, .int (nI (((pMany g k) - 3)))), (6, .int (nI (0))), (5, .int (nI (1))), (4, .int ((pPen g k))), (3, .int ((pWhy g k))), (2, .int (nI ((pMany g k)))), (1, .int (nI (k))), (0, .ref (ad 254))]) dL_isSample_228 (by decide) rfl ?_
  refine r_iload dL_isSample_230 rfl ?_
  refine r_iload_n dL_isSample_232 rfl ?_
  refine r_icmp_geN (tgt := 373) dL_isSample_233 (by decide) (by omega) (by omega) (fun c1 => by omega) (fun c1 => ?_)
  refine r_iload dL_isSample_236 rfl ?_
  refine r_if_eqN (tgt := 373) dL_isSample_238 (by decide) (by omega) (fun c2 => absurd c2 (by omega)) (fun c2 => ?_)
  refine r_iload_n dL_isSample_241 rfl ?_
  refine r_if_ne (tgt := 373) dL_isSample_242 (by decide) (fun c3 => by exact absurd w0 c3) (fun c3 => ?_)
  refine r_iload dL_isSample_245 rfl ?_
  refine r_aload_n dL_isSample_247 rfl ?_
  refine r_iload_n dL_isSample_248 rfl ?_
  refine r_iload dL_isSample_249 rfl ?_
  refine r_iconst (v := nI 1) dL_isSample_251 (by decide) ?_
  refine r_callV (As := [.int (nI (k)), .int (nI (((pMany g k) - 3))), .int (nI (1))]) dL_isSample_252 (fM_isI (v' := (pLat g k 2 1)) (tZ_rd hA hC (by omega) (by omega) (by omega)) (by unfold rdF pLat; rw [if_pos (by omega)]; congr 1; omega)) rfl hC.1 rfl rfl oX8_readingZ rfl kL_26M nX8_readingZ eX8_readingZ (by unfold fRoom; decide) (Nat.le_of_ble_eq_true rfl) rfl (bc' := 0) (bs' := 0) rfl rfl ?_
  show fR _ _ _ 255 _ (.int (pLat g k 2 1) :: _) _ _ _ _
  refine r_iadd dL_isSample_255 ?_
  refine r_istore (lv' := [(6, .int (((nI (0)) + (pLat g k 2 1)))), (7, .int (nI (((pMany g k) - 3)))), (5, .int (nI (1))), (4, .int ((pPen g k))), (3, .int ((pWhy g k))), (2, .int (nI ((pMany g k)))), (1, .int (nI (k))), (0, .ref (ad 254))]) dL_isSample_256 (by decide) rfl ?_
  refine r_aload_n dL_isSample_258 rfl ?_
  refine r_iload_n dL_isSample_259 rfl ?_
  refine r_iload dL_isSample_260 rfl ?_
  refine r_iconst (v := nI 2) dL_isSample_262 (by decide) ?_
  refine r_callV (As := [.int (nI (k)), .int (nI (((pMany g k) - 3))), .int (nI (2))]) dL_isSample_263 (fM_isI (v' := (pLat g k 2 2)) (tZ_rd hA hC (by omega) (by omega) (by omega)) (by unfold rdF pLat; rw [if_pos (by omega)]; congr 1; omega)) rfl hC.1 rfl rfl oX8_readingZ rfl kL_26M nX8_readingZ eX8_readingZ (by unfold fRoom; decide) (Nat.le_of_ble_eq_true rfl) rfl (bc' := 0) (bs' := 0) rfl rfl ?_
  show fR _ _ _ 266 _ (.int (pLat g k 2 2) :: _) _ _ _ _
  refine r_bipush (v := nI 100) dL_isSample_266 (by decide) ?_
  refine r_icmp_ne (tgt := 309) dL_isSample_268 (by decide) (fun c4 => by exact absurd (pAre_at hR.1 2 (by omega)).1 c4) (fun c4 => ?_)
  refine r_aload_n dL_isSample_271 rfl ?_
  refine r_iload_n dL_isSample_272 rfl ?_
  refine r_iload dL_isSample_273 rfl ?_
  refine r_iconst (v := nI 3) dL_isSample_275 (by decide) ?_
  refine r_callV (As := [.int (nI (k)), .int (nI (((pMany g k) - 3))), .int (nI (3))]) dL_isSample_276 (fM_isI (v' := (pLat g k 2 3)) (tZ_rd hA hC (by omega) (by omega) (by omega)) (by unfold rdF pLat; rw [if_pos (by omega)]; congr 1; omega)) rfl hC.1 rfl rfl oX8_readingZ rfl kL_26M nX8_readingZ eX8_readingZ (by unfold fRoom; decide) (Nat.le_of_ble_eq_true rfl) rfl (bc' := 0) (bs' := 0) rfl rfl ?_
  show fR _ _ _ 279 _ (.int (pLat g k 2 3) :: _) _ _ _ _
  refine r_iconst (v := nI 5) dL_isSample_279 (by decide) ?_
  refine r_icmp_ne (tgt := 309) dL_isSample_280 (by decide) (fun c5 => by exact absurd (pAre_at hR.1 2 (by omega)).2 c5) (fun c5 => ?_)
  refine r_aload_n dL_isSample_283 rfl ?_
  refine r_iload_n dL_isSample_284 rfl ?_
  refine r_bipush (v := nI 8) dL_isSample_285 (by decide) ?_
  refine r_callV (As := [.int (nI (k)), .int (nI (8))]) dL_isSample_287 (fM_isI (v' := (pNeed g k)) (tZ_sampleOf hA hC (by omega) (by omega)) rfl) rfl hC.1 rfl rfl oX8_sampleOfZ rfl kL_23M nX8_sampleOfZ eX8_sampleOfZ (by unfold fRoom; decide) (Nat.le_of_ble_eq_true rfl) rfl (bc' := 0) (bs' := 0) rfl rfl ?_
  show fR _ _ _ 290 _ (.int (pNeed g k) :: _) _ _ _ _
  refine r_aload_n dL_isSample_290 rfl ?_
  refine r_iload_n dL_isSample_291 rfl ?_
  refine r_iload dL_isSample_292 rfl ?_
  refine r_iconst (v := nI 0) dL_isSample_294 (by decide) ?_
  refine r_callV (As := [.int (nI (k)), .int (nI (((pMany g k) - 3))), .int (nI (0))]) dL_isSample_295 (fM_isI (v' := (pLat g k 2 0)) (tZ_rd hA hC (by omega) (by omega) (by omega)) (by unfold rdF pLat; rw [if_pos (by omega)]; congr 1; omega)) rfl hC.1 rfl rfl oX8_readingZ rfl kL_26M nX8_readingZ eX8_readingZ (by unfold fRoom; decide) (Nat.le_of_ble_eq_true rfl) rfl (bc' := 0) (bs' := 0) rfl rfl ?_
  show fR _ _ _ 298 _ (.int (pLat g k 2 0) :: _) _ _ _ _
  refine r_ishr dL_isSample_298 ?_
  refine r_iconst (v := nI 1) dL_isSample_299 (by decide) ?_
  refine r_iand dL_isSample_300 ?_
  refine r_iconst (v := nI 1) dL_isSample_301 (by decide) ?_
  refine r_icmp_ne (tgt := 309) dL_isSample_302 (by decide) (fun c6 => by exact absurd (pNeed_bit hI hk w0 (a := 2) (by omega)) c6) (fun c6 => ?_)
  refine r_iconst (v := nI 1) dL_isSample_305 (by decide) ?_
  refine r_goto (tgt := 310) dL_isSample_306 (by decide) ?_
  refine r_istore (lv' := [(5, .int (nI (1))), (6, .int (((nI (0)) + (pLat g k 2 1)))), (7, .int (nI (((pMany g k) - 3)))), (4, .int ((pPen g k))), (3, .int ((pWhy g k))), (2, .int (nI ((pMany g k)))), (1, .int (nI (k))), (0, .ref (ad 254))]) dL_isSample_310 (by decide) rfl ?_
  refine r_iload_n dL_isSample_312 rfl ?_
  refine r_iconst (v := nI 3) dL_isSample_313 (by decide) ?_
  refine r_isubN dL_isSample_314 (by omega) ?_
  refine r_istore (lv' := [(8, .int (nI (((pMany g k) - 3)))), (5, .int (nI (1))), (6, .int (((nI (0)) + (pLat g k 2 1)))), (7, .int (nI (((pMany g k) - 3)))), (4, .int ((pPen g k))), (3, .int ((pWhy g k))), (2, .int (nI ((pMany g k)))), (1, .int (nI (k))), (0, .ref (ad 254))]) dL_isSample_315 (by decide) rfl ?_
  refine r_iload dL_isSample_317 rfl ?_
  refine r_iload_n dL_isSample_319 rfl ?_
  refine r_icmp_geN (tgt := 367) dL_isSample_320 (by decide) (by omega) (by omega) (fun c7 => by omega) (fun c7 => ?_)
  refine r_iload dL_isSample_323 rfl ?_
  refine r_if_eqN (tgt := 358) dL_isSample_325 (by decide) (by omega) (fun c8 => absurd c8 (by omega)) (fun c8 => ?_)
  refine r_aload_n dL_isSample_328 rfl ?_
  refine r_iload_n dL_isSample_329 rfl ?_
  refine r_iload dL_isSample_330 rfl ?_
  refine r_iconst (v := nI 1) dL_isSample_332 (by decide) ?_
  refine r_callV (As := [.int (nI (k)), .int (nI (((pMany g k) - 3))), .int (nI (1))]) dL_isSample_333 (fM_isI (v' := (pLat g k 2 1)) (tZ_rd hA hC (by omega) (by omega) (by omega)) (by unfold rdF pLat; rw [if_pos (by omega)]; congr 1; omega)) rfl hC.1 rfl rfl oX8_readingZ rfl kL_26M nX8_readingZ eX8_readingZ (by unfold fRoom; decide) (Nat.le_of_ble_eq_true rfl) rfl (bc' := 0) (bs' := 0) rfl rfl ?_
  show fR _ _ _ 336 _ (.int (pLat g k 2 1) :: _) _ _ _ _
  refine r_aload_n dL_isSample_336 rfl ?_
  refine r_iload_n dL_isSample_337 rfl ?_
  refine r_iload dL_isSample_338 rfl ?_
  refine r_iconst (v := nI 1) dL_isSample_340 (by decide) ?_
  refine r_callV (As := [.int (nI (k)), .int (nI (((pMany g k) - 3))), .int (nI (1))]) dL_isSample_341 (fM_isI (v' := (pLat g k 2 1)) (tZ_rd hA hC (by omega) (by omega) (by omega)) (by unfold rdF pLat; rw [if_pos (by omega)]; congr 1; omega)) rfl hC.1 rfl rfl oX8_readingZ rfl kL_26M nX8_readingZ eX8_readingZ (by unfold fRoom; decide) (Nat.le_of_ble_eq_true rfl) rfl (bc' := 0) (bs' := 0) rfl rfl ?_
  show fR _ _ _ 344 _ (.int (pLat g k 2 1) :: _) _ _ _ _
  refine r_isub dL_isSample_344 ?_
  refine r_aload_n dL_isSample_345 rfl ?_
  refine r_bipush (v := nI 9) dL_isSample_346 (by decide) ?_
  refine r_callV (As := [.int (nI (9))]) dL_isSample_348 (fM_isI (v' := (g 6)) (tZ_count hA hC (by omega)) rfl) rfl hC.1 rfl rfl oX8_countZ rfl kL_13M nX8_countZ eX8_countZ (by unfold fRoom; decide) (Nat.le_of_ble_eq_true rfl) rfl (bc' := 0) (bs' := 0) rfl rfl ?_
  show fR _ _ _ 351 _ (.int (g 6) :: _) _ _ _ _
  refine r_icmp_gt (tgt := 358) dL_isSample_351 (by decide) (fun c9 => by exact absurd c9 (pLat_diff hI hk w0 (a := 2) (b := 2) (by omega) (by omega))) (fun c9 => ?_)
  refine r_iconst (v := nI 1) dL_isSample_354 (by decide) ?_
  refine r_goto (tgt := 359) dL_isSample_355 (by decide) ?_
  refine r_istore (lv' := [(5, .int (nI (1))), (8, .int (nI (((pMany g k) - 3)))), (6, .int (((nI (0)) + (pLat g k 2 1)))), (7, .int (nI (((pMany g k) - 3)))), (4, .int ((pPen g k))), (3, .int ((pWhy g k))), (2, .int (nI ((pMany g k)))), (1, .int (nI (k))), (0, .ref (ad 254))]) dL_isSample_359 (by decide) rfl ?_
  refine r_iinc (v := (nI (((pMany g k) - 3) + 1))) (lv' := [(8, .int (nI (((pMany g k) - 3) + 1))), (5, .int (nI (1))), (6, .int (((nI (0)) + (pLat g k 2 1)))), (7, .int (nI (((pMany g k) - 3)))), (4, .int ((pPen g k))), (3, .int ((pWhy g k))), (2, .int (nI ((pMany g k)))), (1, .int (nI (k))), (0, .ref (ad 254))]) dL_isSample_361 rfl (nI_inc _) (by decide) rfl ?_
  refine r_goto (tgt := 317) dL_isSample_364 (by decide) ?_
  refine r_iload dL_isSample_317 rfl ?_
  refine r_iload_n dL_isSample_319 rfl ?_
  refine r_icmp_geN (tgt := 367) dL_isSample_320 (by decide) (by omega) (by omega) (fun c10 => by omega) (fun c10 => ?_)
  refine r_iload dL_isSample_323 rfl ?_
  refine r_if_eqN (tgt := 358) dL_isSample_325 (by decide) (by omega) (fun c11 => absurd c11 (by omega)) (fun c11 => ?_)
  refine r_aload_n dL_isSample_328 rfl ?_
  refine r_iload_n dL_isSample_329 rfl ?_
  refine r_iload dL_isSample_330 rfl ?_
  refine r_iconst (v := nI 1) dL_isSample_332 (by decide) ?_
  refine r_callV (As := [.int (nI (k)), .int (nI (((pMany g k) - 3))), .int (nI (1))]) dL_isSample_333 (fM_isI (v' := (pLat g k 2 1)) (tZ_rd hA hC (by omega) (by omega) (by omega)) (by unfold rdF pLat; rw [if_pos (by omega)]; congr 1; omega)) rfl hC.1 rfl rfl oX8_readingZ rfl kL_26M nX8_readingZ eX8_readingZ (by unfold fRoom; decide) (Nat.le_of_ble_eq_true rfl) rfl (bc' := 0) (bs' := 0) rfl rfl ?_
  show fR _ _ _ 336 _ (.int (pLat g k 2 1) :: _) _ _ _ _
  refine r_aload_n dL_isSample_336 rfl ?_
  refine r_iload_n dL_isSample_337 rfl ?_
  refine r_iload dL_isSample_338 rfl ?_
  refine r_iconst (v := nI 1) dL_isSample_340 (by decide) ?_
  refine r_callV (As := [.int (nI (k)), .int (nI (((pMany g k) - 3) + 1)), .int (nI (1))]) dL_isSample_341 (fM_isI (v' := (pLat g k 1 1)) (tZ_rd hA hC (by omega) (by omega) (by omega)) (by unfold rdF pLat; rw [if_pos (by omega)]; congr 1; omega)) rfl hC.1 rfl rfl oX8_readingZ rfl kL_26M nX8_readingZ eX8_readingZ (by unfold fRoom; decide) (Nat.le_of_ble_eq_true rfl) rfl (bc' := 0) (bs' := 0) rfl rfl ?_
  show fR _ _ _ 344 _ (.int (pLat g k 1 1) :: _) _ _ _ _
  refine r_isub dL_isSample_344 ?_
  refine r_aload_n dL_isSample_345 rfl ?_
  refine r_bipush (v := nI 9) dL_isSample_346 (by decide) ?_
  refine r_callV (As := [.int (nI (9))]) dL_isSample_348 (fM_isI (v' := (g 6)) (tZ_count hA hC (by omega)) rfl) rfl hC.1 rfl rfl oX8_countZ rfl kL_13M nX8_countZ eX8_countZ (by unfold fRoom; decide) (Nat.le_of_ble_eq_true rfl) rfl (bc' := 0) (bs' := 0) rfl rfl ?_
  show fR _ _ _ 351 _ (.int (g 6) :: _) _ _ _ _
  refine r_icmp_gt (tgt := 358) dL_isSample_351 (by decide) (fun c12 => by exact absurd c12 (pLat_diff hI hk w0 (a := 2) (b := 1) (by omega) (by omega))) (fun c12 => ?_)
  refine r_iconst (v := nI 1) dL_isSample_354 (by decide) ?_
  refine r_goto (tgt := 359) dL_isSample_355 (by decide) ?_
  refine r_istore (lv' := [(5, .int (nI (1))), (8, .int (nI (((pMany g k) - 3) + 1))), (6, .int (((nI (0)) + (pLat g k 2 1)))), (7, .int (nI (((pMany g k) - 3)))), (4, .int ((pPen g k))), (3, .int ((pWhy g k))), (2, .int (nI ((pMany g k)))), (1, .int (nI (k))), (0, .ref (ad 254))]) dL_isSample_359 (by decide) rfl ?_
  refine r_iinc (v := (nI (((pMany g k) - 3) + 1 + 1))) (lv' := [(8, .int (nI (((pMany g k) - 3) + 1 + 1))), (5, .int (nI (1))), (6, .int (((nI (0)) + (pLat g k 2 1)))), (7, .int (nI (((pMany g k) - 3)))), (4, .int ((pPen g k))), (3, .int ((pWhy g k))), (2, .int (nI ((pMany g k)))), (1, .int (nI (k))), (0, .ref (ad 254))]) dL_isSample_361 rfl (nI_inc _) (by decide) rfl ?_
  refine r_goto (tgt := 317) dL_isSample_364 (by decide) ?_
  refine r_iload dL_isSample_317 rfl ?_
  refine r_iload_n dL_isSample_319 rfl ?_
  refine r_icmp_geN (tgt := 367) dL_isSample_320 (by decide) (by omega) (by omega) (fun c13 => by omega) (fun c13 => ?_)
  refine r_iload dL_isSample_323 rfl ?_
  refine r_if_eqN (tgt := 358) dL_isSample_325 (by decide) (by omega) (fun c14 => absurd c14 (by omega)) (fun c14 => ?_)
  refine r_aload_n dL_isSample_328 rfl ?_
  refine r_iload_n dL_isSample_329 rfl ?_
  refine r_iload dL_isSample_330 rfl ?_
  refine r_iconst (v := nI 1) dL_isSample_332 (by decide) ?_
  refine r_callV (As := [.int (nI (k)), .int (nI (((pMany g k) - 3))), .int (nI (1))]) dL_isSample_333 (fM_isI (v' := (pLat g k 2 1)) (tZ_rd hA hC (by omega) (by omega) (by omega)) (by unfold rdF pLat; rw [if_pos (by omega)]; congr 1; omega)) rfl hC.1 rfl rfl oX8_readingZ rfl kL_26M nX8_readingZ eX8_readingZ (by unfold fRoom; decide) (Nat.le_of_ble_eq_true rfl) rfl (bc' := 0) (bs' := 0) rfl rfl ?_
  show fR _ _ _ 336 _ (.int (pLat g k 2 1) :: _) _ _ _ _
  refine r_aload_n dL_isSample_336 rfl ?_
  refine r_iload_n dL_isSample_337 rfl ?_
  refine r_iload dL_isSample_338 rfl ?_
  refine r_iconst (v := nI 1) dL_isSample_340 (by decide) ?_
  refine r_callV (As := [.int (nI (k)), .int (nI (((pMany g k) - 3) + 1 + 1)), .int (nI (1))]) dL_isSample_341 (fM_isI (v' := (pLat g k 0 1)) (tZ_rd hA hC (by omega) (by omega) (by omega)) (by unfold rdF pLat; rw [if_pos (by omega)]; congr 1; omega)) rfl hC.1 rfl rfl oX8_readingZ rfl kL_26M nX8_readingZ eX8_readingZ (by unfold fRoom; decide) (Nat.le_of_ble_eq_true rfl) rfl (bc' := 0) (bs' := 0) rfl rfl ?_
  show fR _ _ _ 344 _ (.int (pLat g k 0 1) :: _) _ _ _ _
  refine r_isub dL_isSample_344 ?_
  refine r_aload_n dL_isSample_345 rfl ?_
  refine r_bipush (v := nI 9) dL_isSample_346 (by decide) ?_
  refine r_callV (As := [.int (nI (9))]) dL_isSample_348 (fM_isI (v' := (g 6)) (tZ_count hA hC (by omega)) rfl) rfl hC.1 rfl rfl oX8_countZ rfl kL_13M nX8_countZ eX8_countZ (by unfold fRoom; decide) (Nat.le_of_ble_eq_true rfl) rfl (bc' := 0) (bs' := 0) rfl rfl ?_
  show fR _ _ _ 351 _ (.int (g 6) :: _) _ _ _ _
  refine r_icmp_gt (tgt := 358) dL_isSample_351 (by decide) (fun c15 => by exact absurd c15 (pLat_diff hI hk w0 (a := 2) (b := 0) (by omega) (by omega))) (fun c15 => ?_)
  refine r_iconst (v := nI 1) dL_isSample_354 (by decide) ?_
  refine r_goto (tgt := 359) dL_isSample_355 (by decide) ?_
  refine r_istore (lv' := [(5, .int (nI (1))), (8, .int (nI (((pMany g k) - 3) + 1 + 1))), (6, .int (((nI (0)) + (pLat g k 2 1)))), (7, .int (nI (((pMany g k) - 3)))), (4, .int ((pPen g k))), (3, .int ((pWhy g k))), (2, .int (nI ((pMany g k)))), (1, .int (nI (k))), (0, .ref (ad 254))]) dL_isSample_359 (by decide) rfl ?_
  refine r_iinc (v := (nI (((pMany g k) - 3) + 1 + 1 + 1))) (lv' := [(8, .int (nI (((pMany g k) - 3) + 1 + 1 + 1))), (5, .int (nI (1))), (6, .int (((nI (0)) + (pLat g k 2 1)))), (7, .int (nI (((pMany g k) - 3)))), (4, .int ((pPen g k))), (3, .int ((pWhy g k))), (2, .int (nI ((pMany g k)))), (1, .int (nI (k))), (0, .ref (ad 254))]) dL_isSample_361 rfl (nI_inc _) (by decide) rfl ?_
  refine r_goto (tgt := 317) dL_isSample_364 (by decide) ?_
  refine r_iload dL_isSample_317 rfl ?_
  refine r_iload_n dL_isSample_319 rfl ?_
  refine r_icmp_geN (tgt := 367) dL_isSample_320 (by decide) (by omega) (by omega) (fun c16 => ?_) (fun c16 => by omega)
  refine r_iinc (v := (nI (((pMany g k) - 3) + 1))) (lv' := [(7, .int (nI (((pMany g k) - 3) + 1))), (8, .int (nI (((pMany g k) - 3) + 1 + 1 + 1))), (5, .int (nI (1))), (6, .int (((nI (0)) + (pLat g k 2 1)))), (4, .int ((pPen g k))), (3, .int ((pWhy g k))), (2, .int (nI ((pMany g k)))), (1, .int (nI (k))), (0, .ref (ad 254))]) dL_isSample_367 rfl (nI_inc _) (by decide) rfl ?_
  refine r_goto (tgt := 230) dL_isSample_370 (by decide) ?_
  refine r_iload dL_isSample_230 rfl ?_
  refine r_iload_n dL_isSample_232 rfl ?_
  refine r_icmp_geN (tgt := 373) dL_isSample_233 (by decide) (by omega) (by omega) (fun c17 => by omega) (fun c17 => ?_)
  refine r_iload dL_isSample_236 rfl ?_
  refine r_if_eqN (tgt := 373) dL_isSample_238 (by decide) (by omega) (fun c18 => absurd c18 (by omega)) (fun c18 => ?_)
  refine r_iload_n dL_isSample_241 rfl ?_
  refine r_if_ne (tgt := 373) dL_isSample_242 (by decide) (fun c19 => by exact absurd w0 c19) (fun c19 => ?_)
  refine r_iload dL_isSample_245 rfl ?_
  refine r_aload_n dL_isSample_247 rfl ?_
  refine r_iload_n dL_isSample_248 rfl ?_
  refine r_iload dL_isSample_249 rfl ?_
  refine r_iconst (v := nI 1) dL_isSample_251 (by decide) ?_
  refine r_callV (As := [.int (nI (k)), .int (nI (((pMany g k) - 3) + 1)), .int (nI (1))]) dL_isSample_252 (fM_isI (v' := (pLat g k 1 1)) (tZ_rd hA hC (by omega) (by omega) (by omega)) (by unfold rdF pLat; rw [if_pos (by omega)]; congr 1; omega)) rfl hC.1 rfl rfl oX8_readingZ rfl kL_26M nX8_readingZ eX8_readingZ (by unfold fRoom; decide) (Nat.le_of_ble_eq_true rfl) rfl (bc' := 0) (bs' := 0) rfl rfl ?_
  show fR _ _ _ 255 _ (.int (pLat g k 1 1) :: _) _ _ _ _
  refine r_iadd dL_isSample_255 ?_
  refine r_istore (lv' := [(6, .int (((((nI (0)) + (pLat g k 2 1))) + (pLat g k 1 1)))), (7, .int (nI (((pMany g k) - 3) + 1))), (8, .int (nI (((pMany g k) - 3) + 1 + 1 + 1))), (5, .int (nI (1))), (4, .int ((pPen g k))), (3, .int ((pWhy g k))), (2, .int (nI ((pMany g k)))), (1, .int (nI (k))), (0, .ref (ad 254))]) dL_isSample_256 (by decide) rfl ?_
  refine r_aload_n dL_isSample_258 rfl ?_
  refine r_iload_n dL_isSample_259 rfl ?_
  refine r_iload dL_isSample_260 rfl ?_
  refine r_iconst (v := nI 2) dL_isSample_262 (by decide) ?_
  refine r_callV (As := [.int (nI (k)), .int (nI (((pMany g k) - 3) + 1)), .int (nI (2))]) dL_isSample_263 (fM_isI (v' := (pLat g k 1 2)) (tZ_rd hA hC (by omega) (by omega) (by omega)) (by unfold rdF pLat; rw [if_pos (by omega)]; congr 1; omega)) rfl hC.1 rfl rfl oX8_readingZ rfl kL_26M nX8_readingZ eX8_readingZ (by unfold fRoom; decide) (Nat.le_of_ble_eq_true rfl) rfl (bc' := 0) (bs' := 0) rfl rfl ?_
  show fR _ _ _ 266 _ (.int (pLat g k 1 2) :: _) _ _ _ _
  refine r_bipush (v := nI 100) dL_isSample_266 (by decide) ?_
  refine r_icmp_ne (tgt := 309) dL_isSample_268 (by decide) (fun c20 => by exact absurd (pAre_at hR.1 1 (by omega)).1 c20) (fun c20 => ?_)
  refine r_aload_n dL_isSample_271 rfl ?_
  refine r_iload_n dL_isSample_272 rfl ?_
  refine r_iload dL_isSample_273 rfl ?_
  refine r_iconst (v := nI 3) dL_isSample_275 (by decide) ?_
  refine r_callV (As := [.int (nI (k)), .int (nI (((pMany g k) - 3) + 1)), .int (nI (3))]) dL_isSample_276 (fM_isI (v' := (pLat g k 1 3)) (tZ_rd hA hC (by omega) (by omega) (by omega)) (by unfold rdF pLat; rw [if_pos (by omega)]; congr 1; omega)) rfl hC.1 rfl rfl oX8_readingZ rfl kL_26M nX8_readingZ eX8_readingZ (by unfold fRoom; decide) (Nat.le_of_ble_eq_true rfl) rfl (bc' := 0) (bs' := 0) rfl rfl ?_
  show fR _ _ _ 279 _ (.int (pLat g k 1 3) :: _) _ _ _ _
  refine r_iconst (v := nI 5) dL_isSample_279 (by decide) ?_
  refine r_icmp_ne (tgt := 309) dL_isSample_280 (by decide) (fun c21 => by exact absurd (pAre_at hR.1 1 (by omega)).2 c21) (fun c21 => ?_)
  refine r_aload_n dL_isSample_283 rfl ?_
  refine r_iload_n dL_isSample_284 rfl ?_
  refine r_bipush (v := nI 8) dL_isSample_285 (by decide) ?_
  refine r_callV (As := [.int (nI (k)), .int (nI (8))]) dL_isSample_287 (fM_isI (v' := (pNeed g k)) (tZ_sampleOf hA hC (by omega) (by omega)) rfl) rfl hC.1 rfl rfl oX8_sampleOfZ rfl kL_23M nX8_sampleOfZ eX8_sampleOfZ (by unfold fRoom; decide) (Nat.le_of_ble_eq_true rfl) rfl (bc' := 0) (bs' := 0) rfl rfl ?_
  show fR _ _ _ 290 _ (.int (pNeed g k) :: _) _ _ _ _
  refine r_aload_n dL_isSample_290 rfl ?_
  refine r_iload_n dL_isSample_291 rfl ?_
  refine r_iload dL_isSample_292 rfl ?_
  refine r_iconst (v := nI 0) dL_isSample_294 (by decide) ?_
  refine r_callV (As := [.int (nI (k)), .int (nI (((pMany g k) - 3) + 1)), .int (nI (0))]) dL_isSample_295 (fM_isI (v' := (pLat g k 1 0)) (tZ_rd hA hC (by omega) (by omega) (by omega)) (by unfold rdF pLat; rw [if_pos (by omega)]; congr 1; omega)) rfl hC.1 rfl rfl oX8_readingZ rfl kL_26M nX8_readingZ eX8_readingZ (by unfold fRoom; decide) (Nat.le_of_ble_eq_true rfl) rfl (bc' := 0) (bs' := 0) rfl rfl ?_
  show fR _ _ _ 298 _ (.int (pLat g k 1 0) :: _) _ _ _ _
  refine r_ishr dL_isSample_298 ?_
  refine r_iconst (v := nI 1) dL_isSample_299 (by decide) ?_
  refine r_iand dL_isSample_300 ?_
  refine r_iconst (v := nI 1) dL_isSample_301 (by decide) ?_
  refine r_icmp_ne (tgt := 309) dL_isSample_302 (by decide) (fun c22 => by exact absurd (pNeed_bit hI hk w0 (a := 1) (by omega)) c22) (fun c22 => ?_)
  refine r_iconst (v := nI 1) dL_isSample_305 (by decide) ?_
  refine r_goto (tgt := 310) dL_isSample_306 (by decide) ?_
  refine r_istore (lv' := [(5, .int (nI (1))), (6, .int (((((nI (0)) + (pLat g k 2 1))) + (pLat g k 1 1)))), (7, .int (nI (((pMany g k) - 3) + 1))), (8, .int (nI (((pMany g k) - 3) + 1 + 1 + 1))), (4, .int ((pPen g k))), (3, .int ((pWhy g k))), (2, .int (nI ((pMany g k)))), (1, .int (nI (k))), (0, .ref (ad 254))]) dL_isSample_310 (by decide) rfl ?_
  refine r_iload_n dL_isSample_312 rfl ?_
  refine r_iconst (v := nI 3) dL_isSample_313 (by decide) ?_
  refine r_isubN dL_isSample_314 (by omega) ?_
  refine r_istore (lv' := [(8, .int (nI (((pMany g k) - 3)))), (5, .int (nI (1))), (6, .int (((((nI (0)) + (pLat g k 2 1))) + (pLat g k 1 1)))), (7, .int (nI (((pMany g k) - 3) + 1))), (4, .int ((pPen g k))), (3, .int ((pWhy g k))), (2, .int (nI ((pMany g k)))), (1, .int (nI (k))), (0, .ref (ad 254))]) dL_isSample_315 (by decide) rfl ?_
  refine r_iload dL_isSample_317 rfl ?_
  refine r_iload_n dL_isSample_319 rfl ?_
  refine r_icmp_geN (tgt := 367) dL_isSample_320 (by decide) (by omega) (by omega) (fun c23 => by omega) (fun c23 => ?_)
  refine r_iload dL_isSample_323 rfl ?_
  refine r_if_eqN (tgt := 358) dL_isSample_325 (by decide) (by omega) (fun c24 => absurd c24 (by omega)) (fun c24 => ?_)
  refine r_aload_n dL_isSample_328 rfl ?_
  refine r_iload_n dL_isSample_329 rfl ?_
  refine r_iload dL_isSample_330 rfl ?_
  refine r_iconst (v := nI 1) dL_isSample_332 (by decide) ?_
  refine r_callV (As := [.int (nI (k)), .int (nI (((pMany g k) - 3) + 1)), .int (nI (1))]) dL_isSample_333 (fM_isI (v' := (pLat g k 1 1)) (tZ_rd hA hC (by omega) (by omega) (by omega)) (by unfold rdF pLat; rw [if_pos (by omega)]; congr 1; omega)) rfl hC.1 rfl rfl oX8_readingZ rfl kL_26M nX8_readingZ eX8_readingZ (by unfold fRoom; decide) (Nat.le_of_ble_eq_true rfl) rfl (bc' := 0) (bs' := 0) rfl rfl ?_
  show fR _ _ _ 336 _ (.int (pLat g k 1 1) :: _) _ _ _ _
  refine r_aload_n dL_isSample_336 rfl ?_
  refine r_iload_n dL_isSample_337 rfl ?_
  refine r_iload dL_isSample_338 rfl ?_
  refine r_iconst (v := nI 1) dL_isSample_340 (by decide) ?_
  refine r_callV (As := [.int (nI (k)), .int (nI (((pMany g k) - 3))), .int (nI (1))]) dL_isSample_341 (fM_isI (v' := (pLat g k 2 1)) (tZ_rd hA hC (by omega) (by omega) (by omega)) (by unfold rdF pLat; rw [if_pos (by omega)]; congr 1; omega)) rfl hC.1 rfl rfl oX8_readingZ rfl kL_26M nX8_readingZ eX8_readingZ (by unfold fRoom; decide) (Nat.le_of_ble_eq_true rfl) rfl (bc' := 0) (bs' := 0) rfl rfl ?_
  show fR _ _ _ 344 _ (.int (pLat g k 2 1) :: _) _ _ _ _
  refine r_isub dL_isSample_344 ?_
  refine r_aload_n dL_isSample_345 rfl ?_
  refine r_bipush (v := nI 9) dL_isSample_346 (by decide) ?_
  refine r_callV (As := [.int (nI (9))]) dL_isSample_348 (fM_isI (v' := (g 6)) (tZ_count hA hC (by omega)) rfl) rfl hC.1 rfl rfl oX8_countZ rfl kL_13M nX8_countZ eX8_countZ (by unfold fRoom; decide) (Nat.le_of_ble_eq_true rfl) rfl (bc' := 0) (bs' := 0) rfl rfl ?_
  show fR _ _ _ 351 _ (.int (g 6) :: _) _ _ _ _
  refine r_icmp_gt (tgt := 358) dL_isSample_351 (by decide) (fun c25 => by exact absurd c25 (pLat_diff hI hk w0 (a := 1) (b := 2) (by omega) (by omega))) (fun c25 => ?_)
  refine r_iconst (v := nI 1) dL_isSample_354 (by decide) ?_
  refine r_goto (tgt := 359) dL_isSample_355 (by decide) ?_
  refine r_istore (lv' := [(5, .int (nI (1))), (8, .int (nI (((pMany g k) - 3)))), (6, .int (((((nI (0)) + (pLat g k 2 1))) + (pLat g k 1 1)))), (7, .int (nI (((pMany g k) - 3) + 1))), (4, .int ((pPen g k))), (3, .int ((pWhy g k))), (2, .int (nI ((pMany g k)))), (1, .int (nI (k))), (0, .ref (ad 254))]) dL_isSample_359 (by decide) rfl ?_
  refine r_iinc (v := (nI (((pMany g k) - 3) + 1))) (lv' := [(8, .int (nI (((pMany g k) - 3) + 1))), (5, .int (nI (1))), (6, .int (((((nI (0)) + (pLat g k 2 1))) + (pLat g k 1 1)))), (7, .int (nI (((pMany g k) - 3) + 1))), (4, .int ((pPen g k))), (3, .int ((pWhy g k))), (2, .int (nI ((pMany g k)))), (1, .int (nI (k))), (0, .ref (ad 254))]) dL_isSample_361 rfl (nI_inc _) (by decide) rfl ?_
  refine r_goto (tgt := 317) dL_isSample_364 (by decide) ?_
  refine r_iload dL_isSample_317 rfl ?_
  refine r_iload_n dL_isSample_319 rfl ?_
  refine r_icmp_geN (tgt := 367) dL_isSample_320 (by decide) (by omega) (by omega) (fun c26 => by omega) (fun c26 => ?_)
  refine r_iload dL_isSample_323 rfl ?_
  refine r_if_eqN (tgt := 358) dL_isSample_325 (by decide) (by omega) (fun c27 => absurd c27 (by omega)) (fun c27 => ?_)
  refine r_aload_n dL_isSample_328 rfl ?_
  refine r_iload_n dL_isSample_329 rfl ?_
  refine r_iload dL_isSample_330 rfl ?_
  refine r_iconst (v := nI 1) dL_isSample_332 (by decide) ?_
  refine r_callV (As := [.int (nI (k)), .int (nI (((pMany g k) - 3) + 1)), .int (nI (1))]) dL_isSample_333 (fM_isI (v' := (pLat g k 1 1)) (tZ_rd hA hC (by omega) (by omega) (by omega)) (by unfold rdF pLat; rw [if_pos (by omega)]; congr 1; omega)) rfl hC.1 rfl rfl oX8_readingZ rfl kL_26M nX8_readingZ eX8_readingZ (by unfold fRoom; decide) (Nat.le_of_ble_eq_true rfl) rfl (bc' := 0) (bs' := 0) rfl rfl ?_
  show fR _ _ _ 336 _ (.int (pLat g k 1 1) :: _) _ _ _ _
  refine r_aload_n dL_isSample_336 rfl ?_
  refine r_iload_n dL_isSample_337 rfl ?_
  refine r_iload dL_isSample_338 rfl ?_
  refine r_iconst (v := nI 1) dL_isSample_340 (by decide) ?_
  refine r_callV (As := [.int (nI (k)), .int (nI (((pMany g k) - 3) + 1)), .int (nI (1))]) dL_isSample_341 (fM_isI (v' := (pLat g k 1 1)) (tZ_rd hA hC (by omega) (by omega) (by omega)) (by unfold rdF pLat; rw [if_pos (by omega)]; congr 1; omega)) rfl hC.1 rfl rfl oX8_readingZ rfl kL_26M nX8_readingZ eX8_readingZ (by unfold fRoom; decide) (Nat.le_of_ble_eq_true rfl) rfl (bc' := 0) (bs' := 0) rfl rfl ?_
  show fR _ _ _ 344 _ (.int (pLat g k 1 1) :: _) _ _ _ _
  refine r_isub dL_isSample_344 ?_
  refine r_aload_n dL_isSample_345 rfl ?_
  refine r_bipush (v := nI 9) dL_isSample_346 (by decide) ?_
  refine r_callV (As := [.int (nI (9))]) dL_isSample_348 (fM_isI (v' := (g 6)) (tZ_count hA hC (by omega)) rfl) rfl hC.1 rfl rfl oX8_countZ rfl kL_13M nX8_countZ eX8_countZ (by unfold fRoom; decide) (Nat.le_of_ble_eq_true rfl) rfl (bc' := 0) (bs' := 0) rfl rfl ?_
  show fR _ _ _ 351 _ (.int (g 6) :: _) _ _ _ _
  refine r_icmp_gt (tgt := 358) dL_isSample_351 (by decide) (fun c28 => by exact absurd c28 (pLat_diff hI hk w0 (a := 1) (b := 1) (by omega) (by omega))) (fun c28 => ?_)
  refine r_iconst (v := nI 1) dL_isSample_354 (by decide) ?_
  refine r_goto (tgt := 359) dL_isSample_355 (by decide) ?_
  refine r_istore (lv' := [(5, .int (nI (1))), (8, .int (nI (((pMany g k) - 3) + 1))), (6, .int (((((nI (0)) + (pLat g k 2 1))) + (pLat g k 1 1)))), (7, .int (nI (((pMany g k) - 3) + 1))), (4, .int ((pPen g k))), (3, .int ((pWhy g k))), (2, .int (nI ((pMany g k)))), (1, .int (nI (k))), (0, .ref (ad 254))]) dL_isSample_359 (by decide) rfl ?_
  refine r_iinc (v := (nI (((pMany g k) - 3) + 1 + 1))) (lv' := [(8, .int (nI (((pMany g k) - 3) + 1 + 1))), (5, .int (nI (1))), (6, .int (((((nI (0)) + (pLat g k 2 1))) + (pLat g k 1 1)))), (7, .int (nI (((pMany g k) - 3) + 1))), (4, .int ((pPen g k))), (3, .int ((pWhy g k))), (2, .int (nI ((pMany g k)))), (1, .int (nI (k))), (0, .ref (ad 254))]) dL_isSample_361 rfl (nI_inc _) (by decide) rfl ?_
  refine r_goto (tgt := 317) dL_isSample_364 (by decide) ?_
  refine r_iload dL_isSample_317 rfl ?_
  refine r_iload_n dL_isSample_319 rfl ?_
  refine r_icmp_geN (tgt := 367) dL_isSample_320 (by decide) (by omega) (by omega) (fun c29 => by omega) (fun c29 => ?_)
  refine r_iload dL_isSample_323 rfl ?_
  refine r_if_eqN (tgt := 358) dL_isSample_325 (by decide) (by omega) (fun c30 => absurd c30 (by omega)) (fun c30 => ?_)
  refine r_aload_n dL_isSample_328 rfl ?_
  refine r_iload_n dL_isSample_329 rfl ?_
  refine r_iload dL_isSample_330 rfl ?_
  refine r_iconst (v := nI 1) dL_isSample_332 (by decide) ?_
  refine r_callV (As := [.int (nI (k)), .int (nI (((pMany g k) - 3) + 1)), .int (nI (1))]) dL_isSample_333 (fM_isI (v' := (pLat g k 1 1)) (tZ_rd hA hC (by omega) (by omega) (by omega)) (by unfold rdF pLat; rw [if_pos (by omega)]; congr 1; omega)) rfl hC.1 rfl rfl oX8_readingZ rfl kL_26M nX8_readingZ eX8_readingZ (by unfold fRoom; decide) (Nat.le_of_ble_eq_true rfl) rfl (bc' := 0) (bs' := 0) rfl rfl ?_
  show fR _ _ _ 336 _ (.int (pLat g k 1 1) :: _) _ _ _ _
  refine r_aload_n dL_isSample_336 rfl ?_
  refine r_iload_n dL_isSample_337 rfl ?_
  refine r_iload dL_isSample_338 rfl ?_
  refine r_iconst (v := nI 1) dL_isSample_340 (by decide) ?_
  refine r_callV (As := [.int (nI (k)), .int (nI (((pMany g k) - 3) + 1 + 1)), .int (nI (1))]) dL_isSample_341 (fM_isI (v' := (pLat g k 0 1)) (tZ_rd hA hC (by omega) (by omega) (by omega)) (by unfold rdF pLat; rw [if_pos (by omega)]; congr 1; omega)) rfl hC.1 rfl rfl oX8_readingZ rfl kL_26M nX8_readingZ eX8_readingZ (by unfold fRoom; decide) (Nat.le_of_ble_eq_true rfl) rfl (bc' := 0) (bs' := 0) rfl rfl ?_
  show fR _ _ _ 344 _ (.int (pLat g k 0 1) :: _) _ _ _ _
  refine r_isub dL_isSample_344 ?_
  refine r_aload_n dL_isSample_345 rfl ?_
  refine r_bipush (v := nI 9) dL_isSample_346 (by decide) ?_
  refine r_callV (As := [.int (nI (9))]) dL_isSample_348 (fM_isI (v' := (g 6)) (tZ_count hA hC (by omega)) rfl) rfl hC.1 rfl rfl oX8_countZ rfl kL_13M nX8_countZ eX8_countZ (by unfold fRoom; decide) (Nat.le_of_ble_eq_true rfl) rfl (bc' := 0) (bs' := 0) rfl rfl ?_
  show fR _ _ _ 351 _ (.int (g 6) :: _) _ _ _ _
  refine r_icmp_gt (tgt := 358) dL_isSample_351 (by decide) (fun c31 => by exact absurd c31 (pLat_diff hI hk w0 (a := 1) (b := 0) (by omega) (by omega))) (fun c31 => ?_)
  refine r_iconst (v := nI 1) dL_isSample_354 (by decide) ?_
  refine r_goto (tgt := 359) dL_isSample_355 (by decide) ?_
  refine r_istore (lv' := [(5, .int (nI (1))), (8, .int (nI (((pMany g k) - 3) + 1 + 1))), (6, .int (((((nI (0)) + (pLat g k 2 1))) + (pLat g k 1 1)))), (7, .int (nI (((pMany g k) - 3) + 1))), (4, .int ((pPen g k))), (3, .int ((pWhy g k))), (2, .int (nI ((pMany g k)))), (1, .int (nI (k))), (0, .ref (ad 254))]) dL_isSample_359 (by decide) rfl ?_
  refine r_iinc (v := (nI (((pMany g k) - 3) + 1 + 1 + 1))) (lv' := [(8, .int (nI (((pMany g k) - 3) + 1 + 1 + 1))), (5, .int (nI (1))), (6, .int (((((nI (0)) + (pLat g k 2 1))) + (pLat g k 1 1)))), (7, .int (nI (((pMany g k) - 3) + 1))), (4, .int ((pPen g k))), (3, .int ((pWhy g k))), (2, .int (nI ((pMany g k)))), (1, .int (nI (k))), (0, .ref (ad 254))]) dL_isSample_361 rfl (nI_inc _) (by decide) rfl ?_
  refine r_goto (tgt := 317) dL_isSample_364 (by decide) ?_
  refine r_iload dL_isSample_317 rfl ?_
  refine r_iload_n dL_isSample_319 rfl ?_
  refine r_icmp_geN (tgt := 367) dL_isSample_320 (by decide) (by omega) (by omega) (fun c32 => ?_) (fun c32 => by omega)
  refine r_iinc (v := (nI (((pMany g k) - 3) + 1 + 1))) (lv' := [(7, .int (nI (((pMany g k) - 3) + 1 + 1))), (8, .int (nI (((pMany g k) - 3) + 1 + 1 + 1))), (5, .int (nI (1))), (6, .int (((((nI (0)) + (pLat g k 2 1))) + (pLat g k 1 1)))), (4, .int ((pPen g k))), (3, .int ((pWhy g k))), (2, .int (nI ((pMany g k)))), (1, .int (nI (k))), (0, .ref (ad 254))]) dL_isSample_367 rfl (nI_inc _) (by decide) rfl ?_
  refine r_goto (tgt := 230) dL_isSample_370 (by decide) ?_
  refine r_iload dL_isSample_230 rfl ?_
  refine r_iload_n dL_isSample_232 rfl ?_
  refine r_icmp_geN (tgt := 373) dL_isSample_233 (by decide) (by omega) (by omega) (fun c33 => by omega) (fun c33 => ?_)
  refine r_iload dL_isSample_236 rfl ?_
  refine r_if_eqN (tgt := 373) dL_isSample_238 (by decide) (by omega) (fun c34 => absurd c34 (by omega)) (fun c34 => ?_)
  refine r_iload_n dL_isSample_241 rfl ?_
  refine r_if_ne (tgt := 373) dL_isSample_242 (by decide) (fun c35 => by exact absurd w0 c35) (fun c35 => ?_)
  refine r_iload dL_isSample_245 rfl ?_
  refine r_aload_n dL_isSample_247 rfl ?_
  refine r_iload_n dL_isSample_248 rfl ?_
  refine r_iload dL_isSample_249 rfl ?_
  refine r_iconst (v := nI 1) dL_isSample_251 (by decide) ?_
  refine r_callV (As := [.int (nI (k)), .int (nI (((pMany g k) - 3) + 1 + 1)), .int (nI (1))]) dL_isSample_252 (fM_isI (v' := (pLat g k 0 1)) (tZ_rd hA hC (by omega) (by omega) (by omega)) (by unfold rdF pLat; rw [if_pos (by omega)]; congr 1; omega)) rfl hC.1 rfl rfl oX8_readingZ rfl kL_26M nX8_readingZ eX8_readingZ (by unfold fRoom; decide) (Nat.le_of_ble_eq_true rfl) rfl (bc' := 0) (bs' := 0) rfl rfl ?_
  show fR _ _ _ 255 _ (.int (pLat g k 0 1) :: _) _ _ _ _
  refine r_iadd dL_isSample_255 ?_
  refine r_istore (lv' := [(6, .int (((((((nI (0)) + (pLat g k 2 1))) + (pLat g k 1 1))) + (pLat g k 0 1)))), (7, .int (nI (((pMany g k) - 3) + 1 + 1))), (8, .int (nI (((pMany g k) - 3) + 1 + 1 + 1))), (5, .int (nI (1))), (4, .int ((pPen g k))), (3, .int ((pWhy g k))), (2, .int (nI ((pMany g k)))), (1, .int (nI (k))), (0, .ref (ad 254))]) dL_isSample_256 (by decide) rfl ?_
  refine r_aload_n dL_isSample_258 rfl ?_
  refine r_iload_n dL_isSample_259 rfl ?_
  refine r_iload dL_isSample_260 rfl ?_
  refine r_iconst (v := nI 2) dL_isSample_262 (by decide) ?_
  refine r_callV (As := [.int (nI (k)), .int (nI (((pMany g k) - 3) + 1 + 1)), .int (nI (2))]) dL_isSample_263 (fM_isI (v' := (pLat g k 0 2)) (tZ_rd hA hC (by omega) (by omega) (by omega)) (by unfold rdF pLat; rw [if_pos (by omega)]; congr 1; omega)) rfl hC.1 rfl rfl oX8_readingZ rfl kL_26M nX8_readingZ eX8_readingZ (by unfold fRoom; decide) (Nat.le_of_ble_eq_true rfl) rfl (bc' := 0) (bs' := 0) rfl rfl ?_
  show fR _ _ _ 266 _ (.int (pLat g k 0 2) :: _) _ _ _ _
  refine r_bipush (v := nI 100) dL_isSample_266 (by decide) ?_
  refine r_icmp_ne (tgt := 309) dL_isSample_268 (by decide) (fun c36 => by exact absurd (pAre_at hR.1 0 (by omega)).1 c36) (fun c36 => ?_)
  refine r_aload_n dL_isSample_271 rfl ?_
  refine r_iload_n dL_isSample_272 rfl ?_
  refine r_iload dL_isSample_273 rfl ?_
  refine r_iconst (v := nI 3) dL_isSample_275 (by decide) ?_
  refine r_callV (As := [.int (nI (k)), .int (nI (((pMany g k) - 3) + 1 + 1)), .int (nI (3))]) dL_isSample_276 (fM_isI (v' := (pLat g k 0 3)) (tZ_rd hA hC (by omega) (by omega) (by omega)) (by unfold rdF pLat; rw [if_pos (by omega)]; congr 1; omega)) rfl hC.1 rfl rfl oX8_readingZ rfl kL_26M nX8_readingZ eX8_readingZ (by unfold fRoom; decide) (Nat.le_of_ble_eq_true rfl) rfl (bc' := 0) (bs' := 0) rfl rfl ?_
  show fR _ _ _ 279 _ (.int (pLat g k 0 3) :: _) _ _ _ _
  refine r_iconst (v := nI 5) dL_isSample_279 (by decide) ?_
  refine r_icmp_ne (tgt := 309) dL_isSample_280 (by decide) (fun c37 => by exact absurd (pAre_at hR.1 0 (by omega)).2 c37) (fun c37 => ?_)
  refine r_aload_n dL_isSample_283 rfl ?_
  refine r_iload_n dL_isSample_284 rfl ?_
  refine r_bipush (v := nI 8) dL_isSample_285 (by decide) ?_
  refine r_callV (As := [.int (nI (k)), .int (nI (8))]) dL_isSample_287 (fM_isI (v' := (pNeed g k)) (tZ_sampleOf hA hC (by omega) (by omega)) rfl) rfl hC.1 rfl rfl oX8_sampleOfZ rfl kL_23M nX8_sampleOfZ eX8_sampleOfZ (by unfold fRoom; decide) (Nat.le_of_ble_eq_true rfl) rfl (bc' := 0) (bs' := 0) rfl rfl ?_
  show fR _ _ _ 290 _ (.int (pNeed g k) :: _) _ _ _ _
  refine r_aload_n dL_isSample_290 rfl ?_
  refine r_iload_n dL_isSample_291 rfl ?_
  refine r_iload dL_isSample_292 rfl ?_
  refine r_iconst (v := nI 0) dL_isSample_294 (by decide) ?_
  refine r_callV (As := [.int (nI (k)), .int (nI (((pMany g k) - 3) + 1 + 1)), .int (nI (0))]) dL_isSample_295 (fM_isI (v' := (pLat g k 0 0)) (tZ_rd hA hC (by omega) (by omega) (by omega)) (by unfold rdF pLat; rw [if_pos (by omega)]; congr 1; omega)) rfl hC.1 rfl rfl oX8_readingZ rfl kL_26M nX8_readingZ eX8_readingZ (by unfold fRoom; decide) (Nat.le_of_ble_eq_true rfl) rfl (bc' := 0) (bs' := 0) rfl rfl ?_
  show fR _ _ _ 298 _ (.int (pLat g k 0 0) :: _) _ _ _ _
  refine r_ishr dL_isSample_298 ?_
  refine r_iconst (v := nI 1) dL_isSample_299 (by decide) ?_
  refine r_iand dL_isSample_300 ?_
  refine r_iconst (v := nI 1) dL_isSample_301 (by decide) ?_
  refine r_icmp_ne (tgt := 309) dL_isSample_302 (by decide) (fun c38 => by exact absurd (pNeed_bit hI hk w0 (a := 0) (by omega)) c38) (fun c38 => ?_)
  refine r_iconst (v := nI 1) dL_isSample_305 (by decide) ?_
  refine r_goto (tgt := 310) dL_isSample_306 (by decide) ?_
  refine r_istore (lv' := [(5, .int (nI (1))), (6, .int (((((((nI (0)) + (pLat g k 2 1))) + (pLat g k 1 1))) + (pLat g k 0 1)))), (7, .int (nI (((pMany g k) - 3) + 1 + 1))), (8, .int (nI (((pMany g k) - 3) + 1 + 1 + 1))), (4, .int ((pPen g k))), (3, .int ((pWhy g k))), (2, .int (nI ((pMany g k)))), (1, .int (nI (k))), (0, .ref (ad 254))]) dL_isSample_310 (by decide) rfl ?_
  refine r_iload_n dL_isSample_312 rfl ?_
  refine r_iconst (v := nI 3) dL_isSample_313 (by decide) ?_
  refine r_isubN dL_isSample_314 (by omega) ?_
  refine r_istore (lv' := [(8, .int (nI (((pMany g k) - 3)))), (5, .int (nI (1))), (6, .int (((((((nI (0)) + (pLat g k 2 1))) + (pLat g k 1 1))) + (pLat g k 0 1)))), (7, .int (nI (((pMany g k) - 3) + 1 + 1))), (4, .int ((pPen g k))), (3, .int ((pWhy g k))), (2, .int (nI ((pMany g k)))), (1, .int (nI (k))), (0, .ref (ad 254))]) dL_isSample_315 (by decide) rfl ?_
  refine r_iload dL_isSample_317 rfl ?_
  refine r_iload_n dL_isSample_319 rfl ?_
  refine r_icmp_geN (tgt := 367) dL_isSample_320 (by decide) (by omega) (by omega) (fun c39 => by omega) (fun c39 => ?_)
  refine r_iload dL_isSample_323 rfl ?_
  refine r_if_eqN (tgt := 358) dL_isSample_325 (by decide) (by omega) (fun c40 => absurd c40 (by omega)) (fun c40 => ?_)
  refine r_aload_n dL_isSample_328 rfl ?_
  refine r_iload_n dL_isSample_329 rfl ?_
  refine r_iload dL_isSample_330 rfl ?_
  refine r_iconst (v := nI 1) dL_isSample_332 (by decide) ?_
  refine r_callV (As := [.int (nI (k)), .int (nI (((pMany g k) - 3) + 1 + 1)), .int (nI (1))]) dL_isSample_333 (fM_isI (v' := (pLat g k 0 1)) (tZ_rd hA hC (by omega) (by omega) (by omega)) (by unfold rdF pLat; rw [if_pos (by omega)]; congr 1; omega)) rfl hC.1 rfl rfl oX8_readingZ rfl kL_26M nX8_readingZ eX8_readingZ (by unfold fRoom; decide) (Nat.le_of_ble_eq_true rfl) rfl (bc' := 0) (bs' := 0) rfl rfl ?_
  show fR _ _ _ 336 _ (.int (pLat g k 0 1) :: _) _ _ _ _
  refine r_aload_n dL_isSample_336 rfl ?_
  refine r_iload_n dL_isSample_337 rfl ?_
  refine r_iload dL_isSample_338 rfl ?_
  refine r_iconst (v := nI 1) dL_isSample_340 (by decide) ?_
  refine r_callV (As := [.int (nI (k)), .int (nI (((pMany g k) - 3))), .int (nI (1))]) dL_isSample_341 (fM_isI (v' := (pLat g k 2 1)) (tZ_rd hA hC (by omega) (by omega) (by omega)) (by unfold rdF pLat; rw [if_pos (by omega)]; congr 1; omega)) rfl hC.1 rfl rfl oX8_readingZ rfl kL_26M nX8_readingZ eX8_readingZ (by unfold fRoom; decide) (Nat.le_of_ble_eq_true rfl) rfl (bc' := 0) (bs' := 0) rfl rfl ?_
  show fR _ _ _ 344 _ (.int (pLat g k 2 1) :: _) _ _ _ _
  refine r_isub dL_isSample_344 ?_
  refine r_aload_n dL_isSample_345 rfl ?_
  refine r_bipush (v := nI 9) dL_isSample_346 (by decide) ?_
  refine r_callV (As := [.int (nI (9))]) dL_isSample_348 (fM_isI (v' := (g 6)) (tZ_count hA hC (by omega)) rfl) rfl hC.1 rfl rfl oX8_countZ rfl kL_13M nX8_countZ eX8_countZ (by unfold fRoom; decide) (Nat.le_of_ble_eq_true rfl) rfl (bc' := 0) (bs' := 0) rfl rfl ?_
  show fR _ _ _ 351 _ (.int (g 6) :: _) _ _ _ _
  refine r_icmp_gt (tgt := 358) dL_isSample_351 (by decide) (fun c41 => by exact absurd c41 (pLat_diff hI hk w0 (a := 0) (b := 2) (by omega) (by omega))) (fun c41 => ?_)
  refine r_iconst (v := nI 1) dL_isSample_354 (by decide) ?_
  refine r_goto (tgt := 359) dL_isSample_355 (by decide) ?_
  refine r_istore (lv' := [(5, .int (nI (1))), (8, .int (nI (((pMany g k) - 3)))), (6, .int (((((((nI (0)) + (pLat g k 2 1))) + (pLat g k 1 1))) + (pLat g k 0 1)))), (7, .int (nI (((pMany g k) - 3) + 1 + 1))), (4, .int ((pPen g k))), (3, .int ((pWhy g k))), (2, .int (nI ((pMany g k)))), (1, .int (nI (k))), (0, .ref (ad 254))]) dL_isSample_359 (by decide) rfl ?_
  refine r_iinc (v := (nI (((pMany g k) - 3) + 1))) (lv' := [(8, .int (nI (((pMany g k) - 3) + 1))), (5, .int (nI (1))), (6, .int (((((((nI (0)) + (pLat g k 2 1))) + (pLat g k 1 1))) + (pLat g k 0 1)))), (7, .int (nI (((pMany g k) - 3) + 1 + 1))), (4, .int ((pPen g k))), (3, .int ((pWhy g k))), (2, .int (nI ((pMany g k)))), (1, .int (nI (k))), (0, .ref (ad 254))]) dL_isSample_361 rfl (nI_inc _) (by decide) rfl ?_
  refine r_goto (tgt := 317) dL_isSample_364 (by decide) ?_
  refine r_iload dL_isSample_317 rfl ?_
  refine r_iload_n dL_isSample_319 rfl ?_
  refine r_icmp_geN (tgt := 367) dL_isSample_320 (by decide) (by omega) (by omega) (fun c42 => by omega) (fun c42 => ?_)
  refine r_iload dL_isSample_323 rfl ?_
  refine r_if_eqN (tgt := 358) dL_isSample_325 (by decide) (by omega) (fun c43 => absurd c43 (by omega)) (fun c43 => ?_)
  refine r_aload_n dL_isSample_328 rfl ?_
  refine r_iload_n dL_isSample_329 rfl ?_
  refine r_iload dL_isSample_330 rfl ?_
  refine r_iconst (v := nI 1) dL_isSample_332 (by decide) ?_
  refine r_callV (As := [.int (nI (k)), .int (nI (((pMany g k) - 3) + 1 + 1)), .int (nI (1))]) dL_isSample_333 (fM_isI (v' := (pLat g k 0 1)) (tZ_rd hA hC (by omega) (by omega) (by omega)) (by unfold rdF pLat; rw [if_pos (by omega)]; congr 1; omega)) rfl hC.1 rfl rfl oX8_readingZ rfl kL_26M nX8_readingZ eX8_readingZ (by unfold fRoom; decide) (Nat.le_of_ble_eq_true rfl) rfl (bc' := 0) (bs' := 0) rfl rfl ?_
  show fR _ _ _ 336 _ (.int (pLat g k 0 1) :: _) _ _ _ _
  refine r_aload_n dL_isSample_336 rfl ?_
  refine r_iload_n dL_isSample_337 rfl ?_
  refine r_iload dL_isSample_338 rfl ?_
  refine r_iconst (v := nI 1) dL_isSample_340 (by decide) ?_
  refine r_callV (As := [.int (nI (k)), .int (nI (((pMany g k) - 3) + 1)), .int (nI (1))]) dL_isSample_341 (fM_isI (v' := (pLat g k 1 1)) (tZ_rd hA hC (by omega) (by omega) (by omega)) (by unfold rdF pLat; rw [if_pos (by omega)]; congr 1; omega)) rfl hC.1 rfl rfl oX8_readingZ rfl kL_26M nX8_readingZ eX8_readingZ (by unfold fRoom; decide) (Nat.le_of_ble_eq_true rfl) rfl (bc' := 0) (bs' := 0) rfl rfl ?_
  show fR _ _ _ 344 _ (.int (pLat g k 1 1) :: _) _ _ _ _
  refine r_isub dL_isSample_344 ?_
  refine r_aload_n dL_isSample_345 rfl ?_
  refine r_bipush (v := nI 9) dL_isSample_346 (by decide) ?_
  refine r_callV (As := [.int (nI (9))]) dL_isSample_348 (fM_isI (v' := (g 6)) (tZ_count hA hC (by omega)) rfl) rfl hC.1 rfl rfl oX8_countZ rfl kL_13M nX8_countZ eX8_countZ (by unfold fRoom; decide) (Nat.le_of_ble_eq_true rfl) rfl (bc' := 0) (bs' := 0) rfl rfl ?_
  show fR _ _ _ 351 _ (.int (g 6) :: _) _ _ _ _
  refine r_icmp_gt (tgt := 358) dL_isSample_351 (by decide) (fun c44 => by exact absurd c44 (pLat_diff hI hk w0 (a := 0) (b := 1) (by omega) (by omega))) (fun c44 => ?_)
  refine r_iconst (v := nI 1) dL_isSample_354 (by decide) ?_
  refine r_goto (tgt := 359) dL_isSample_355 (by decide) ?_
  refine r_istore (lv' := [(5, .int (nI (1))), (8, .int (nI (((pMany g k) - 3) + 1))), (6, .int (((((((nI (0)) + (pLat g k 2 1))) + (pLat g k 1 1))) + (pLat g k 0 1)))), (7, .int (nI (((pMany g k) - 3) + 1 + 1))), (4, .int ((pPen g k))), (3, .int ((pWhy g k))), (2, .int (nI ((pMany g k)))), (1, .int (nI (k))), (0, .ref (ad 254))]) dL_isSample_359 (by decide) rfl ?_
  refine r_iinc (v := (nI (((pMany g k) - 3) + 1 + 1))) (lv' := [(8, .int (nI (((pMany g k) - 3) + 1 + 1))), (5, .int (nI (1))), (6, .int (((((((nI (0)) + (pLat g k 2 1))) + (pLat g k 1 1))) + (pLat g k 0 1)))), (7, .int (nI (((pMany g k) - 3) + 1 + 1))), (4, .int ((pPen g k))), (3, .int ((pWhy g k))), (2, .int (nI ((pMany g k)))), (1, .int (nI (k))), (0, .ref (ad 254))]) dL_isSample_361 rfl (nI_inc _) (by decide) rfl ?_
  refine r_goto (tgt := 317) dL_isSample_364 (by decide) ?_
  refine r_iload dL_isSample_317 rfl ?_
  refine r_iload_n dL_isSample_319 rfl ?_
  refine r_icmp_geN (tgt := 367) dL_isSample_320 (by decide) (by omega) (by omega) (fun c45 => by omega) (fun c45 => ?_)
  refine r_iload dL_isSample_323 rfl ?_
  refine r_if_eqN (tgt := 358) dL_isSample_325 (by decide) (by omega) (fun c46 => absurd c46 (by omega)) (fun c46 => ?_)
  refine r_aload_n dL_isSample_328 rfl ?_
  refine r_iload_n dL_isSample_329 rfl ?_
  refine r_iload dL_isSample_330 rfl ?_
  refine r_iconst (v := nI 1) dL_isSample_332 (by decide) ?_
  refine r_callV (As := [.int (nI (k)), .int (nI (((pMany g k) - 3) + 1 + 1)), .int (nI (1))]) dL_isSample_333 (fM_isI (v' := (pLat g k 0 1)) (tZ_rd hA hC (by omega) (by omega) (by omega)) (by unfold rdF pLat; rw [if_pos (by omega)]; congr 1; omega)) rfl hC.1 rfl rfl oX8_readingZ rfl kL_26M nX8_readingZ eX8_readingZ (by unfold fRoom; decide) (Nat.le_of_ble_eq_true rfl) rfl (bc' := 0) (bs' := 0) rfl rfl ?_
  show fR _ _ _ 336 _ (.int (pLat g k 0 1) :: _) _ _ _ _
  refine r_aload_n dL_isSample_336 rfl ?_
  refine r_iload_n dL_isSample_337 rfl ?_
  refine r_iload dL_isSample_338 rfl ?_
  refine r_iconst (v := nI 1) dL_isSample_340 (by decide) ?_
  refine r_callV (As := [.int (nI (k)), .int (nI (((pMany g k) - 3) + 1 + 1)), .int (nI (1))]) dL_isSample_341 (fM_isI (v' := (pLat g k 0 1)) (tZ_rd hA hC (by omega) (by omega) (by omega)) (by unfold rdF pLat; rw [if_pos (by omega)]; congr 1; omega)) rfl hC.1 rfl rfl oX8_readingZ rfl kL_26M nX8_readingZ eX8_readingZ (by unfold fRoom; decide) (Nat.le_of_ble_eq_true rfl) rfl (bc' := 0) (bs' := 0) rfl rfl ?_
  show fR _ _ _ 344 _ (.int (pLat g k 0 1) :: _) _ _ _ _
  refine r_isub dL_isSample_344 ?_
  refine r_aload_n dL_isSample_345 rfl ?_
  refine r_bipush (v := nI 9) dL_isSample_346 (by decide) ?_
  refine r_callV (As := [.int (nI (9))]) dL_isSample_348 (fM_isI (v' := (g 6)) (tZ_count hA hC (by omega)) rfl) rfl hC.1 rfl rfl oX8_countZ rfl kL_13M nX8_countZ eX8_countZ (by unfold fRoom; decide) (Nat.le_of_ble_eq_true rfl) rfl (bc' := 0) (bs' := 0) rfl rfl ?_
  show fR _ _ _ 351 _ (.int (g 6) :: _) _ _ _ _
  refine r_icmp_gt (tgt := 358) dL_isSample_351 (by decide) (fun c47 => by exact absurd c47 (pLat_diff hI hk w0 (a := 0) (b := 0) (by omega) (by omega))) (fun c47 => ?_)
  refine r_iconst (v := nI 1) dL_isSample_354 (by decide) ?_
  refine r_goto (tgt := 359) dL_isSample_355 (by decide) ?_
  refine r_istore (lv' := [(5, .int (nI (1))), (8, .int (nI (((pMany g k) - 3) + 1 + 1))), (6, .int (((((((nI (0)) + (pLat g k 2 1))) + (pLat g k 1 1))) + (pLat g k 0 1)))), (7, .int (nI (((pMany g k) - 3) + 1 + 1))), (4, .int ((pPen g k))), (3, .int ((pWhy g k))), (2, .int (nI ((pMany g k)))), (1, .int (nI (k))), (0, .ref (ad 254))]) dL_isSample_359 (by decide) rfl ?_
  refine r_iinc (v := (nI (((pMany g k) - 3) + 1 + 1 + 1))) (lv' := [(8, .int (nI (((pMany g k) - 3) + 1 + 1 + 1))), (5, .int (nI (1))), (6, .int (((((((nI (0)) + (pLat g k 2 1))) + (pLat g k 1 1))) + (pLat g k 0 1)))), (7, .int (nI (((pMany g k) - 3) + 1 + 1))), (4, .int ((pPen g k))), (3, .int ((pWhy g k))), (2, .int (nI ((pMany g k)))), (1, .int (nI (k))), (0, .ref (ad 254))]) dL_isSample_361 rfl (nI_inc _) (by decide) rfl ?_
  refine r_goto (tgt := 317) dL_isSample_364 (by decide) ?_
  refine r_iload dL_isSample_317 rfl ?_
  refine r_iload_n dL_isSample_319 rfl ?_
  refine r_icmp_geN (tgt := 367) dL_isSample_320 (by decide) (by omega) (by omega) (fun c48 => ?_) (fun c48 => by omega)
  refine r_iinc (v := (nI (((pMany g k) - 3) + 1 + 1 + 1))) (lv' := [(7, .int (nI (((pMany g k) - 3) + 1 + 1 + 1))), (8, .int (nI (((pMany g k) - 3) + 1 + 1 + 1))), (5, .int (nI (1))), (6, .int (((((((nI (0)) + (pLat g k 2 1))) + (pLat g k 1 1))) + (pLat g k 0 1)))), (4, .int ((pPen g k))), (3, .int ((pWhy g k))), (2, .int (nI ((pMany g k)))), (1, .int (nI (k))), (0, .ref (ad 254))]) dL_isSample_367 rfl (nI_inc _) (by decide) rfl ?_
  refine r_goto (tgt := 230) dL_isSample_370 (by decide) ?_
  refine r_iload dL_isSample_230 rfl ?_
  refine r_iload_n dL_isSample_232 rfl ?_
  refine r_icmp_geN (tgt := 373) dL_isSample_233 (by decide) (by omega) (by omega) (fun c49 => ?_) (fun c49 => by omega)
  refine r_lv (lv' := [(6, .int (((((((nI (0)) + (pLat g k 2 1))) + (pLat g k 1 1))) + (pLat g k 0 1)))), (5, .int (nI (1))), (4, .int ((pPen g k))), (3, .int ((pWhy g k))), (2, .int (nI ((pMany g k)))), (1, .int (nI (k))), (0, .ref (ad 254))]) (by simp) ?_
  exact lL_isSample_D hA hC hk hX3 (fun _ => pPen_sum w0)
theorem lL_isSampleB {l : Launch} {κ : KP} {M : Mem} {ad : Nat → Nat} {g tx : Nat → Int32} {dn n sn ln : Nat} {kp : Bool} (hA : aInj ad) (hC : ClsAt κ ad M ⟨g, sn, kp, tx, ln⟩ dn n) {k : Nat} (hk : k < n) {P : FPost} (kk : fR l κ mL_isSample 222 [(6, .int (nI (10))), (5, .int (nI (1))), (4, .int ((pPen g k))), (3, .int ((pWhy g k))), (2, .int (nI ((pMany g k)))), (1, .int (nI (k))), (0, .ref (ad 254))] [] M 0 0 P) : ∀ (N e : Nat), N + e = 10 → fR l κ mL_isSample 152 [(6, .int (nI (e))), (5, .int (nI (1))), (4, .int ((pPen g k))), (3, .int ((pWhy g k))), (2, .int (nI ((pMany g k)))), (1, .int (nI (k))), (0, .ref (ad 254))] [] M 0 0 P := by
  have hI : BI g dn n := hC.2.2.1
  have hdn := hI.dle
  have hn := hI.nle
  have hsn : sn ≤ 6 := hC.2.1.s6
  have hm9 := (hI.mM k hk).2
  intro N
  induction N with
  | zero =>
    intro e hj
    refine r_iload dL_isSample_152 rfl ?_
    refine r_bipush (v := nI 10) dL_isSample_154 (by decide) ?_
    refine r_icmp_geN (tgt := 222) dL_isSample_156 (by decide) (by omega) (by omega) (fun c1 => ?_) (fun c1 => ?_)
    · skip
      have ej : e = 10 := by omega
      rw [ej]
      skip
      exact kk
    · exact absurd c1 (by omega)
  | succ N ih =>
    intro e hj
    refine r_iload dL_isSample_152 rfl ?_
    refine r_bipush (v := nI 10) dL_isSample_154 (by decide) ?_
    refine r_icmp_geN (tgt := 222) dL_isSample_156 (by decide) (by omega) (by omega) (fun c1 => ?_) (fun c1 => ?_)
    · exact absurd c1 (by omega)
    · skip
      by_cases ce : e < pMany g k
      · skip
        obtain ⟨-, y, hy, ey⟩ := hI.rd k hk e ce
        have er : rdF g k e 1 = nI y := by unfold rdF; rw [if_pos ce, show 6 + (e * 4 + 1) = 6 + 4 * e + 1 by omega, ey]
        have hnone : ¬ rdF g k e 1 = -1 := by rw [er]; exact nI_m1 (by omega)
        have hle : ¬ nI 400 < rdF g k e 1 := by rw [er]; exact nI_nlt hy (by omega)
        refine r_iload dL_isSample_159 rfl ?_
        refine r_if_eqN (tgt := 213) dL_isSample_161 (by decide) (by omega) (fun c2 => absurd c2 (by omega)) (fun c2 => ?_)
        refine r_aload_n dL_isSample_164 rfl ?_
        refine r_iload_n dL_isSample_165 rfl ?_
        refine r_iload dL_isSample_166 rfl ?_
        refine r_iconst (v := nI 1) dL_isSample_168 (by decide) ?_
        refine r_callV (As := [.int (nI (k)), .int (nI (e)), .int (nI (1))]) dL_isSample_169 (fM_isI (v' := (rdF g k e 1)) (tZ_rd hA hC (by omega) (by omega) (by omega)) rfl) rfl hC.1 rfl rfl oX8_readingZ rfl kL_26M nX8_readingZ eX8_readingZ (by unfold fRoom; decide) (Nat.le_of_ble_eq_true rfl) rfl (bc' := 0) (bs' := 0) rfl rfl ?_
        show fR _ _ _ 172 _ (.int (rdF g k e 1) :: _) _ _ _ _
        refine r_iconst (v := (-1)) dL_isSample_172 (by decide) ?_
        refine r_icmp_ne (tgt := 180) dL_isSample_173 (by decide) (fun c3 => ?_) (fun c3 => by exact absurd c3 hnone)
        refine r_iconst (v := nI 0) dL_isSample_180 (by decide) ?_
        refine r_iload dL_isSample_181 rfl ?_
        refine r_iload_n dL_isSample_183 rfl ?_
        refine r_icmp_ltN (tgt := 191) dL_isSample_184 (by decide) (by omega) (by omega) (fun c4 => ?_) (fun c4 => by omega)
        refine r_iconst (v := nI 0) dL_isSample_191 (by decide) ?_
        refine r_icmp_neN (tgt := 213) dL_isSample_192 (by decide) (by omega) (by omega) (fun c5 => absurd c5 (by omega)) (fun c5 => ?_)
        refine r_aload_n dL_isSample_195 rfl ?_
        refine r_iload_n dL_isSample_196 rfl ?_
        refine r_iload dL_isSample_197 rfl ?_
        refine r_iconst (v := nI 1) dL_isSample_199 (by decide) ?_
        refine r_callV (As := [.int (nI (k)), .int (nI (e)), .int (nI (1))]) dL_isSample_200 (fM_isI (v' := (rdF g k e 1)) (tZ_rd hA hC (by omega) (by omega) (by omega)) rfl) rfl hC.1 rfl rfl oX8_readingZ rfl kL_26M nX8_readingZ eX8_readingZ (by unfold fRoom; decide) (Nat.le_of_ble_eq_true rfl) rfl (bc' := 0) (bs' := 0) rfl rfl ?_
        show fR _ _ _ 203 _ (.int (rdF g k e 1) :: _) _ _ _ _
        refine r_sipush (v := nI 400) dL_isSample_203 (by decide) ?_
        refine r_icmp_gt (tgt := 213) dL_isSample_206 (by decide) (fun c6 => by exact absurd c6 hle) (fun c6 => ?_)
        refine r_iconst (v := nI 1) dL_isSample_209 (by decide) ?_
        refine r_goto (tgt := 214) dL_isSample_210 (by decide) ?_
        refine r_istore (lv' := [(5, .int (nI (1))), (6, .int (nI (e))), (4, .int ((pPen g k))), (3, .int ((pWhy g k))), (2, .int (nI ((pMany g k)))), (1, .int (nI (k))), (0, .ref (ad 254))]) dL_isSample_214 (by decide) rfl ?_
        refine r_iinc (v := (nI (e + 1))) (lv' := [(6, .int (nI (e + 1))), (5, .int (nI (1))), (4, .int ((pPen g k))), (3, .int ((pWhy g k))), (2, .int (nI ((pMany g k)))), (1, .int (nI (k))), (0, .ref (ad 254))]) dL_isSample_216 rfl (nI_inc _) (by decide) rfl ?_
        refine r_goto (tgt := 152) dL_isSample_219 (by decide) ?_
        refine r_lv (lv' := [(6, .int (nI (e + 1))), (5, .int (nI (1))), (4, .int ((pPen g k))), (3, .int ((pWhy g k))), (2, .int (nI ((pMany g k)))), (1, .int (nI (k))), (0, .ref (ad 254))]) (by simp) ?_
        exact ih (e + 1) (by omega)
      · skip
        have er : rdF g k e 1 = -1 := by unfold rdF; rw [if_neg ce]
        have hnone : rdF g k e 1 = -1 := er
        have hle : ¬ nI 400 < rdF g k e 1 := by rw [er]; decide
        refine r_iload dL_isSample_159 rfl ?_
        refine r_if_eqN (tgt := 213) dL_isSample_161 (by decide) (by omega) (fun c7 => absurd c7 (by omega)) (fun c7 => ?_)
        refine r_aload_n dL_isSample_164 rfl ?_
        refine r_iload_n dL_isSample_165 rfl ?_
        refine r_iload dL_isSample_166 rfl ?_
        refine r_iconst (v := nI 1) dL_isSample_168 (by decide) ?_
        refine r_callV (As := [.int (nI (k)), .int (nI (e)), .int (nI (1))]) dL_isSample_169 (fM_isI (v' := (rdF g k e 1)) (tZ_rd hA hC (by omega) (by omega) (by omega)) rfl) rfl hC.1 rfl rfl oX8_readingZ rfl kL_26M nX8_readingZ eX8_readingZ (by unfold fRoom; decide) (Nat.le_of_ble_eq_true rfl) rfl (bc' := 0) (bs' := 0) rfl rfl ?_
        show fR _ _ _ 172 _ (.int (rdF g k e 1) :: _) _ _ _ _
        refine r_iconst (v := (-1)) dL_isSample_172 (by decide) ?_
        refine r_icmp_ne (tgt := 180) dL_isSample_173 (by decide) (fun c8 => by exact absurd hnone c8) (fun c8 => ?_)
        refine r_iconst (v := nI 1) dL_isSample_176 (by decide) ?_
        refine r_goto (tgt := 181) dL_isSample_177 (by decide) ?_
        refine r_iload dL_isSample_181 rfl ?_
        refine r_iload_n dL_isSample_183 rfl ?_
        refine r_icmp_ltN (tgt := 191) dL_isSample_184 (by decide) (by omega) (by omega) (fun c9 => by omega) (fun c9 => ?_)
        refine r_iconst (v := nI 1) dL_isSample_187 (by decide) ?_
        refine r_goto (tgt := 192) dL_isSample_188 (by decide) ?_
        refine r_icmp_neN (tgt := 213) dL_isSample_192 (by decide) (by omega) (by omega) (fun c10 => absurd c10 (by omega)) (fun c10 => ?_)
        refine r_aload_n dL_isSample_195 rfl ?_
        refine r_iload_n dL_isSample_196 rfl ?_
        refine r_iload dL_isSample_197 rfl ?_
        refine r_iconst (v := nI 1) dL_isSample_199 (by decide) ?_
        refine r_callV (As := [.int (nI (k)), .int (nI (e)), .int (nI (1))]) dL_isSample_200 (fM_isI (v' := (rdF g k e 1)) (tZ_rd hA hC (by omega) (by omega) (by omega)) rfl) rfl hC.1 rfl rfl oX8_readingZ rfl kL_26M nX8_readingZ eX8_readingZ (by unfold fRoom; decide) (Nat.le_of_ble_eq_true rfl) rfl (bc' := 0) (bs' := 0) rfl rfl ?_
        show fR _ _ _ 203 _ (.int (rdF g k e 1) :: _) _ _ _ _
        refine r_sipush (v := nI 400) dL_isSample_203 (by decide) ?_
        refine r_icmp_gt (tgt := 213) dL_isSample_206 (by decide) (fun c11 => by exact absurd c11 hle) (fun c11 => ?_)
        refine r_iconst (v := nI 1) dL_isSample_209 (by decide) ?_
        refine r_goto (tgt := 214) dL_isSample_210 (by decide) ?_
        refine r_istore (lv' := [(5, .int (nI (1))), (6, .int (nI (e))), (4, .int ((pPen g k))), (3, .int ((pWhy g k))), (2, .int (nI ((pMany g k)))), (1, .int (nI (k))), (0, .ref (ad 254))]) dL_isSample_214 (by decide) rfl ?_
        refine r_iinc (v := (nI (e + 1))) (lv' := [(6, .int (nI (e + 1))), (5, .int (nI (1))), (4, .int ((pPen g k))), (3, .int ((pWhy g k))), (2, .int (nI ((pMany g k)))), (1, .int (nI (k))), (0, .ref (ad 254))]) dL_isSample_216 rfl (nI_inc _) (by decide) rfl ?_
        refine r_goto (tgt := 152) dL_isSample_219 (by decide) ?_
        refine r_lv (lv' := [(6, .int (nI (e + 1))), (5, .int (nI (1))), (4, .int ((pPen g k))), (3, .int ((pWhy g k))), (2, .int (nI ((pMany g k)))), (1, .int (nI (k))), (0, .ref (ad 254))]) (by simp) ?_
        exact ih (e + 1) (by omega)
theorem lL_isSample_A {l : Launch} {κ : KP} {M : Mem} {ad : Nat → Nat} {g tx : Nat → Int32} {dn n sn ln : Nat} {kp : Bool} (hA : aInj ad) (hC : ClsAt κ ad M ⟨g, sn, kp, tx, ln⟩ dn n) {k : Nat} (hk : k < n) {P : FPost} (kk : fR l κ mL_isSample 149 [(5, .int (nI (1))), (4, .int ((pPen g k))), (3, .int ((pWhy g k))), (2, .int (nI ((pMany g k)))), (1, .int (nI (k))), (0, .ref (ad 254))] [] M 0 0 P) : fR l κ mL_isSample 23 [(4, .int ((pPen g k))), (3, .int ((pWhy g k))), (2, .int (nI ((pMany g k)))), (1, .int (nI (k))), (0, .ref (ad 254))] [] M 0 0 (P) := by
  have hI : BI g dn n := hC.2.2.1
  have hdn := hI.dle
  have hn := hI.nle
  have hsn : sn ≤ 6 := hC.2.1.s6
  have hm9 := (hI.mM k hk).2
  obtain ⟨t, ht, et⟩ := (hI.sa k hk).2.2.1
  have ht0 : ¬ pOf g k 2 < 0 := by rw [et]; exact nI_pos (by omega)
  have ht9 : ¬ nI 900 < pOf g k 2 := by rw [et]; exact nI_nlt ht (by omega)
  by_cases w0 : pWhy g k = 0
  · skip
    obtain ⟨y, hy, ey⟩ := pPen_y hI hk w0
    have hp : ¬ pPen g k = -1 := by rw [ey]; exact nI_m1 (by omega)
    refine r_iload_n dL_isSample_23 rfl ?_
    refine r_if_ltN (tgt := 146) dL_isSample_24 (by decide) (by omega) (fun c1 => by omega) (fun c1 => ?_)
    refine r_iload_n dL_isSample_27 rfl ?_
    refine r_bipush (v := nI 9) dL_isSample_28 (by decide) ?_
    refine r_icmp_gtN (tgt := 146) dL_isSample_30 (by decide) (by omega) (by omega) (fun c2 => by omega) (fun c2 => ?_)
    refine r_iload dL_isSample_33 rfl ?_
    refine r_iconst (v := (-1)) dL_isSample_35 (by decide) ?_
    refine r_icmp_ne (tgt := 43) dL_isSample_36 (by decide) (fun c3 => ?_) (fun c3 => by exact absurd c3 hp)
    refine r_iconst (v := nI 0) dL_isSample_43 (by decide) ?_
    refine r_iload_n dL_isSample_44 rfl ?_
    refine r_if_eq (tgt := 52) dL_isSample_45 (by decide) (fun c4 => ?_) (fun c4 => by exact absurd w0 c4)
    refine r_iconst (v := nI 0) dL_isSample_52 (by decide) ?_
    refine r_icmp_neN (tgt := 146) dL_isSample_53 (by decide) (by omega) (by omega) (fun c5 => absurd c5 (by omega)) (fun c5 => ?_)
    by_cases m3 : pMany g k < 3
    · skip
      refine r_iload_n dL_isSample_56 rfl ?_
      refine r_iconst (v := nI 5) dL_isSample_57 (by decide) ?_
      refine r_icmp_ne (tgt := 65) dL_isSample_58 (by decide) (fun c6 => by exact absurd (pWhy_5 m3) c6) (fun c6 => ?_)
      refine r_iconst (v := nI 1) dL_isSample_61 (by decide) ?_
      refine r_goto (tgt := 66) dL_isSample_62 (by decide) ?_
      refine r_iload_n dL_isSample_66 rfl ?_
      refine r_iconst (v := nI 3) dL_isSample_67 (by decide) ?_
      refine r_icmp_geN (tgt := 75) dL_isSample_68 (by decide) (by omega) (by omega) (fun c7 => by omega) (fun c7 => ?_)
      refine r_iconst (v := nI 1) dL_isSample_71 (by decide) ?_
      refine r_goto (tgt := 76) dL_isSample_72 (by decide) ?_
      refine r_icmp_neN (tgt := 146) dL_isSample_76 (by decide) (by omega) (by omega) (fun c8 => absurd c8 (by omega)) (fun c8 => ?_)
      refine r_aload_n dL_isSample_79 rfl ?_
      refine r_iload_n dL_isSample_80 rfl ?_
      refine r_iconst (v := nI 2) dL_isSample_81 (by decide) ?_
      refine r_callV (As := [.int (nI (k)), .int (nI (2))]) dL_isSample_82 (fM_isI (v' := (pOf g k 2)) (tZ_sampleOf hA hC (by omega) (by omega)) rfl) rfl hC.1 rfl rfl oX8_sampleOfZ rfl kL_23M nX8_sampleOfZ eX8_sampleOfZ (by unfold fRoom; decide) (Nat.le_of_ble_eq_true rfl) rfl (bc' := 0) (bs' := 0) rfl rfl ?_
      show fR _ _ _ 85 _ (.int (pOf g k 2) :: _) _ _ _ _
      refine r_if_lt (tgt := 146) dL_isSample_85 (by decide) (fun c9 => by exact absurd c9 ht0) (fun c9 => ?_)
      refine r_aload_n dL_isSample_88 rfl ?_
      refine r_iload_n dL_isSample_89 rfl ?_
      refine r_iconst (v := nI 2) dL_isSample_90 (by decide) ?_
      refine r_callV (As := [.int (nI (k)), .int (nI (2))]) dL_isSample_91 (fM_isI (v' := (pOf g k 2)) (tZ_sampleOf hA hC (by omega) (by omega)) rfl) rfl hC.1 rfl rfl oX8_sampleOfZ rfl kL_23M nX8_sampleOfZ eX8_sampleOfZ (by unfold fRoom; decide) (Nat.le_of_ble_eq_true rfl) rfl (bc' := 0) (bs' := 0) rfl rfl ?_
      show fR _ _ _ 94 _ (.int (pOf g k 2) :: _) _ _ _ _
      refine r_sipush (v := nI 900) dL_isSample_94 (by decide) ?_
      refine r_icmp_gt (tgt := 146) dL_isSample_97 (by decide) (fun c10 => by exact absurd c10 ht9) (fun c10 => ?_)
      by_cases s4 : pOf g k 4 = -1
      · skip
        refine r_aload_n dL_isSample_100 rfl ?_
        refine r_iload_n dL_isSample_101 rfl ?_
        refine r_bipush (v := nI 7) dL_isSample_102 (by decide) ?_
        refine r_callV (As := [.int (nI (k)), .int (nI (7))]) dL_isSample_104 (fM_isI (v' := (pOf g k 4)) (tZ_sampleOf hA hC (by omega) (by omega)) rfl) rfl hC.1 rfl rfl oX8_sampleOfZ rfl kL_23M nX8_sampleOfZ eX8_sampleOfZ (by unfold fRoom; decide) (Nat.le_of_ble_eq_true rfl) rfl (bc' := 0) (bs' := 0) rfl rfl ?_
        show fR _ _ _ 107 _ (.int (pOf g k 4) :: _) _ _ _ _
        refine r_iconst (v := (-1)) dL_isSample_107 (by decide) ?_
        refine r_icmp_eq (tgt := 124) dL_isSample_108 (by decide) (fun c11 => ?_) (fun c11 => by exact absurd s4 c11)
        by_cases b3 : pOf g k 3 = -1
        · skip
          refine r_aload_n dL_isSample_124 rfl ?_
          refine r_iload_n dL_isSample_125 rfl ?_
          refine r_iconst (v := nI 3) dL_isSample_126 (by decide) ?_
          refine r_callV (As := [.int (nI (k)), .int (nI (3))]) dL_isSample_127 (fM_isI (v' := (pOf g k 3)) (tZ_sampleOf hA hC (by omega) (by omega)) rfl) rfl hC.1 rfl rfl oX8_sampleOfZ rfl kL_23M nX8_sampleOfZ eX8_sampleOfZ (by unfold fRoom; decide) (Nat.le_of_ble_eq_true rfl) rfl (bc' := 0) (bs' := 0) rfl rfl ?_
          show fR _ _ _ 130 _ (.int (pOf g k 3) :: _) _ _ _ _
          refine r_if_ge (tgt := 142) dL_isSample_130 (by decide) (fun c12 => by exact absurd c12 (by rw [b3]; decide)) (fun c12 => ?_)
          refine r_aload_n dL_isSample_133 rfl ?_
          refine r_iload_n dL_isSample_134 rfl ?_
          refine r_callV (As := [.int (nI (k))]) dL_isSample_135 (fM_isI (v' := (pReadyNow g k)) (tZ_readyIn hA hC (by omega)) rfl) rfl hC.1 rfl rfl oX8_readyInZ rfl kL_91M nX8_readyInZ eX8_readyInZ (by unfold fRoom; decide) (Nat.le_of_ble_eq_true rfl) rfl (bc' := 0) (bs' := 0) rfl rfl ?_
          show fR _ _ _ 138 _ (.int (pReadyNow g k) :: _) _ _ _ _
          refine r_iconst (v := (-1)) dL_isSample_138 (by decide) ?_
          refine r_icmp_ne (tgt := 146) dL_isSample_139 (by decide) (fun c13 => by exact absurd (if_pos b3) c13) (fun c13 => ?_)
          refine r_iconst (v := nI 1) dL_isSample_142 (by decide) ?_
          refine r_goto (tgt := 147) dL_isSample_143 (by decide) ?_
          refine r_istore (lv' := [(5, .int (nI (1))), (4, .int ((pPen g k))), (3, .int ((pWhy g k))), (2, .int (nI ((pMany g k)))), (1, .int (nI (k))), (0, .ref (ad 254))]) dL_isSample_147 (by decide) rfl ?_
          refine r_lv (lv' := [(5, .int (nI (1))), (4, .int ((pPen g k))), (3, .int ((pWhy g k))), (2, .int (nI ((pMany g k)))), (1, .int (nI (k))), (0, .ref (ad 254))]) (by simp) ?_
          exact kk
        · skip
          have hb3 : ¬ pOf g k 3 < 0 := by obtain ⟨b, hb, eb⟩ := (hI.sa k hk).2.2.2.1.resolve_left b3; rw [eb]; exact nI_pos (by omega)
          refine r_aload_n dL_isSample_124 rfl ?_
          refine r_iload_n dL_isSample_125 rfl ?_
          refine r_iconst (v := nI 3) dL_isSample_126 (by decide) ?_
          refine r_callV (As := [.int (nI (k)), .int (nI (3))]) dL_isSample_127 (fM_isI (v' := (pOf g k 3)) (tZ_sampleOf hA hC (by omega) (by omega)) rfl) rfl hC.1 rfl rfl oX8_sampleOfZ rfl kL_23M nX8_sampleOfZ eX8_sampleOfZ (by unfold fRoom; decide) (Nat.le_of_ble_eq_true rfl) rfl (bc' := 0) (bs' := 0) rfl rfl ?_
          show fR _ _ _ 130 _ (.int (pOf g k 3) :: _) _ _ _ _
          refine r_if_ge (tgt := 142) dL_isSample_130 (by decide) (fun c14 => ?_) (fun c14 => by exact absurd (Int32.not_lt.mp hb3) c14)
          refine r_iconst (v := nI 1) dL_isSample_142 (by decide) ?_
          refine r_goto (tgt := 147) dL_isSample_143 (by decide) ?_
          refine r_istore (lv' := [(5, .int (nI (1))), (4, .int ((pPen g k))), (3, .int ((pWhy g k))), (2, .int (nI ((pMany g k)))), (1, .int (nI (k))), (0, .ref (ad 254))]) dL_isSample_147 (by decide) rfl ?_
          refine r_lv (lv' := [(5, .int (nI (1))), (4, .int ((pPen g k))), (3, .int ((pWhy g k))), (2, .int (nI ((pMany g k)))), (1, .int (nI (k))), (0, .ref (ad 254))]) (by simp) ?_
          exact kk
      · skip
        have hs4 : ¬ pOf g k 4 < nI 250 := by obtain ⟨s, s1, s2, es⟩ := (hI.sa k hk).2.2.2.2.1.resolve_left s4; rw [es]; exact nI_nlt s2 (by omega)
        refine r_aload_n dL_isSample_100 rfl ?_
        refine r_iload_n dL_isSample_101 rfl ?_
        refine r_bipush (v := nI 7) dL_isSample_102 (by decide) ?_
        refine r_callV (As := [.int (nI (k)), .int (nI (7))]) dL_isSample_104 (fM_isI (v' := (pOf g k 4)) (tZ_sampleOf hA hC (by omega) (by omega)) rfl) rfl hC.1 rfl rfl oX8_sampleOfZ rfl kL_23M nX8_sampleOfZ eX8_sampleOfZ (by unfold fRoom; decide) (Nat.le_of_ble_eq_true rfl) rfl (bc' := 0) (bs' := 0) rfl rfl ?_
        show fR _ _ _ 107 _ (.int (pOf g k 4) :: _) _ _ _ _
        refine r_iconst (v := (-1)) dL_isSample_107 (by decide) ?_
        refine r_icmp_eq (tgt := 124) dL_isSample_108 (by decide) (fun c15 => by exact absurd c15 s4) (fun c15 => ?_)
        refine r_aload_n dL_isSample_111 rfl ?_
        refine r_iload_n dL_isSample_112 rfl ?_
        refine r_bipush (v := nI 7) dL_isSample_113 (by decide) ?_
        refine r_callV (As := [.int (nI (k)), .int (nI (7))]) dL_isSample_115 (fM_isI (v' := (pOf g k 4)) (tZ_sampleOf hA hC (by omega) (by omega)) rfl) rfl hC.1 rfl rfl oX8_sampleOfZ rfl kL_23M nX8_sampleOfZ eX8_sampleOfZ (by unfold fRoom; decide) (Nat.le_of_ble_eq_true rfl) rfl (bc' := 0) (bs' := 0) rfl rfl ?_
        show fR _ _ _ 118 _ (.int (pOf g k 4) :: _) _ _ _ _
        refine r_sipush (v := nI 250) dL_isSample_118 (by decide) ?_
        refine r_icmp_lt (tgt := 146) dL_isSample_121 (by decide) (fun c16 => by exact absurd c16 hs4) (fun c16 => ?_)
        by_cases b3 : pOf g k 3 = -1
        · skip
          refine r_aload_n dL_isSample_124 rfl ?_
          refine r_iload_n dL_isSample_125 rfl ?_
          refine r_iconst (v := nI 3) dL_isSample_126 (by decide) ?_
          refine r_callV (As := [.int (nI (k)), .int (nI (3))]) dL_isSample_127 (fM_isI (v' := (pOf g k 3)) (tZ_sampleOf hA hC (by omega) (by omega)) rfl) rfl hC.1 rfl rfl oX8_sampleOfZ rfl kL_23M nX8_sampleOfZ eX8_sampleOfZ (by unfold fRoom; decide) (Nat.le_of_ble_eq_true rfl) rfl (bc' := 0) (bs' := 0) rfl rfl ?_
          show fR _ _ _ 130 _ (.int (pOf g k 3) :: _) _ _ _ _
          refine r_if_ge (tgt := 142) dL_isSample_130 (by decide) (fun c17 => by exact absurd c17 (by rw [b3]; decide)) (fun c17 => ?_)
          refine r_aload_n dL_isSample_133 rfl ?_
          refine r_iload_n dL_isSample_134 rfl ?_
          refine r_callV (As := [.int (nI (k))]) dL_isSample_135 (fM_isI (v' := (pReadyNow g k)) (tZ_readyIn hA hC (by omega)) rfl) rfl hC.1 rfl rfl oX8_readyInZ rfl kL_91M nX8_readyInZ eX8_readyInZ (by unfold fRoom; decide) (Nat.le_of_ble_eq_true rfl) rfl (bc' := 0) (bs' := 0) rfl rfl ?_
          show fR _ _ _ 138 _ (.int (pReadyNow g k) :: _) _ _ _ _
          refine r_iconst (v := (-1)) dL_isSample_138 (by decide) ?_
          refine r_icmp_ne (tgt := 146) dL_isSample_139 (by decide) (fun c18 => by exact absurd (if_pos b3) c18) (fun c18 => ?_)
          refine r_iconst (v := nI 1) dL_isSample_142 (by decide) ?_
          refine r_goto (tgt := 147) dL_isSample_143 (by decide) ?_
          refine r_istore (lv' := [(5, .int (nI (1))), (4, .int ((pPen g k))), (3, .int ((pWhy g k))), (2, .int (nI ((pMany g k)))), (1, .int (nI (k))), (0, .ref (ad 254))]) dL_isSample_147 (by decide) rfl ?_
          refine r_lv (lv' := [(5, .int (nI (1))), (4, .int ((pPen g k))), (3, .int ((pWhy g k))), (2, .int (nI ((pMany g k)))), (1, .int (nI (k))), (0, .ref (ad 254))]) (by simp) ?_
          exact kk
        · skip
          have hb3 : ¬ pOf g k 3 < 0 := by obtain ⟨b, hb, eb⟩ := (hI.sa k hk).2.2.2.1.resolve_left b3; rw [eb]; exact nI_pos (by omega)
          refine r_aload_n dL_isSample_124 rfl ?_
          refine r_iload_n dL_isSample_125 rfl ?_
          refine r_iconst (v := nI 3) dL_isSample_126 (by decide) ?_
          refine r_callV (As := [.int (nI (k)), .int (nI (3))]) dL_isSample_127 (fM_isI (v' := (pOf g k 3)) (tZ_sampleOf hA hC (by omega) (by omega)) rfl) rfl hC.1 rfl rfl oX8_sampleOfZ rfl kL_23M nX8_sampleOfZ eX8_sampleOfZ (by unfold fRoom; decide) (Nat.le_of_ble_eq_true rfl) rfl (bc' := 0) (bs' := 0) rfl rfl ?_
          show fR _ _ _ 130 _ (.int (pOf g k 3) :: _) _ _ _ _
          refine r_if_ge (tgt := 142) dL_isSample_130 (by decide) (fun c19 => ?_) (fun c19 => by exact absurd (Int32.not_lt.mp hb3) c19)
          refine r_iconst (v := nI 1) dL_isSample_142 (by decide) ?_
          refine r_goto (tgt := 147) dL_isSample_143 (by decide) ?_
          refine r_istore (lv' := [(5, .int (nI (1))), (4, .int ((pPen g k))), (3, .int ((pWhy g k))), (2, .int (nI ((pMany g k)))), (1, .int (nI (k))), (0, .ref (ad 254))]) dL_isSample_147 (by decide) rfl ?_
          refine r_lv (lv' := [(5, .int (nI (1))), (4, .int ((pPen g k))), (3, .int ((pWhy g k))), (2, .int (nI ((pMany g k)))), (1, .int (nI (k))), (0, .ref (ad 254))]) (by simp) ?_
          exact kk
    · skip
      refine r_iload_n dL_isSample_56 rfl ?_
      refine r_iconst (v := nI 5) dL_isSample_57 (by decide) ?_
      refine r_icmp_ne (tgt := 65) dL_isSample_58 (by decide) (fun c20 => ?_) (fun c20 => by exact absurd c20 (pWhy_n5 (by omega)))
      refine r_iconst (v := nI 0) dL_isSample_65 (by decide) ?_
      refine r_iload_n dL_isSample_66 rfl ?_
      refine r_iconst (v := nI 3) dL_isSample_67 (by decide) ?_
      refine r_icmp_geN (tgt := 75) dL_isSample_68 (by decide) (by omega) (by omega) (fun c21 => ?_) (fun c21 => by omega)
      refine r_iconst (v := nI 0) dL_isSample_75 (by decide) ?_
      refine r_icmp_neN (tgt := 146) dL_isSample_76 (by decide) (by omega) (by omega) (fun c22 => absurd c22 (by omega)) (fun c22 => ?_)
      refine r_aload_n dL_isSample_79 rfl ?_
      refine r_iload_n dL_isSample_80 rfl ?_
      refine r_iconst (v := nI 2) dL_isSample_81 (by decide) ?_
      refine r_callV (As := [.int (nI (k)), .int (nI (2))]) dL_isSample_82 (fM_isI (v' := (pOf g k 2)) (tZ_sampleOf hA hC (by omega) (by omega)) rfl) rfl hC.1 rfl rfl oX8_sampleOfZ rfl kL_23M nX8_sampleOfZ eX8_sampleOfZ (by unfold fRoom; decide) (Nat.le_of_ble_eq_true rfl) rfl (bc' := 0) (bs' := 0) rfl rfl ?_
      show fR _ _ _ 85 _ (.int (pOf g k 2) :: _) _ _ _ _
      refine r_if_lt (tgt := 146) dL_isSample_85 (by decide) (fun c23 => by exact absurd c23 ht0) (fun c23 => ?_)
      refine r_aload_n dL_isSample_88 rfl ?_
      refine r_iload_n dL_isSample_89 rfl ?_
      refine r_iconst (v := nI 2) dL_isSample_90 (by decide) ?_
      refine r_callV (As := [.int (nI (k)), .int (nI (2))]) dL_isSample_91 (fM_isI (v' := (pOf g k 2)) (tZ_sampleOf hA hC (by omega) (by omega)) rfl) rfl hC.1 rfl rfl oX8_sampleOfZ rfl kL_23M nX8_sampleOfZ eX8_sampleOfZ (by unfold fRoom; decide) (Nat.le_of_ble_eq_true rfl) rfl (bc' := 0) (bs' := 0) rfl rfl ?_
      show fR _ _ _ 94 _ (.int (pOf g k 2) :: _) _ _ _ _
      refine r_sipush (v := nI 900) dL_isSample_94 (by decide) ?_
      refine r_icmp_gt (tgt := 146) dL_isSample_97 (by decide) (fun c24 => by exact absurd c24 ht9) (fun c24 => ?_)
      by_cases s4 : pOf g k 4 = -1
      · skip
        refine r_aload_n dL_isSample_100 rfl ?_
        refine r_iload_n dL_isSample_101 rfl ?_
        refine r_bipush (v := nI 7) dL_isSample_102 (by decide) ?_
        refine r_callV (As := [.int (nI (k)), .int (nI (7))]) dL_isSample_104 (fM_isI (v' := (pOf g k 4)) (tZ_sampleOf hA hC (by omega) (by omega)) rfl) rfl hC.1 rfl rfl oX8_sampleOfZ rfl kL_23M nX8_sampleOfZ eX8_sampleOfZ (by unfold fRoom; decide) (Nat.le_of_ble_eq_true rfl) rfl (bc' := 0) (bs' := 0) rfl rfl ?_
        show fR _ _ _ 107 _ (.int (pOf g k 4) :: _) _ _ _ _
        refine r_iconst (v := (-1)) dL_isSample_107 (by decide) ?_
        refine r_icmp_eq (tgt := 124) dL_isSample_108 (by decide) (fun c25 => ?_) (fun c25 => by exact absurd s4 c25)
        by_cases b3 : pOf g k 3 = -1
        · skip
          refine r_aload_n dL_isSample_124 rfl ?_
          refine r_iload_n dL_isSample_125 rfl ?_
          refine r_iconst (v := nI 3) dL_isSample_126 (by decide) ?_
          refine r_callV (As := [.int (nI (k)), .int (nI (3))]) dL_isSample_127 (fM_isI (v' := (pOf g k 3)) (tZ_sampleOf hA hC (by omega) (by omega)) rfl) rfl hC.1 rfl rfl oX8_sampleOfZ rfl kL_23M nX8_sampleOfZ eX8_sampleOfZ (by unfold fRoom; decide) (Nat.le_of_ble_eq_true rfl) rfl (bc' := 0) (bs' := 0) rfl rfl ?_
          show fR _ _ _ 130 _ (.int (pOf g k 3) :: _) _ _ _ _
          refine r_if_ge (tgt := 142) dL_isSample_130 (by decide) (fun c26 => by exact absurd c26 (by rw [b3]; decide)) (fun c26 => ?_)
          refine r_aload_n dL_isSample_133 rfl ?_
          refine r_iload_n dL_isSample_134 rfl ?_
          refine r_callV (As := [.int (nI (k))]) dL_isSample_135 (fM_isI (v' := (pReadyNow g k)) (tZ_readyIn hA hC (by omega)) rfl) rfl hC.1 rfl rfl oX8_readyInZ rfl kL_91M nX8_readyInZ eX8_readyInZ (by unfold fRoom; decide) (Nat.le_of_ble_eq_true rfl) rfl (bc' := 0) (bs' := 0) rfl rfl ?_
          show fR _ _ _ 138 _ (.int (pReadyNow g k) :: _) _ _ _ _
          refine r_iconst (v := (-1)) dL_isSample_138 (by decide) ?_
          refine r_icmp_ne (tgt := 146) dL_isSample_139 (by decide) (fun c27 => by exact absurd (if_pos b3) c27) (fun c27 => ?_)
          refine r_iconst (v := nI 1) dL_isSample_142 (by decide) ?_
          refine r_goto (tgt := 147) dL_isSample_143 (by decide) ?_
          refine r_istore (lv' := [(5, .int (nI (1))), (4, .int ((pPen g k))), (3, .int ((pWhy g k))), (2, .int (nI ((pMany g k)))), (1, .int (nI (k))), (0, .ref (ad 254))]) dL_isSample_147 (by decide) rfl ?_
          refine r_lv (lv' := [(5, .int (nI (1))), (4, .int ((pPen g k))), (3, .int ((pWhy g k))), (2, .int (nI ((pMany g k)))), (1, .int (nI (k))), (0, .ref (ad 254))]) (by simp) ?_
          exact kk
        · skip
          have hb3 : ¬ pOf g k 3 < 0 := by obtain ⟨b, hb, eb⟩ := (hI.sa k hk).2.2.2.1.resolve_left b3; rw [eb]; exact nI_pos (by omega)
          refine r_aload_n dL_isSample_124 rfl ?_
          refine r_iload_n dL_isSample_125 rfl ?_
          refine r_iconst (v := nI 3) dL_isSample_126 (by decide) ?_
          refine r_callV (As := [.int (nI (k)), .int (nI (3))]) dL_isSample_127 (fM_isI (v' := (pOf g k 3)) (tZ_sampleOf hA hC (by omega) (by omega)) rfl) rfl hC.1 rfl rfl oX8_sampleOfZ rfl kL_23M nX8_sampleOfZ eX8_sampleOfZ (by unfold fRoom; decide) (Nat.le_of_ble_eq_true rfl) rfl (bc' := 0) (bs' := 0) rfl rfl ?_
          show fR _ _ _ 130 _ (.int (pOf g k 3) :: _) _ _ _ _
          refine r_if_ge (tgt := 142) dL_isSample_130 (by decide) (fun c28 => ?_) (fun c28 => by exact absurd (Int32.not_lt.mp hb3) c28)
          refine r_iconst (v := nI 1) dL_isSample_142 (by decide) ?_
          refine r_goto (tgt := 147) dL_isSample_143 (by decide) ?_
          refine r_istore (lv' := [(5, .int (nI (1))), (4, .int ((pPen g k))), (3, .int ((pWhy g k))), (2, .int (nI ((pMany g k)))), (1, .int (nI (k))), (0, .ref (ad 254))]) dL_isSample_147 (by decide) rfl ?_
          refine r_lv (lv' := [(5, .int (nI (1))), (4, .int ((pPen g k))), (3, .int ((pWhy g k))), (2, .int (nI ((pMany g k)))), (1, .int (nI (k))), (0, .ref (ad 254))]) (by simp) ?_
          exact kk
      · skip
        have hs4 : ¬ pOf g k 4 < nI 250 := by obtain ⟨s, s1, s2, es⟩ := (hI.sa k hk).2.2.2.2.1.resolve_left s4; rw [es]; exact nI_nlt s2 (by omega)
        refine r_aload_n dL_isSample_100 rfl ?_
        refine r_iload_n dL_isSample_101 rfl ?_
        refine r_bipush (v := nI 7) dL_isSample_102 (by decide) ?_
        refine r_callV (As := [.int (nI (k)), .int (nI (7))]) dL_isSample_104 (fM_isI (v' := (pOf g k 4)) (tZ_sampleOf hA hC (by omega) (by omega)) rfl) rfl hC.1 rfl rfl oX8_sampleOfZ rfl kL_23M nX8_sampleOfZ eX8_sampleOfZ (by unfold fRoom; decide) (Nat.le_of_ble_eq_true rfl) rfl (bc' := 0) (bs' := 0) rfl rfl ?_
        show fR _ _ _ 107 _ (.int (pOf g k 4) :: _) _ _ _ _
        refine r_iconst (v := (-1)) dL_isSample_107 (by decide) ?_
        refine r_icmp_eq (tgt := 124) dL_isSample_108 (by decide) (fun c29 => by exact absurd c29 s4) (fun c29 => ?_)
        refine r_aload_n dL_isSample_111 rfl ?_
        refine r_iload_n dL_isSample_112 rfl ?_
        refine r_bipush (v := nI 7) dL_isSample_113 (by decide) ?_
        refine r_callV (As := [.int (nI (k)), .int (nI (7))]) dL_isSample_115 (fM_isI (v' := (pOf g k 4)) (tZ_sampleOf hA hC (by omega) (by omega)) rfl) rfl hC.1 rfl rfl oX8_sampleOfZ rfl kL_23M nX8_sampleOfZ eX8_sampleOfZ (by unfold fRoom; decide) (Nat.le_of_ble_eq_true rfl) rfl (bc' := 0) (bs' := 0) rfl rfl ?_
        show fR _ _ _ 118 _ (.int (pOf g k 4) :: _) _ _ _ _
        refine r_sipush (v := nI 250) dL_isSample_118 (by decide) ?_
        refine r_icmp_lt (tgt := 146) dL_isSample_121 (by decide) (fun c30 => by exact absurd c30 hs4) (fun c30 => ?_)
        by_cases b3 : pOf g k 3 = -1
        · skip
          refine r_aload_n dL_isSample_124 rfl ?_
          refine r_iload_n dL_isSample_125 rfl ?_
          refine r_iconst (v := nI 3) dL_isSample_126 (by decide) ?_
          refine r_callV (As := [.int (nI (k)), .int (nI (3))]) dL_isSample_127 (fM_isI (v' := (pOf g k 3)) (tZ_sampleOf hA hC (by omega) (by omega)) rfl) rfl hC.1 rfl rfl oX8_sampleOfZ rfl kL_23M nX8_sampleOfZ eX8_sampleOfZ (by unfold fRoom; decide) (Nat.le_of_ble_eq_true rfl) rfl (bc' := 0) (bs' := 0) rfl rfl ?_
          show fR _ _ _ 130 _ (.int (pOf g k 3) :: _) _ _ _ _
          refine r_if_ge (tgt := 142) dL_isSample_130 (by decide) (fun c31 => by exact absurd c31 (by rw [b3]; decide)) (fun c31 => ?_)
          refine r_aload_n dL_isSample_133 rfl ?_
          refine r_iload_n dL_isSample_134 rfl ?_
          refine r_callV (As := [.int (nI (k))]) dL_isSample_135 (fM_isI (v' := (pReadyNow g k)) (tZ_readyIn hA hC (by omega)) rfl) rfl hC.1 rfl rfl oX8_readyInZ rfl kL_91M nX8_readyInZ eX8_readyInZ (by unfold fRoom; decide) (Nat.le_of_ble_eq_true rfl) rfl (bc' := 0) (bs' := 0) rfl rfl ?_
          show fR _ _ _ 138 _ (.int (pReadyNow g k) :: _) _ _ _ _
          refine r_iconst (v := (-1)) dL_isSample_138 (by decide) ?_
          refine r_icmp_ne (tgt := 146) dL_isSample_139 (by decide) (fun c32 => by exact absurd (if_pos b3) c32) (fun c32 => ?_)
          refine r_iconst (v := nI 1) dL_isSample_142 (by decide) ?_
          refine r_goto (tgt := 147) dL_isSample_143 (by decide) ?_
          refine r_istore (lv' := [(5, .int (nI (1))), (4, .int ((pPen g k))), (3, .int ((pWhy g k))), (2, .int (nI ((pMany g k)))), (1, .int (nI (k))), (0, .ref (ad 254))]) dL_isSample_147 (by decide) rfl ?_
          refine r_lv (lv' := [(5, .int (nI (1))), (4, .int ((pPen g k))), (3, .int ((pWhy g k))), (2, .int (nI ((pMany g k)))), (1, .int (nI (k))), (0, .ref (ad 254))]) (by simp) ?_
          exact kk
        · skip
          have hb3 : ¬ pOf g k 3 < 0 := by obtain ⟨b, hb, eb⟩ := (hI.sa k hk).2.2.2.1.resolve_left b3; rw [eb]; exact nI_pos (by omega)
          refine r_aload_n dL_isSample_124 rfl ?_
          refine r_iload_n dL_isSample_125 rfl ?_
          refine r_iconst (v := nI 3) dL_isSample_126 (by decide) ?_
          refine r_callV (As := [.int (nI (k)), .int (nI (3))]) dL_isSample_127 (fM_isI (v' := (pOf g k 3)) (tZ_sampleOf hA hC (by omega) (by omega)) rfl) rfl hC.1 rfl rfl oX8_sampleOfZ rfl kL_23M nX8_sampleOfZ eX8_sampleOfZ (by unfold fRoom; decide) (Nat.le_of_ble_eq_true rfl) rfl (bc' := 0) (bs' := 0) rfl rfl ?_
          show fR _ _ _ 130 _ (.int (pOf g k 3) :: _) _ _ _ _
          refine r_if_ge (tgt := 142) dL_isSample_130 (by decide) (fun c33 => ?_) (fun c33 => by exact absurd (Int32.not_lt.mp hb3) c33)
          refine r_iconst (v := nI 1) dL_isSample_142 (by decide) ?_
          refine r_goto (tgt := 147) dL_isSample_143 (by decide) ?_
          refine r_istore (lv' := [(5, .int (nI (1))), (4, .int ((pPen g k))), (3, .int ((pWhy g k))), (2, .int (nI ((pMany g k)))), (1, .int (nI (k))), (0, .ref (ad 254))]) dL_isSample_147 (by decide) rfl ?_
          refine r_lv (lv' := [(5, .int (nI (1))), (4, .int ((pPen g k))), (3, .int ((pWhy g k))), (2, .int (nI ((pMany g k)))), (1, .int (nI (k))), (0, .ref (ad 254))]) (by simp) ?_
          exact kk
  · skip
    have hp : pPen g k = -1 := pPen_n w0
    refine r_iload_n dL_isSample_23 rfl ?_
    refine r_if_ltN (tgt := 146) dL_isSample_24 (by decide) (by omega) (fun c34 => by omega) (fun c34 => ?_)
    refine r_iload_n dL_isSample_27 rfl ?_
    refine r_bipush (v := nI 9) dL_isSample_28 (by decide) ?_
    refine r_icmp_gtN (tgt := 146) dL_isSample_30 (by decide) (by omega) (by omega) (fun c35 => by omega) (fun c35 => ?_)
    refine r_iload dL_isSample_33 rfl ?_
    refine r_iconst (v := (-1)) dL_isSample_35 (by decide) ?_
    refine r_icmp_ne (tgt := 43) dL_isSample_36 (by decide) (fun c36 => by exact absurd hp c36) (fun c36 => ?_)
    refine r_iconst (v := nI 1) dL_isSample_39 (by decide) ?_
    refine r_goto (tgt := 44) dL_isSample_40 (by decide) ?_
    refine r_iload_n dL_isSample_44 rfl ?_
    refine r_if_eq (tgt := 52) dL_isSample_45 (by decide) (fun c37 => by exact absurd c37 w0) (fun c37 => ?_)
    refine r_iconst (v := nI 1) dL_isSample_48 (by decide) ?_
    refine r_goto (tgt := 53) dL_isSample_49 (by decide) ?_
    refine r_icmp_neN (tgt := 146) dL_isSample_53 (by decide) (by omega) (by omega) (fun c38 => absurd c38 (by omega)) (fun c38 => ?_)
    by_cases m3 : pMany g k < 3
    · skip
      refine r_iload_n dL_isSample_56 rfl ?_
      refine r_iconst (v := nI 5) dL_isSample_57 (by decide) ?_
      refine r_icmp_ne (tgt := 65) dL_isSample_58 (by decide) (fun c39 => by exact absurd (pWhy_5 m3) c39) (fun c39 => ?_)
      refine r_iconst (v := nI 1) dL_isSample_61 (by decide) ?_
      refine r_goto (tgt := 66) dL_isSample_62 (by decide) ?_
      refine r_iload_n dL_isSample_66 rfl ?_
      refine r_iconst (v := nI 3) dL_isSample_67 (by decide) ?_
      refine r_icmp_geN (tgt := 75) dL_isSample_68 (by decide) (by omega) (by omega) (fun c40 => by omega) (fun c40 => ?_)
      refine r_iconst (v := nI 1) dL_isSample_71 (by decide) ?_
      refine r_goto (tgt := 76) dL_isSample_72 (by decide) ?_
      refine r_icmp_neN (tgt := 146) dL_isSample_76 (by decide) (by omega) (by omega) (fun c41 => absurd c41 (by omega)) (fun c41 => ?_)
      refine r_aload_n dL_isSample_79 rfl ?_
      refine r_iload_n dL_isSample_80 rfl ?_
      refine r_iconst (v := nI 2) dL_isSample_81 (by decide) ?_
      refine r_callV (As := [.int (nI (k)), .int (nI (2))]) dL_isSample_82 (fM_isI (v' := (pOf g k 2)) (tZ_sampleOf hA hC (by omega) (by omega)) rfl) rfl hC.1 rfl rfl oX8_sampleOfZ rfl kL_23M nX8_sampleOfZ eX8_sampleOfZ (by unfold fRoom; decide) (Nat.le_of_ble_eq_true rfl) rfl (bc' := 0) (bs' := 0) rfl rfl ?_
      show fR _ _ _ 85 _ (.int (pOf g k 2) :: _) _ _ _ _
      refine r_if_lt (tgt := 146) dL_isSample_85 (by decide) (fun c42 => by exact absurd c42 ht0) (fun c42 => ?_)
      refine r_aload_n dL_isSample_88 rfl ?_
      refine r_iload_n dL_isSample_89 rfl ?_
      refine r_iconst (v := nI 2) dL_isSample_90 (by decide) ?_
      refine r_callV (As := [.int (nI (k)), .int (nI (2))]) dL_isSample_91 (fM_isI (v' := (pOf g k 2)) (tZ_sampleOf hA hC (by omega) (by omega)) rfl) rfl hC.1 rfl rfl oX8_sampleOfZ rfl kL_23M nX8_sampleOfZ eX8_sampleOfZ (by unfold fRoom; decide) (Nat.le_of_ble_eq_true rfl) rfl (bc' := 0) (bs' := 0) rfl rfl ?_
      show fR _ _ _ 94 _ (.int (pOf g k 2) :: _) _ _ _ _
      refine r_sipush (v := nI 900) dL_isSample_94 (by decide) ?_
      refine r_icmp_gt (tgt := 146) dL_isSample_97 (by decide) (fun c43 => by exact absurd c43 ht9) (fun c43 => ?_)
      by_cases s4 : pOf g k 4 = -1
      · skip
        refine r_aload_n dL_isSample_100 rfl ?_
        refine r_iload_n dL_isSample_101 rfl ?_
        refine r_bipush (v := nI 7) dL_isSample_102 (by decide) ?_
        refine r_callV (As := [.int (nI (k)), .int (nI (7))]) dL_isSample_104 (fM_isI (v' := (pOf g k 4)) (tZ_sampleOf hA hC (by omega) (by omega)) rfl) rfl hC.1 rfl rfl oX8_sampleOfZ rfl kL_23M nX8_sampleOfZ eX8_sampleOfZ (by unfold fRoom; decide) (Nat.le_of_ble_eq_true rfl) rfl (bc' := 0) (bs' := 0) rfl rfl ?_
        show fR _ _ _ 107 _ (.int (pOf g k 4) :: _) _ _ _ _
        refine r_iconst (v := (-1)) dL_isSample_107 (by decide) ?_
        refine r_icmp_eq (tgt := 124) dL_isSample_108 (by decide) (fun c44 => ?_) (fun c44 => by exact absurd s4 c44)
        by_cases b3 : pOf g k 3 = -1
        · skip
          refine r_aload_n dL_isSample_124 rfl ?_
          refine r_iload_n dL_isSample_125 rfl ?_
          refine r_iconst (v := nI 3) dL_isSample_126 (by decide) ?_
          refine r_callV (As := [.int (nI (k)), .int (nI (3))]) dL_isSample_127 (fM_isI (v' := (pOf g k 3)) (tZ_sampleOf hA hC (by omega) (by omega)) rfl) rfl hC.1 rfl rfl oX8_sampleOfZ rfl kL_23M nX8_sampleOfZ eX8_sampleOfZ (by unfold fRoom; decide) (Nat.le_of_ble_eq_true rfl) rfl (bc' := 0) (bs' := 0) rfl rfl ?_
          show fR _ _ _ 130 _ (.int (pOf g k 3) :: _) _ _ _ _
          refine r_if_ge (tgt := 142) dL_isSample_130 (by decide) (fun c45 => by exact absurd c45 (by rw [b3]; decide)) (fun c45 => ?_)
          refine r_aload_n dL_isSample_133 rfl ?_
          refine r_iload_n dL_isSample_134 rfl ?_
          refine r_callV (As := [.int (nI (k))]) dL_isSample_135 (fM_isI (v' := (pReadyNow g k)) (tZ_readyIn hA hC (by omega)) rfl) rfl hC.1 rfl rfl oX8_readyInZ rfl kL_91M nX8_readyInZ eX8_readyInZ (by unfold fRoom; decide) (Nat.le_of_ble_eq_true rfl) rfl (bc' := 0) (bs' := 0) rfl rfl ?_
          show fR _ _ _ 138 _ (.int (pReadyNow g k) :: _) _ _ _ _
          refine r_iconst (v := (-1)) dL_isSample_138 (by decide) ?_
          refine r_icmp_ne (tgt := 146) dL_isSample_139 (by decide) (fun c46 => by exact absurd (if_pos b3) c46) (fun c46 => ?_)
          refine r_iconst (v := nI 1) dL_isSample_142 (by decide) ?_
          refine r_goto (tgt := 147) dL_isSample_143 (by decide) ?_
          refine r_istore (lv' := [(5, .int (nI (1))), (4, .int ((pPen g k))), (3, .int ((pWhy g k))), (2, .int (nI ((pMany g k)))), (1, .int (nI (k))), (0, .ref (ad 254))]) dL_isSample_147 (by decide) rfl ?_
          refine r_lv (lv' := [(5, .int (nI (1))), (4, .int ((pPen g k))), (3, .int ((pWhy g k))), (2, .int (nI ((pMany g k)))), (1, .int (nI (k))), (0, .ref (ad 254))]) (by simp) ?_
          exact kk
        · skip
          have hb3 : ¬ pOf g k 3 < 0 := by obtain ⟨b, hb, eb⟩ := (hI.sa k hk).2.2.2.1.resolve_left b3; rw [eb]; exact nI_pos (by omega)
          refine r_aload_n dL_isSample_124 rfl ?_
          refine r_iload_n dL_isSample_125 rfl ?_
          refine r_iconst (v := nI 3) dL_isSample_126 (by decide) ?_
          refine r_callV (As := [.int (nI (k)), .int (nI (3))]) dL_isSample_127 (fM_isI (v' := (pOf g k 3)) (tZ_sampleOf hA hC (by omega) (by omega)) rfl) rfl hC.1 rfl rfl oX8_sampleOfZ rfl kL_23M nX8_sampleOfZ eX8_sampleOfZ (by unfold fRoom; decide) (Nat.le_of_ble_eq_true rfl) rfl (bc' := 0) (bs' := 0) rfl rfl ?_
          show fR _ _ _ 130 _ (.int (pOf g k 3) :: _) _ _ _ _
          refine r_if_ge (tgt := 142) dL_isSample_130 (by decide) (fun c47 => ?_) (fun c47 => by exact absurd (Int32.not_lt.mp hb3) c47)
          refine r_iconst (v := nI 1) dL_isSample_142 (by decide) ?_
          refine r_goto (tgt := 147) dL_isSample_143 (by decide) ?_
          refine r_istore (lv' := [(5, .int (nI (1))), (4, .int ((pPen g k))), (3, .int ((pWhy g k))), (2, .int (nI ((pMany g k)))), (1, .int (nI (k))), (0, .ref (ad 254))]) dL_isSample_147 (by decide) rfl ?_
          refine r_lv (lv' := [(5, .int (nI (1))), (4, .int ((pPen g k))), (3, .int ((pWhy g k))), (2, .int (nI ((pMany g k)))), (1, .int (nI (k))), (0, .ref (ad 254))]) (by simp) ?_
          exact kk
      · skip
        have hs4 : ¬ pOf g k 4 < nI 250 := by obtain ⟨s, s1, s2, es⟩ := (hI.sa k hk).2.2.2.2.1.resolve_left s4; rw [es]; exact nI_nlt s2 (by omega)
        refine r_aload_n dL_isSample_100 rfl ?_
        refine r_iload_n dL_isSample_101 rfl ?_
        refine r_bipush (v := nI 7) dL_isSample_102 (by decide) ?_
        refine r_callV (As := [.int (nI (k)), .int (nI (7))]) dL_isSample_104 (fM_isI (v' := (pOf g k 4)) (tZ_sampleOf hA hC (by omega) (by omega)) rfl) rfl hC.1 rfl rfl oX8_sampleOfZ rfl kL_23M nX8_sampleOfZ eX8_sampleOfZ (by unfold fRoom; decide) (Nat.le_of_ble_eq_true rfl) rfl (bc' := 0) (bs' := 0) rfl rfl ?_
        show fR _ _ _ 107 _ (.int (pOf g k 4) :: _) _ _ _ _
        refine r_iconst (v := (-1)) dL_isSample_107 (by decide) ?_
        refine r_icmp_eq (tgt := 124) dL_isSample_108 (by decide) (fun c48 => by exact absurd c48 s4) (fun c48 => ?_)
        refine r_aload_n dL_isSample_111 rfl ?_
        refine r_iload_n dL_isSample_112 rfl ?_
        refine r_bipush (v := nI 7) dL_isSample_113 (by decide) ?_
        refine r_callV (As := [.int (nI (k)), .int (nI (7))]) dL_isSample_115 (fM_isI (v' := (pOf g k 4)) (tZ_sampleOf hA hC (by omega) (by omega)) rfl) rfl hC.1 rfl rfl oX8_sampleOfZ rfl kL_23M nX8_sampleOfZ eX8_sampleOfZ (by unfold fRoom; decide) (Nat.le_of_ble_eq_true rfl) rfl (bc' := 0) (bs' := 0) rfl rfl ?_
        show fR _ _ _ 118 _ (.int (pOf g k 4) :: _) _ _ _ _
        refine r_sipush (v := nI 250) dL_isSample_118 (by decide) ?_
        refine r_icmp_lt (tgt := 146) dL_isSample_121 (by decide) (fun c49 => by exact absurd c49 hs4) (fun c49 => ?_)
        by_cases b3 : pOf g k 3 = -1
        · skip
          refine r_aload_n dL_isSample_124 rfl ?_
          refine r_iload_n dL_isSample_125 rfl ?_
          refine r_iconst (v := nI 3) dL_isSample_126 (by decide) ?_
          refine r_callV (As := [.int (nI (k)), .int (nI (3))]) dL_isSample_127 (fM_isI (v' := (pOf g k 3)) (tZ_sampleOf hA hC (by omega) (by omega)) rfl) rfl hC.1 rfl rfl oX8_sampleOfZ rfl kL_23M nX8_sampleOfZ eX8_sampleOfZ (by unfold fRoom; decide) (Nat.le_of_ble_eq_true rfl) rfl (bc' := 0) (bs' := 0) rfl rfl ?_
          show fR _ _ _ 130 _ (.int (pOf g k 3) :: _) _ _ _ _
          refine r_if_ge (tgt := 142) dL_isSample_130 (by decide) (fun c50 => by exact absurd c50 (by rw [b3]; decide)) (fun c50 => ?_)
          refine r_aload_n dL_isSample_133 rfl ?_
          refine r_iload_n dL_isSample_134 rfl ?_
          refine r_callV (As := [.int (nI (k))]) dL_isSample_135 (fM_isI (v' := (pReadyNow g k)) (tZ_readyIn hA hC (by omega)) rfl) rfl hC.1 rfl rfl oX8_readyInZ rfl kL_91M nX8_readyInZ eX8_readyInZ (by unfold fRoom; decide) (Nat.le_of_ble_eq_true rfl) rfl (bc' := 0) (bs' := 0) rfl rfl ?_
          show fR _ _ _ 138 _ (.int (pReadyNow g k) :: _) _ _ _ _
          refine r_iconst (v := (-1)) dL_isSample_138 (by decide) ?_
          refine r_icmp_ne (tgt := 146) dL_isSample_139 (by decide) (fun c51 => by exact absurd (if_pos b3) c51) (fun c51 => ?_)
          refine r_iconst (v := nI 1) dL_isSample_142 (by decide) ?_
          refine r_goto (tgt := 147) dL_isSample_143 (by decide) ?_
          refine r_istore (lv' := [(5, .int (nI (1))), (4, .int ((pPen g k))), (3, .int ((pWhy g k))), (2, .int (nI ((pMany g k)))), (1, .int (nI (k))), (0, .ref (ad 254))]) dL_isSample_147 (by decide) rfl ?_
          refine r_lv (lv' := [(5, .int (nI (1))), (4, .int ((pPen g k))), (3, .int ((pWhy g k))), (2, .int (nI ((pMany g k)))), (1, .int (nI (k))), (0, .ref (ad 254))]) (by simp) ?_
          exact kk
        · skip
          have hb3 : ¬ pOf g k 3 < 0 := by obtain ⟨b, hb, eb⟩ := (hI.sa k hk).2.2.2.1.resolve_left b3; rw [eb]; exact nI_pos (by omega)
          refine r_aload_n dL_isSample_124 rfl ?_
          refine r_iload_n dL_isSample_125 rfl ?_
          refine r_iconst (v := nI 3) dL_isSample_126 (by decide) ?_
          refine r_callV (As := [.int (nI (k)), .int (nI (3))]) dL_isSample_127 (fM_isI (v' := (pOf g k 3)) (tZ_sampleOf hA hC (by omega) (by omega)) rfl) rfl hC.1 rfl rfl oX8_sampleOfZ rfl kL_23M nX8_sampleOfZ eX8_sampleOfZ (by unfold fRoom; decide) (Nat.le_of_ble_eq_true rfl) rfl (bc' := 0) (bs' := 0) rfl rfl ?_
          show fR _ _ _ 130 _ (.int (pOf g k 3) :: _) _ _ _ _
          refine r_if_ge (tgt := 142) dL_isSample_130 (by decide) (fun c52 => ?_) (fun c52 => by exact absurd (Int32.not_lt.mp hb3) c52)
          refine r_iconst (v := nI 1) dL_isSample_142 (by decide) ?_
          refine r_goto (tgt := 147) dL_isSample_143 (by decide) ?_
          refine r_istore (lv' := [(5, .int (nI (1))), (4, .int ((pPen g k))), (3, .int ((pWhy g k))), (2, .int (nI ((pMany g k)))), (1, .int (nI (k))), (0, .ref (ad 254))]) dL_isSample_147 (by decide) rfl ?_
          refine r_lv (lv' := [(5, .int (nI (1))), (4, .int ((pPen g k))), (3, .int ((pWhy g k))), (2, .int (nI ((pMany g k)))), (1, .int (nI (k))), (0, .ref (ad 254))]) (by simp) ?_
          exact kk
    · skip
      refine r_iload_n dL_isSample_56 rfl ?_
      refine r_iconst (v := nI 5) dL_isSample_57 (by decide) ?_
      refine r_icmp_ne (tgt := 65) dL_isSample_58 (by decide) (fun c53 => ?_) (fun c53 => by exact absurd c53 (pWhy_n5 (by omega)))
      refine r_iconst (v := nI 0) dL_isSample_65 (by decide) ?_
      refine r_iload_n dL_isSample_66 rfl ?_
      refine r_iconst (v := nI 3) dL_isSample_67 (by decide) ?_
      refine r_icmp_geN (tgt := 75) dL_isSample_68 (by decide) (by omega) (by omega) (fun c54 => ?_) (fun c54 => by omega)
      refine r_iconst (v := nI 0) dL_isSample_75 (by decide) ?_
      refine r_icmp_neN (tgt := 146) dL_isSample_76 (by decide) (by omega) (by omega) (fun c55 => absurd c55 (by omega)) (fun c55 => ?_)
      refine r_aload_n dL_isSample_79 rfl ?_
      refine r_iload_n dL_isSample_80 rfl ?_
      refine r_iconst (v := nI 2) dL_isSample_81 (by decide) ?_
      refine r_callV (As := [.int (nI (k)), .int (nI (2))]) dL_isSample_82 (fM_isI (v' := (pOf g k 2)) (tZ_sampleOf hA hC (by omega) (by omega)) rfl) rfl hC.1 rfl rfl oX8_sampleOfZ rfl kL_23M nX8_sampleOfZ eX8_sampleOfZ (by unfold fRoom; decide) (Nat.le_of_ble_eq_true rfl) rfl (bc' := 0) (bs' := 0) rfl rfl ?_
      show fR _ _ _ 85 _ (.int (pOf g k 2) :: _) _ _ _ _
      refine r_if_lt (tgt := 146) dL_isSample_85 (by decide) (fun c56 => by exact absurd c56 ht0) (fun c56 => ?_)
      refine r_aload_n dL_isSample_88 rfl ?_
      refine r_iload_n dL_isSample_89 rfl ?_
      refine r_iconst (v := nI 2) dL_isSample_90 (by decide) ?_
      refine r_callV (As := [.int (nI (k)), .int (nI (2))]) dL_isSample_91 (fM_isI (v' := (pOf g k 2)) (tZ_sampleOf hA hC (by omega) (by omega)) rfl) rfl hC.1 rfl rfl oX8_sampleOfZ rfl kL_23M nX8_sampleOfZ eX8_sampleOfZ (by unfold fRoom; decide) (Nat.le_of_ble_eq_true rfl) rfl (bc' := 0) (bs' := 0) rfl rfl ?_
      show fR _ _ _ 94 _ (.int (pOf g k 2) :: _) _ _ _ _
      refine r_sipush (v := nI 900) dL_isSample_94 (by decide) ?_
      refine r_icmp_gt (tgt := 146) dL_isSample_97 (by decide) (fun c57 => by exact absurd c57 ht9) (fun c57 => ?_)
      by_cases s4 : pOf g k 4 = -1
      · skip
        refine r_aload_n dL_isSample_100 rfl ?_
        refine r_iload_n dL_isSample_101 rfl ?_
        refine r_bipush (v := nI 7) dL_isSample_102 (by decide) ?_
        refine r_callV (As := [.int (nI (k)), .int (nI (7))]) dL_isSample_104 (fM_isI (v' := (pOf g k 4)) (tZ_sampleOf hA hC (by omega) (by omega)) rfl) rfl hC.1 rfl rfl oX8_sampleOfZ rfl kL_23M nX8_sampleOfZ eX8_sampleOfZ (by unfold fRoom; decide) (Nat.le_of_ble_eq_true rfl) rfl (bc' := 0) (bs' := 0) rfl rfl ?_
        show fR _ _ _ 107 _ (.int (pOf g k 4) :: _) _ _ _ _
        refine r_iconst (v := (-1)) dL_isSample_107 (by decide) ?_
        refine r_icmp_eq (tgt := 124) dL_isSample_108 (by decide) (fun c58 => ?_) (fun c58 => by exact absurd s4 c58)
        by_cases b3 : pOf g k 3 = -1
        · skip
          refine r_aload_n dL_isSample_124 rfl ?_
          refine r_iload_n dL_isSample_125 rfl ?_
          refine r_iconst (v := nI 3) dL_isSample_126 (by decide) ?_
          refine r_callV (As := [.int (nI (k)), .int (nI (3))]) dL_isSample_127 (fM_isI (v' := (pOf g k 3)) (tZ_sampleOf hA hC (by omega) (by omega)) rfl) rfl hC.1 rfl rfl oX8_sampleOfZ rfl kL_23M nX8_sampleOfZ eX8_sampleOfZ (by unfold fRoom; decide) (Nat.le_of_ble_eq_true rfl) rfl (bc' := 0) (bs' := 0) rfl rfl ?_
          show fR _ _ _ 130 _ (.int (pOf g k 3) :: _) _ _ _ _
          refine r_if_ge (tgt := 142) dL_isSample_130 (by decide) (fun c59 => by exact absurd c59 (by rw [b3]; decide)) (fun c59 => ?_)
          refine r_aload_n dL_isSample_133 rfl ?_
          refine r_iload_n dL_isSample_134 rfl ?_
          refine r_callV (As := [.int (nI (k))]) dL_isSample_135 (fM_isI (v' := (pReadyNow g k)) (tZ_readyIn hA hC (by omega)) rfl) rfl hC.1 rfl rfl oX8_readyInZ rfl kL_91M nX8_readyInZ eX8_readyInZ (by unfold fRoom; decide) (Nat.le_of_ble_eq_true rfl) rfl (bc' := 0) (bs' := 0) rfl rfl ?_
          show fR _ _ _ 138 _ (.int (pReadyNow g k) :: _) _ _ _ _
          refine r_iconst (v := (-1)) dL_isSample_138 (by decide) ?_
          refine r_icmp_ne (tgt := 146) dL_isSample_139 (by decide) (fun c60 => by exact absurd (if_pos b3) c60) (fun c60 => ?_)
          refine r_iconst (v := nI 1) dL_isSample_142 (by decide) ?_
          refine r_goto (tgt := 147) dL_isSample_143 (by decide) ?_
          refine r_istore (lv' := [(5, .int (nI (1))), (4, .int ((pPen g k))), (3, .int ((pWhy g k))), (2, .int (nI ((pMany g k)))), (1, .int (nI (k))), (0, .ref (ad 254))]) dL_isSample_147 (by decide) rfl ?_
          refine r_lv (lv' := [(5, .int (nI (1))), (4, .int ((pPen g k))), (3, .int ((pWhy g k))), (2, .int (nI ((pMany g k)))), (1, .int (nI (k))), (0, .ref (ad 254))]) (by simp) ?_
          exact kk
        · skip
          have hb3 : ¬ pOf g k 3 < 0 := by obtain ⟨b, hb, eb⟩ := (hI.sa k hk).2.2.2.1.resolve_left b3; rw [eb]; exact nI_pos (by omega)
          refine r_aload_n dL_isSample_124 rfl ?_
          refine r_iload_n dL_isSample_125 rfl ?_
          refine r_iconst (v := nI 3) dL_isSample_126 (by decide) ?_
          refine r_callV (As := [.int (nI (k)), .int (nI (3))]) dL_isSample_127 (fM_isI (v' := (pOf g k 3)) (tZ_sampleOf hA hC (by omega) (by omega)) rfl) rfl hC.1 rfl rfl oX8_sampleOfZ rfl kL_23M nX8_sampleOfZ eX8_sampleOfZ (by unfold fRoom; decide) (Nat.le_of_ble_eq_true rfl) rfl (bc' := 0) (bs' := 0) rfl rfl ?_
          show fR _ _ _ 130 _ (.int (pOf g k 3) :: _) _ _ _ _
          refine r_if_ge (tgt := 142) dL_isSample_130 (by decide) (fun c61 => ?_) (fun c61 => by exact absurd (Int32.not_lt.mp hb3) c61)
          refine r_iconst (v := nI 1) dL_isSample_142 (by decide) ?_
          refine r_goto (tgt := 147) dL_isSample_143 (by decide) ?_
          refine r_istore (lv' := [(5, .int (nI (1))), (4, .int ((pPen g k))), (3, .int ((pWhy g k))), (2, .int (nI ((pMany g k)))), (1, .int (nI (k))), (0, .ref (ad 254))]) dL_isSample_147 (by decide) rfl ?_
          refine r_lv (lv' := [(5, .int (nI (1))), (4, .int ((pPen g k))), (3, .int ((pWhy g k))), (2, .int (nI ((pMany g k)))), (1, .int (nI (k))), (0, .ref (ad 254))]) (by simp) ?_
          exact kk
      · skip
        have hs4 : ¬ pOf g k 4 < nI 250 := by obtain ⟨s, s1, s2, es⟩ := (hI.sa k hk).2.2.2.2.1.resolve_left s4; rw [es]; exact nI_nlt s2 (by omega)
        refine r_aload_n dL_isSample_100 rfl ?_
        refine r_iload_n dL_isSample_101 rfl ?_
        refine r_bipush (v := nI 7) dL_isSample_102 (by decide) ?_
        refine r_callV (As := [.int (nI (k)), .int (nI (7))]) dL_isSample_104 (fM_isI (v' := (pOf g k 4)) (tZ_sampleOf hA hC (by omega) (by omega)) rfl) rfl hC.1 rfl rfl oX8_sampleOfZ rfl kL_23M nX8_sampleOfZ eX8_sampleOfZ (by unfold fRoom; decide) (Nat.le_of_ble_eq_true rfl) rfl (bc' := 0) (bs' := 0) rfl rfl ?_
        show fR _ _ _ 107 _ (.int (pOf g k 4) :: _) _ _ _ _
        refine r_iconst (v := (-1)) dL_isSample_107 (by decide) ?_
        refine r_icmp_eq (tgt := 124) dL_isSample_108 (by decide) (fun c62 => by exact absurd c62 s4) (fun c62 => ?_)
        refine r_aload_n dL_isSample_111 rfl ?_
        refine r_iload_n dL_isSample_112 rfl ?_
        refine r_bipush (v := nI 7) dL_isSample_113 (by decide) ?_
        refine r_callV (As := [.int (nI (k)), .int (nI (7))]) dL_isSample_115 (fM_isI (v' := (pOf g k 4)) (tZ_sampleOf hA hC (by omega) (by omega)) rfl) rfl hC.1 rfl rfl oX8_sampleOfZ rfl kL_23M nX8_sampleOfZ eX8_sampleOfZ (by unfold fRoom; decide) (Nat.le_of_ble_eq_true rfl) rfl (bc' := 0) (bs' := 0) rfl rfl ?_
        show fR _ _ _ 118 _ (.int (pOf g k 4) :: _) _ _ _ _
        refine r_sipush (v := nI 250) dL_isSample_118 (by decide) ?_
        refine r_icmp_lt (tgt := 146) dL_isSample_121 (by decide) (fun c63 => by exact absurd c63 hs4) (fun c63 => ?_)
        by_cases b3 : pOf g k 3 = -1
        · skip
          refine r_aload_n dL_isSample_124 rfl ?_
          refine r_iload_n dL_isSample_125 rfl ?_
          refine r_iconst (v := nI 3) dL_isSample_126 (by decide) ?_
          refine r_callV (As := [.int (nI (k)), .int (nI (3))]) dL_isSample_127 (fM_isI (v' := (pOf g k 3)) (tZ_sampleOf hA hC (by omega) (by omega)) rfl) rfl hC.1 rfl rfl oX8_sampleOfZ rfl kL_23M nX8_sampleOfZ eX8_sampleOfZ (by unfold fRoom; decide) (Nat.le_of_ble_eq_true rfl) rfl (bc' := 0) (bs' := 0) rfl rfl ?_
          show fR _ _ _ 130 _ (.int (pOf g k 3) :: _) _ _ _ _
          refine r_if_ge (tgt := 142) dL_isSample_130 (by decide) (fun c64 => by exact absurd c64 (by rw [b3]; decide)) (fun c64 => ?_)
          refine r_aload_n dL_isSample_133 rfl ?_
          refine r_iload_n dL_isSample_134 rfl ?_
          refine r_callV (As := [.int (nI (k))]) dL_isSample_135 (fM_isI (v' := (pReadyNow g k)) (tZ_readyIn hA hC (by omega)) rfl) rfl hC.1 rfl rfl oX8_readyInZ rfl kL_91M nX8_readyInZ eX8_readyInZ (by unfold fRoom; decide) (Nat.le_of_ble_eq_true rfl) rfl (bc' := 0) (bs' := 0) rfl rfl ?_
          show fR _ _ _ 138 _ (.int (pReadyNow g k) :: _) _ _ _ _
          refine r_iconst (v := (-1)) dL_isSample_138 (by decide) ?_
          refine r_icmp_ne (tgt := 146) dL_isSample_139 (by decide) (fun c65 => by exact absurd (if_pos b3) c65) (fun c65 => ?_)
          refine r_iconst (v := nI 1) dL_isSample_142 (by decide) ?_
          refine r_goto (tgt := 147) dL_isSample_143 (by decide) ?_
          refine r_istore (lv' := [(5, .int (nI (1))), (4, .int ((pPen g k))), (3, .int ((pWhy g k))), (2, .int (nI ((pMany g k)))), (1, .int (nI (k))), (0, .ref (ad 254))]) dL_isSample_147 (by decide) rfl ?_
          refine r_lv (lv' := [(5, .int (nI (1))), (4, .int ((pPen g k))), (3, .int ((pWhy g k))), (2, .int (nI ((pMany g k)))), (1, .int (nI (k))), (0, .ref (ad 254))]) (by simp) ?_
          exact kk
        · skip
          have hb3 : ¬ pOf g k 3 < 0 := by obtain ⟨b, hb, eb⟩ := (hI.sa k hk).2.2.2.1.resolve_left b3; rw [eb]; exact nI_pos (by omega)
          refine r_aload_n dL_isSample_124 rfl ?_
          refine r_iload_n dL_isSample_125 rfl ?_
          refine r_iconst (v := nI 3) dL_isSample_126 (by decide) ?_
          refine r_callV (As := [.int (nI (k)), .int (nI (3))]) dL_isSample_127 (fM_isI (v' := (pOf g k 3)) (tZ_sampleOf hA hC (by omega) (by omega)) rfl) rfl hC.1 rfl rfl oX8_sampleOfZ rfl kL_23M nX8_sampleOfZ eX8_sampleOfZ (by unfold fRoom; decide) (Nat.le_of_ble_eq_true rfl) rfl (bc' := 0) (bs' := 0) rfl rfl ?_
          show fR _ _ _ 130 _ (.int (pOf g k 3) :: _) _ _ _ _
          refine r_if_ge (tgt := 142) dL_isSample_130 (by decide) (fun c66 => ?_) (fun c66 => by exact absurd (Int32.not_lt.mp hb3) c66)
          refine r_iconst (v := nI 1) dL_isSample_142 (by decide) ?_
          refine r_goto (tgt := 147) dL_isSample_143 (by decide) ?_
          refine r_istore (lv' := [(5, .int (nI (1))), (4, .int ((pPen g k))), (3, .int ((pWhy g k))), (2, .int (nI ((pMany g k)))), (1, .int (nI (k))), (0, .ref (ad 254))]) dL_isSample_147 (by decide) rfl ?_
          refine r_lv (lv' := [(5, .int (nI (1))), (4, .int ((pPen g k))), (3, .int ((pWhy g k))), (2, .int (nI ((pMany g k)))), (1, .int (nI (k))), (0, .ref (ad 254))]) (by simp) ?_
          exact kk
theorem tL_isSample {l : Launch} {κ : KP} {M : Mem} {ad : Nat → Nat} {g tx : Nat → Int32} {dn n sn ln : Nat} {kp : Bool} (hA : aInj ad) (hC : ClsAt κ ad M ⟨g, sn, kp, tx, ln⟩ dn n) {k : Nat} (hk : k < n) (hX3 : ∀ b, b < 3 → pInBath g n (nI b) ≤ 3) : fM l κ mL_isSample [.ref (ad 254), .int (nI (k))] M (isI (nI 1) M) := by
  refine fM_of rfl (by decide +kernel) (Nat.le_of_ble_eq_true rfl) ?_
  have hI : BI g dn n := hC.2.2.1
  have hdn := hI.dle
  have hn := hI.nle
  have hsn : sn ≤ 6 := hC.2.1.s6
  show fR l κ mL_isSample 0 [(0, .ref (ad 254)), (1, .int (nI (k)))] [] M 0 0 _
  refine r_aload_n dL_isSample_0 rfl ?_
  refine r_iload_n dL_isSample_1 rfl ?_
  refine r_iconst (v := nI 4) dL_isSample_2 (by decide) ?_
  refine r_callV (As := [.int (nI (k)), .int (nI (4))]) dL_isSample_3 (fM_isI (v' := (nI (pMany g k))) (tZ_sampleOf hA hC (by omega) (by omega)) (hC.2.2.1.mM _ (by omega)).1) rfl hC.1 rfl rfl oX8_sampleOfZ rfl kL_23M nX8_sampleOfZ eX8_sampleOfZ (by unfold fRoom; decide) (Nat.le_of_ble_eq_true rfl) rfl (bc' := 0) (bs' := 0) rfl rfl ?_
  show fR _ _ _ 6 _ (.int (nI (pMany g k)) :: _) _ _ _ _
  refine r_istore_n (lv' := [(2, .int (nI (pMany g k))), (0, .ref (ad 254)), (1, .int (nI (k)))]) dL_isSample_6 (by decide) rfl ?_
  refine r_aload_n dL_isSample_7 rfl ?_
  refine r_iload_n dL_isSample_8 rfl ?_
  refine r_bipush (v := nI 6) dL_isSample_9 (by decide) ?_
  refine r_callV (As := [.int (nI (k)), .int (nI (6))]) dL_isSample_11 (fM_isI (v' := (pWhy g k)) (tZ_sampleOf hA hC (by omega) (by omega)) rfl) rfl hC.1 rfl rfl oX8_sampleOfZ rfl kL_23M nX8_sampleOfZ eX8_sampleOfZ (by unfold fRoom; decide) (Nat.le_of_ble_eq_true rfl) rfl (bc' := 0) (bs' := 0) rfl rfl ?_
  show fR _ _ _ 14 _ (.int (pWhy g k) :: _) _ _ _ _
  refine r_istore_n (lv' := [(3, .int (pWhy g k)), (2, .int (nI (pMany g k))), (0, .ref (ad 254)), (1, .int (nI (k)))]) dL_isSample_14 (by decide) rfl ?_
  refine r_aload_n dL_isSample_15 rfl ?_
  refine r_iload_n dL_isSample_16 rfl ?_
  refine r_iconst (v := nI 5) dL_isSample_17 (by decide) ?_
  refine r_callV (As := [.int (nI (k)), .int (nI (5))]) dL_isSample_18 (fM_isI (v' := (pPen g k)) (tZ_sampleOf hA hC (by omega) (by omega)) rfl) rfl hC.1 rfl rfl oX8_sampleOfZ rfl kL_23M nX8_sampleOfZ eX8_sampleOfZ (by unfold fRoom; decide) (Nat.le_of_ble_eq_true rfl) rfl (bc' := 0) (bs' := 0) rfl rfl ?_
  show fR _ _ _ 21 _ (.int (pPen g k) :: _) _ _ _ _
  refine r_istore (lv' := [(4, .int (pPen g k)), (3, .int (pWhy g k)), (2, .int (nI (pMany g k))), (0, .ref (ad 254)), (1, .int (nI (k)))]) dL_isSample_21 (by decide) rfl ?_
  refine r_lv (lv' := [(4, .int (pPen g k)), (3, .int (pWhy g k)), (2, .int (nI (pMany g k))), (1, .int (nI (k))), (0, .ref (ad 254))]) (by simp) ?_
  refine lL_isSample_A hA hC hk ?_
  refine r_iconst (v := nI 0) dL_isSample_149 (by decide) ?_
  refine r_istore (lv' := [(6, .int (nI (0))), (5, .int (nI (1))), (4, .int ((pPen g k))), (3, .int ((pWhy g k))), (2, .int (nI ((pMany g k)))), (1, .int (nI (k))), (0, .ref (ad 254))]) dL_isSample_150 (by decide) rfl ?_
  refine lL_isSampleB hA hC hk ?_ 10 0 rfl
  refine r_lv (lv' := [(5, .int (nI (1))), (4, .int ((pPen g k))), (3, .int ((pWhy g k))), (2, .int (nI ((pMany g k)))), (1, .int (nI (k))), (0, .ref (ad 254))]) (by simp) ?_
  by_cases w0 : pWhy g k = 0
  · exact lL_isSample_Cy hA hC hk hX3 w0
  · exact lL_isSample_Cn hA hC hk hX3 w0
