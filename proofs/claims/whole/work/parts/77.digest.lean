/-! THE DIGEST: the class's -/
theorem mxs_add {f : Nat → Int32} {a : Nat} {h : Int64} : ∀ b, mxs f (a + b) h = mxs (fun w => f (a + w)) b (mxs f a h)
  | 0 => rfl
  | b + 1 => by
    show mx (mxs f (a + b) h) (f (a + b)) = mx (mxs (fun w => f (a + w)) b (mxs f a h)) (f (a + b))
    rw [mxs_add b]
theorem mxF_4 {f : Nat → Int32} {h : Int64} : ∀ n, mxF (fun r h => mxs (fun w => f (r * 4 + w)) 4 h) n h = mxs f (4 * n) h
  | 0 => rfl
  | n + 1 => by
    show mxs (fun w => f (n * 4 + w)) 4 (mxF (fun r h => mxs (fun w => f (r * 4 + w)) 4 h) n h) = _
    rw [mxF_4 n, show 4 * (n + 1) = 4 * n + 4 by omega, Nat.mul_comm n 4]
    exact (mxs_add (f := f) (a := 4 * n) 4).symm
theorem mxF_n {g : Nat → Int32} {h : Int64} : mxF (fun i h => mxs (fun w => g (31 + 3 * i + w)) 3 h) 3 h = mxs (fun j => g (31 + j)) 9 h := rfl
theorem mxF_b {g : Nat → Int32} {n : Nat} {h : Int64} : mxF (fun b h => mxs (fun w => pOfBath g n b w) 3 h) 3 h = mxs (fun j => pOfBath g n (j / 3) (j % 3)) 9 h := rfl
theorem pSoldv_nI {g : Nat → Int32} {dn n d : Nat} (hdn : dn ≤ 6) (hd : d < dn) : pSoldv g dn n (nI d) = pWhyS g n d := by
  unfold pSoldv
  rw [pNo_n (by omega) (by omega), if_pos (decide_eq_true hd), show cN (nI d) = d from nI_clamp (by omega)]
theorem tX8_mixed {l : Launch} {κ : KP} {M : Mem} {h v : Int64} : fM l κ mX8_mixed [.long (h), .long (v)] M (isR (some (.long (31 * h + v))) M) := by
  refine fM_of rfl (by decide +kernel) (Nat.le_of_ble_eq_true rfl) ?_
  show fR l κ mX8_mixed 0 [(0, .long (h)), (2, .long (v))] [] M 0 0 _
  refine r_ldc2 dX8_mixed_0 kX8_284K ?_
  refine r_lload_n dX8_mixed_3 rfl ?_
  refine r_lmul dX8_mixed_4 ?_
  refine r_lload_n dX8_mixed_5 rfl ?_
  refine r_ladd dX8_mixed_6 ?_
  exact fR_lret dX8_mixed_7 rfl isR_of
theorem lX8_dg1 {l : Launch} {κ : KP} {M : Mem} {ad : Nat → Nat} {g tx : Nat → Int32} {dn n sn ln : Nat} {kp : Bool} (hA : aInj ad) (hC : ClsAt κ ad M ⟨g, sn, kp, tx, ln⟩ dn n)  {P : FPost} {h0 : Int64} (kk : fR l κ mX8_digest 49 [(3, .int (nI (12))), (1, .long (mxs (fun w => pCounted g (nI sn) n dn w) (12) h0)), (0, .ref (ad 254))] [] M 0 0 P) : ∀ (N j : Nat), 12 < N + j → j ≤ 12 → fR l κ mX8_digest 6 [(3, .int (nI (j))), (1, .long (mxs (fun w => pCounted g (nI sn) n dn w) j h0)), (0, .ref (ad 254))] [] M 0 0 P := by
  intro N
  induction N with
  | zero => intro j h1 h2; omega
  | succ N ih =>
    intro j h1 h2
    obtain ⟨hX, hS, hI, hT, ch, hTX⟩ := id hC
    replace hS : LabsAt ad M g sn kp dn n := hS
    replace hI : BI g dn n := hI
    replace hT : TextAt κ ad M tx ln := hT
    replace hTX : TX tx ln ch := hTX
    obtain ⟨π, hL⟩ := hS.main
    have hs6 := hS.s6
    obtain ⟨fD, hfD, hvD⟩ := hL.drs
    obtain ⟨fS, hfS, hvS⟩ := hL.sps
    obtain ⟨fN, hfN, hvN⟩ := hL.nds
    obtain ⟨fG, hfG, hvG⟩ := hL.dgs
    obtain ⟨fT, hfT, hvT⟩ := hL.sts
    have hdn := hL.dl
    have hn := hL.nl
    refine r_iload_n dX8_digest_6 rfl ?_
    refine r_bipush (v := nI 12) dX8_digest_7 (by decide) ?_
    refine r_icmp_geN (tgt := 49) dX8_digest_9 (by decide) (by omega) (by omega) (fun c1 => ?_) (fun c1 => ?_)
    · skip
      have ej : j = 12 := by omega
      rw [ej]
      skip
      exact kk
    · skip
      refine r_lload_n dX8_digest_12 rfl ?_
      refine r_iload_n dX8_digest_13 rfl ?_
      refine r_bipush (v := nI 11) dX8_digest_14 (by decide) ?_
      refine r_icmp_neN (tgt := 30) dX8_digest_16 (by decide) (by omega) (by omega) (fun c2 => ?_) (fun c2 => ?_)
      · skip
        refine r_aload_n dX8_digest_30 rfl ?_
        refine r_get (k := 0) dX8_digest_31 hX rfl rfl (by decide) kX8_10F ?_
        refine r_iload_n dX8_digest_34 rfl ?_
        refine r_callV (As := [.int (nI (j))]) dX8_digest_35 (tX2_total (sv := nI sn) hL hI (by omega)) rfl hL.lab rfl rfl oX2_total rfl kX8_213M nX2_total eX2_total (by unfold fRoom; decide) (Nat.le_of_ble_eq_true rfl) rfl (bc' := 0) (bs' := 0) rfl rfl ?_
        show fR _ _ _ 38 _ (.int (pCounted g (nI sn) n dn (j)) :: _) _ _ _ _
        refine r_i2l dX8_digest_38 ?_
        refine r_callS (As := [.long (mxs (fun w => pCounted g (nI sn) n dn w) j h0), .long (((pCounted g (nI sn) n dn (j))).toInt64)]) dX8_digest_39 tX8_mixed rfl oX8_mixed rfl kX8_230M sX8_mixed (by unfold fRoom; decide) (Nat.le_of_ble_eq_true rfl) rfl (bc' := 0) (bs' := 0) rfl rfl ?_
        show fR _ _ _ 42 _ (.long ((31 * (mxs (fun w => pCounted g (nI sn) n dn w) j h0) + ((pCounted g (nI sn) n dn (j))).toInt64)) :: _) _ _ _ _
        refine r_lstore_n (lv' := [(1, .long ((31 * (mxs (fun w => pCounted g (nI sn) n dn w) j h0) + ((pCounted g (nI sn) n dn (j))).toInt64))), (3, .int (nI (j))), (0, .ref (ad 254))]) dX8_digest_42 (by decide) rfl ?_
        refine r_iinc (v := (nI (j + 1))) (lv' := [(3, .int (nI (j + 1))), (1, .long ((31 * (mxs (fun w => pCounted g (nI sn) n dn w) j h0) + ((pCounted g (nI sn) n dn (j))).toInt64))), (0, .ref (ad 254))]) dX8_digest_43 rfl (nI_inc _) (by decide) rfl ?_
        refine r_goto (tgt := 6) dX8_digest_46 (by decide) ?_
        refine r_lv (lv' := [(3, .int (nI (j + 1))), (1, .long ((31 * (mxs (fun w => pCounted g (nI sn) n dn w) j h0) + ((pCounted g (nI sn) n dn (j))).toInt64))), (0, .ref (ad 254))]) (by simp) ?_
        exact ih (j + 1) (by omega) (by omega)
      · skip
        refine r_aload_n dX8_digest_19 rfl ?_
        refine r_get (k := 1) dX8_digest_20 hX rfl rfl (by decide) kX8_19F ?_
        refine r_get (k := 2) dX8_digest_23 hS.hist rfl rfl (by decide) kX8_174F ?_
        refine r_top (y := pCounted g (nI sn) n dn (j)) (by rw [show j = 11 by omega]; rfl) ?_
        refine r_i2l dX8_digest_26 ?_
        refine r_goto (tgt := 39) dX8_digest_27 (by decide) ?_
        refine r_callS (As := [.long (mxs (fun w => pCounted g (nI sn) n dn w) j h0), .long (((pCounted g (nI sn) n dn (j))).toInt64)]) dX8_digest_39 tX8_mixed rfl oX8_mixed rfl kX8_230M sX8_mixed (by unfold fRoom; decide) (Nat.le_of_ble_eq_true rfl) rfl (bc' := 0) (bs' := 0) rfl rfl ?_
        show fR _ _ _ 42 _ (.long ((31 * (mxs (fun w => pCounted g (nI sn) n dn w) j h0) + ((pCounted g (nI sn) n dn (j))).toInt64)) :: _) _ _ _ _
        refine r_lstore_n (lv' := [(1, .long ((31 * (mxs (fun w => pCounted g (nI sn) n dn w) j h0) + ((pCounted g (nI sn) n dn (j))).toInt64))), (3, .int (nI (j))), (0, .ref (ad 254))]) dX8_digest_42 (by decide) rfl ?_
        refine r_iinc (v := (nI (j + 1))) (lv' := [(3, .int (nI (j + 1))), (1, .long ((31 * (mxs (fun w => pCounted g (nI sn) n dn w) j h0) + ((pCounted g (nI sn) n dn (j))).toInt64))), (0, .ref (ad 254))]) dX8_digest_43 rfl (nI_inc _) (by decide) rfl ?_
        refine r_goto (tgt := 6) dX8_digest_46 (by decide) ?_
        refine r_lv (lv' := [(3, .int (nI (j + 1))), (1, .long ((31 * (mxs (fun w => pCounted g (nI sn) n dn w) j h0) + ((pCounted g (nI sn) n dn (j))).toInt64))), (0, .ref (ad 254))]) (by simp) ?_
        exact ih (j + 1) (by omega) (by omega)
theorem lX8_dg1_0 {l : Launch} {κ : KP} {M : Mem} {ad : Nat → Nat} {g tx : Nat → Int32} {dn n sn ln : Nat} {kp : Bool} (hA : aInj ad) (hC : ClsAt κ ad M ⟨g, sn, kp, tx, ln⟩ dn n)  {P : FPost} {h0 : Int64} (kk : fR l κ mX8_digest 49 [(3, .int (nI (12))), (1, .long (mxs (fun w => pCounted g (nI sn) n dn w) (12) h0)), (0, .ref (ad 254))] [] M 0 0 P) : fR l κ mX8_digest 6 [(3, .int (nI (0))), (1, .long (h0)), (0, .ref (ad 254))] [] M 0 0 P := lX8_dg1 hA hC  kk (12 + 1) 0 (by omega) (by omega)
theorem lX8_dg2i {l : Launch} {κ : KP} {M : Mem} {ad : Nat → Nat} {g tx : Nat → Int32} {dn n sn ln : Nat} {kp : Bool} (hA : aInj ad) (hC : ClsAt κ ad M ⟨g, sn, kp, tx, ln⟩ dn n) {d : Nat} (hd : d < dn) {P : FPost} {h0 : Int64} (kk : fR l κ mX8_digest 94 [(4, .int (nI (9))), (3, .int (nI (d))), (1, .long (mxs (fun w => pOfDrum g n d w) (9) h0)), (0, .ref (ad 254))] [] M 0 0 P) : ∀ (N w : Nat), 9 < N + w → w ≤ 9 → fR l κ mX8_digest 65 [(4, .int (nI (w))), (3, .int (nI (d))), (1, .long (mxs (fun w => pOfDrum g n d w) w h0)), (0, .ref (ad 254))] [] M 0 0 P := by
  intro N
  induction N with
  | zero => intro w h1 h2; omega
  | succ N ih =>
    intro w h1 h2
    obtain ⟨hX, hS, hI, hT, ch, hTX⟩ := id hC
    replace hS : LabsAt ad M g sn kp dn n := hS
    replace hI : BI g dn n := hI
    replace hT : TextAt κ ad M tx ln := hT
    replace hTX : TX tx ln ch := hTX
    obtain ⟨π, hL⟩ := hS.main
    have hs6 := hS.s6
    obtain ⟨fD, hfD, hvD⟩ := hL.drs
    obtain ⟨fS, hfS, hvS⟩ := hL.sps
    obtain ⟨fN, hfN, hvN⟩ := hL.nds
    obtain ⟨fG, hfG, hvG⟩ := hL.dgs
    obtain ⟨fT, hfT, hvT⟩ := hL.sts
    have hdn := hL.dl
    have hn := hL.nl
    refine r_iload dX8_digest_65 rfl ?_
    refine r_bipush (v := nI 9) dX8_digest_67 (by decide) ?_
    refine r_icmp_geN (tgt := 94) dX8_digest_69 (by decide) (by omega) (by omega) (fun c1 => ?_) (fun c1 => ?_)
    · skip
      have ej : w = 9 := by omega
      rw [ej]
      skip
      exact kk
    · skip
      refine r_lload_n dX8_digest_72 rfl ?_
      refine r_aload_n dX8_digest_73 rfl ?_
      refine r_get (k := 0) dX8_digest_74 hX rfl rfl (by decide) kX8_10F ?_
      refine r_iload_n dX8_digest_77 rfl ?_
      refine r_iload dX8_digest_78 rfl ?_
      refine r_callS (As := [.ref (ad 0), .int (nI (d)), .int (nI (w))]) dX8_digest_80 (tX7_number hL hI hd (by omega)) rfl oX7_number rfl kX8_197M sX7_number (by unfold fRoom; decide) (Nat.le_of_ble_eq_true rfl) rfl (bc' := 0) (bs' := 0) rfl rfl ?_
      show fR _ _ _ 83 _ (.int (pOfDrum g n (d) (w)) :: _) _ _ _ _
      refine r_i2l dX8_digest_83 ?_
      refine r_callS (As := [.long (mxs (fun w => pOfDrum g n d w) w h0), .long (((pOfDrum g n (d) (w))).toInt64)]) dX8_digest_84 tX8_mixed rfl oX8_mixed rfl kX8_230M sX8_mixed (by unfold fRoom; decide) (Nat.le_of_ble_eq_true rfl) rfl (bc' := 0) (bs' := 0) rfl rfl ?_
      show fR _ _ _ 87 _ (.long ((31 * (mxs (fun w => pOfDrum g n d w) w h0) + ((pOfDrum g n (d) (w))).toInt64)) :: _) _ _ _ _
      refine r_lstore_n (lv' := [(1, .long ((31 * (mxs (fun w => pOfDrum g n d w) w h0) + ((pOfDrum g n (d) (w))).toInt64))), (4, .int (nI (w))), (3, .int (nI (d))), (0, .ref (ad 254))]) dX8_digest_87 (by decide) rfl ?_
      refine r_iinc (v := (nI (w + 1))) (lv' := [(4, .int (nI (w + 1))), (1, .long ((31 * (mxs (fun w => pOfDrum g n d w) w h0) + ((pOfDrum g n (d) (w))).toInt64))), (3, .int (nI (d))), (0, .ref (ad 254))]) dX8_digest_88 rfl (nI_inc _) (by decide) rfl ?_
      refine r_goto (tgt := 65) dX8_digest_91 (by decide) ?_
      refine r_lv (lv' := [(4, .int (nI (w + 1))), (3, .int (nI (d))), (1, .long ((31 * (mxs (fun w => pOfDrum g n d w) w h0) + ((pOfDrum g n (d) (w))).toInt64))), (0, .ref (ad 254))]) (by simp) ?_
      exact ih (w + 1) (by omega) (by omega)
theorem lX8_dg2i_0 {l : Launch} {κ : KP} {M : Mem} {ad : Nat → Nat} {g tx : Nat → Int32} {dn n sn ln : Nat} {kp : Bool} (hA : aInj ad) (hC : ClsAt κ ad M ⟨g, sn, kp, tx, ln⟩ dn n) {d : Nat} (hd : d < dn) {P : FPost} {h0 : Int64} (kk : fR l κ mX8_digest 94 [(4, .int (nI (9))), (3, .int (nI (d))), (1, .long (mxs (fun w => pOfDrum g n d w) (9) h0)), (0, .ref (ad 254))] [] M 0 0 P) : fR l κ mX8_digest 65 [(4, .int (nI (0))), (3, .int (nI (d))), (1, .long (h0)), (0, .ref (ad 254))] [] M 0 0 P := lX8_dg2i hA hC hd kk (9 + 1) 0 (by omega) (by omega)
theorem lX8_dg2 {l : Launch} {κ : KP} {M : Mem} {ad : Nat → Nat} {g tx : Nat → Int32} {dn n sn ln : Nat} {kp : Bool} (hA : aInj ad) (hC : ClsAt κ ad M ⟨g, sn, kp, tx, ln⟩ dn n)  {P : FPost} {h0 : Int64} (kk : fR l κ mX8_digest 114 [(3, .int (nI (dn))), (1, .long (mxF (fun d => mxDrum g n d) (dn) h0)), (0, .ref (ad 254))] [] M 0 0 P) : ∀ (N d : Nat), dn < N + d → d ≤ dn → fR l κ mX8_digest 51 [(3, .int (nI (d))), (1, .long (mxF (fun d => mxDrum g n d) d h0)), (0, .ref (ad 254))] [] M 0 0 P := by
  intro N
  induction N with
  | zero => intro d h1 h2; omega
  | succ N ih =>
    intro d h1 h2
    obtain ⟨hX, hS, hI, hT, ch, hTX⟩ := id hC
    replace hS : LabsAt ad M g sn kp dn n := hS
    replace hI : BI g dn n := hI
    replace hT : TextAt κ ad M tx ln := hT
    replace hTX : TX tx ln ch := hTX
    obtain ⟨π, hL⟩ := hS.main
    have hs6 := hS.s6
    obtain ⟨fD, hfD, hvD⟩ := hL.drs
    obtain ⟨fS, hfS, hvS⟩ := hL.sps
    obtain ⟨fN, hfN, hvN⟩ := hL.nds
    obtain ⟨fG, hfG, hvG⟩ := hL.dgs
    obtain ⟨fT, hfT, hvT⟩ := hL.sts
    have hdn := hL.dl
    have hn := hL.nl
    refine r_iload_n dX8_digest_51 rfl ?_
    refine r_aload_n dX8_digest_52 rfl ?_
    refine r_get (k := 0) dX8_digest_53 hX rfl rfl (by decide) kX8_10F ?_
    refine r_get (k := 5) dX8_digest_56 hL.lab rfl rfl (by decide) kX8_34F ?_
    refine r_icmp_geN (tgt := 114) dX8_digest_59 (by decide) (by omega) (by omega) (fun c1 => ?_) (fun c1 => ?_)
    · skip
      have ej : d = dn := by omega
      rw [ej]
      skip
      exact kk
    · skip
      refine r_iconst (v := nI 0) dX8_digest_62 (by decide) ?_
      refine r_istore (lv' := [(4, .int (nI (0))), (3, .int (nI (d))), (1, .long (mxF (fun d => mxDrum g n d) d h0)), (0, .ref (ad 254))]) dX8_digest_63 (by decide) rfl ?_
      refine r_lv (lv' := [(4, .int (nI (0))), (3, .int (nI (d))), (1, .long (mxF (fun d => mxDrum g n d) d h0)), (0, .ref (ad 254))]) (by simp) ?_
      refine lX8_dg2i_0 hA hC (by omega) (h0 := mxF (fun d => mxDrum g n d) d h0) ?_
      refine r_lload_n dX8_digest_94 rfl ?_
      refine r_aload_n dX8_digest_95 rfl ?_
      refine r_get (k := 0) dX8_digest_96 hX rfl rfl (by decide) kX8_10F ?_
      refine r_iload_n dX8_digest_99 rfl ?_
      refine r_callS (As := [.ref (ad 0), .int (nI (d))]) dX8_digest_100 (tX7_whyNotSold hL hI) rfl oX7_whyNotSold rfl kX8_118M sX7_whyNotSold (by unfold fRoom; decide) (Nat.le_of_ble_eq_true rfl) rfl (bc' := 0) (bs' := 0) rfl rfl ?_
      show fR _ _ _ 103 _ (.int ((pSoldv g dn n (nI d))) :: _) _ _ _ _
      refine r_top (y := (pWhyS g n d)) (pSoldv_nI (by omega) (by omega)) ?_
      refine r_i2l dX8_digest_103 ?_
      refine r_callS (As := [.long (mxs (fun w => pOfDrum g n d w) 9 (mxF (fun d => mxDrum g n d) d h0)), .long (((pWhyS g n d)).toInt64)]) dX8_digest_104 tX8_mixed rfl oX8_mixed rfl kX8_230M sX8_mixed (by unfold fRoom; decide) (Nat.le_of_ble_eq_true rfl) rfl (bc' := 0) (bs' := 0) rfl rfl ?_
      show fR _ _ _ 107 _ (.long ((31 * (mxs (fun w => pOfDrum g n d w) 9 (mxF (fun d => mxDrum g n d) d h0)) + ((pWhyS g n d)).toInt64)) :: _) _ _ _ _
      refine r_lstore_n (lv' := [(1, .long ((31 * (mxs (fun w => pOfDrum g n d w) 9 (mxF (fun d => mxDrum g n d) d h0)) + ((pWhyS g n d)).toInt64))), (4, .int (nI (9))), (3, .int (nI (d))), (0, .ref (ad 254))]) dX8_digest_107 (by decide) rfl ?_
      refine r_iinc (v := (nI (d + 1))) (lv' := [(3, .int (nI (d + 1))), (1, .long ((31 * (mxs (fun w => pOfDrum g n d w) 9 (mxF (fun d => mxDrum g n d) d h0)) + ((pWhyS g n d)).toInt64))), (4, .int (nI (9))), (0, .ref (ad 254))]) dX8_digest_108 rfl (nI_inc _) (by decide) rfl ?_
      refine r_goto (tgt := 51) dX8_digest_111 (by decide) ?_
      refine r_lv (lv' := [(3, .int (nI (d + 1))), (1, .long ((31 * (mxs (fun w => pOfDrum g n d w) 9 (mxF (fun d => mxDrum g n d) d h0)) + ((pWhyS g n d)).toInt64))), (0, .ref (ad 254))]) (by simp) ?_
      exact ih (d + 1) (by omega) (by omega)
theorem lX8_dg2_0 {l : Launch} {κ : KP} {M : Mem} {ad : Nat → Nat} {g tx : Nat → Int32} {dn n sn ln : Nat} {kp : Bool} (hA : aInj ad) (hC : ClsAt κ ad M ⟨g, sn, kp, tx, ln⟩ dn n)  {P : FPost} {h0 : Int64} (kk : fR l κ mX8_digest 114 [(3, .int (nI (dn))), (1, .long (mxF (fun d => mxDrum g n d) (dn) h0)), (0, .ref (ad 254))] [] M 0 0 P) : fR l κ mX8_digest 51 [(3, .int (nI (0))), (1, .long (h0)), (0, .ref (ad 254))] [] M 0 0 P := lX8_dg2 hA hC  kk (dn + 1) 0 (by omega) (by omega)
theorem lX8_ms1 {l : Launch} {κ : KP} {M : Mem} {ad : Nat → Nat} {g tx : Nat → Int32} {dn n sn ln : Nat} {kp : Bool} (hA : aInj ad) (hC : ClsAt κ ad M ⟨g, sn, kp, tx, ln⟩ dn n) {k : Nat} {hb : Int64} (hk : k < n) {π : Nat → Nat} (hL : LabAt M ad 0 g dn n π) {P : FPost} {h0 : Int64} (kk : fR l κ mX8_mixedWithSample 54 [(7, .int (nI (9))), (5, .long (mxs (fun w => pOfSample g k w) (9) h0)), (4, .ref (ad (0 + 12 + π (k)))), (0, .ref (ad 254)), (1, .long (hb)), (3, .int (nI (k)))] [] M 0 0 P) : ∀ (N w : Nat), 9 < N + w → w ≤ 9 → fR l κ mX8_mixedWithSample 17 [(7, .int (nI (w))), (5, .long (mxs (fun w => pOfSample g k w) w h0)), (4, .ref (ad (0 + 12 + π (k)))), (0, .ref (ad 254)), (1, .long (hb)), (3, .int (nI (k)))] [] M 0 0 P := by
  intro N
  induction N with
  | zero => intro w h1 h2; omega
  | succ N ih =>
    intro w h1 h2
    obtain ⟨hX, hS, hI, hT, ch, hTX⟩ := id hC
    replace hS : LabsAt ad M g sn kp dn n := hS
    replace hI : BI g dn n := hI
    replace hT : TextAt κ ad M tx ln := hT
    replace hTX : TX tx ln ch := hTX
    have hs6 := hS.s6
    obtain ⟨fD, hfD, hvD⟩ := hL.drs
    obtain ⟨fS, hfS, hvS⟩ := hL.sps
    obtain ⟨fN, hfN, hvN⟩ := hL.nds
    obtain ⟨fG, hfG, hvG⟩ := hL.dgs
    obtain ⟨fT, hfT, hvT⟩ := hL.sts
    have hdn := hL.dl
    have hn := hL.nl
    refine r_iload dX8_mixedWithSample_17 rfl ?_
    refine r_bipush (v := nI 9) dX8_mixedWithSample_19 (by decide) ?_
    refine r_icmp_geN (tgt := 54) dX8_mixedWithSample_21 (by decide) (by omega) (by omega) (fun c1 => ?_) (fun c1 => ?_)
    · skip
      have ej : w = 9 := by omega
      rw [ej]
      skip
      exact kk
    · skip
      refine r_lload dX8_mixedWithSample_24 rfl ?_
      refine r_aload dX8_mixedWithSample_26 rfl ?_
      refine r_iload dX8_mixedWithSample_28 rfl ?_
      refine r_aload_n dX8_mixedWithSample_30 rfl ?_
      refine r_get (k := 0) dX8_mixedWithSample_31 hX rfl rfl (by decide) kX8_10F ?_
      refine r_get (k := 4) dX8_mixedWithSample_34 hL.lab rfl rfl (by decide) kX8_130F ?_
      refine r_iconst (v := nI 1) dX8_mixedWithSample_37 (by decide) ?_
      refine r_ialdN dX8_mixedWithSample_38 hfT (by omega) (by decide) (hvT _ (by omega)) ?_
      refine r_callV (As := [.int (nI (w)), .int (g (5 + (1)))]) dX8_mixedWithSample_39 (tX6_number (hL.sp k hk) (hI.spok hk) rfl (by omega)) rfl (hL.sp _ (by omega)).1 rfl rfl oX6_number rfl kX8_201M nX6_number eX6_number (by unfold fRoom; decide) (Nat.le_of_ble_eq_true rfl) rfl (bc' := 0) (bs' := 0) rfl rfl ?_
      show fR _ _ _ 42 _ (.int (pOfSample g k (w)) :: _) _ _ _ _
      refine r_i2l dX8_mixedWithSample_42 ?_
      refine r_callS (As := [.long (mxs (fun w => pOfSample g k w) w h0), .long (((pOfSample g k (w))).toInt64)]) dX8_mixedWithSample_43 tX8_mixed rfl oX8_mixed rfl kX8_230M sX8_mixed (by unfold fRoom; decide) (Nat.le_of_ble_eq_true rfl) rfl (bc' := 0) (bs' := 0) rfl rfl ?_
      show fR _ _ _ 46 _ (.long ((31 * (mxs (fun w => pOfSample g k w) w h0) + ((pOfSample g k (w))).toInt64)) :: _) _ _ _ _
      refine r_lstore (lv' := [(5, .long ((31 * (mxs (fun w => pOfSample g k w) w h0) + ((pOfSample g k (w))).toInt64))), (7, .int (nI (w))), (4, .ref (ad (0 + 12 + π (k)))), (0, .ref (ad 254)), (1, .long (hb)), (3, .int (nI (k)))]) dX8_mixedWithSample_46 (by decide) rfl ?_
      refine r_iinc (v := (nI (w + 1))) (lv' := [(7, .int (nI (w + 1))), (5, .long ((31 * (mxs (fun w => pOfSample g k w) w h0) + ((pOfSample g k (w))).toInt64))), (4, .ref (ad (0 + 12 + π (k)))), (0, .ref (ad 254)), (1, .long (hb)), (3, .int (nI (k)))]) dX8_mixedWithSample_48 rfl (nI_inc _) (by decide) rfl ?_
      refine r_goto (tgt := 17) dX8_mixedWithSample_51 (by decide) ?_
      refine r_lv (lv' := [(7, .int (nI (w + 1))), (5, .long ((31 * (mxs (fun w => pOfSample g k w) w h0) + ((pOfSample g k (w))).toInt64))), (4, .ref (ad (0 + 12 + π (k)))), (0, .ref (ad 254)), (1, .long (hb)), (3, .int (nI (k)))]) (by simp) ?_
      exact ih (w + 1) (by omega) (by omega)
theorem lX8_ms1_0 {l : Launch} {κ : KP} {M : Mem} {ad : Nat → Nat} {g tx : Nat → Int32} {dn n sn ln : Nat} {kp : Bool} (hA : aInj ad) (hC : ClsAt κ ad M ⟨g, sn, kp, tx, ln⟩ dn n) {k : Nat} {hb : Int64} (hk : k < n) {π : Nat → Nat} (hL : LabAt M ad 0 g dn n π) {P : FPost} {h0 : Int64} (kk : fR l κ mX8_mixedWithSample 54 [(7, .int (nI (9))), (5, .long (mxs (fun w => pOfSample g k w) (9) h0)), (4, .ref (ad (0 + 12 + π (k)))), (0, .ref (ad 254)), (1, .long (hb)), (3, .int (nI (k)))] [] M 0 0 P) : fR l κ mX8_mixedWithSample 17 [(7, .int (nI (0))), (5, .long (h0)), (4, .ref (ad (0 + 12 + π (k)))), (0, .ref (ad 254)), (1, .long (hb)), (3, .int (nI (k)))] [] M 0 0 P := lX8_ms1 hA hC hk hL kk (9 + 1) 0 (by omega) (by omega)
theorem lX8_ms2i {l : Launch} {κ : KP} {M : Mem} {ad : Nat → Nat} {g tx : Nat → Int32} {dn n sn ln : Nat} {kp : Bool} (hA : aInj ad) (hC : ClsAt κ ad M ⟨g, sn, kp, tx, ln⟩ dn n) {k : Nat} {hb : Int64} (hk : k < n) {π : Nat → Nat} (hL : LabAt M ad 0 g dn n π) {r : Nat} (hr : r < pMany g k) {P : FPost} {h0 : Int64} (kk : fR l κ mX8_mixedWithSample 99 [(8, .int (nI (4))), (7, .int (nI (r))), (5, .long (mxs (fun w => pOf g k (6 + (r * 4 + w))) (4) h0)), (4, .ref (ad (0 + 12 + π (k)))), (0, .ref (ad 254)), (1, .long (hb)), (3, .int (nI (k)))] [] M 0 0 P) : ∀ (N w : Nat), 4 < N + w → w ≤ 4 → fR l κ mX8_mixedWithSample 70 [(8, .int (nI (w))), (7, .int (nI (r))), (5, .long (mxs (fun w => pOf g k (6 + (r * 4 + w))) w h0)), (4, .ref (ad (0 + 12 + π (k)))), (0, .ref (ad 254)), (1, .long (hb)), (3, .int (nI (k)))] [] M 0 0 P := by
  intro N
  induction N with
  | zero => intro w h1 h2; omega
  | succ N ih =>
    intro w h1 h2
    obtain ⟨hX, hS, hI, hT, ch, hTX⟩ := id hC
    replace hS : LabsAt ad M g sn kp dn n := hS
    replace hI : BI g dn n := hI
    replace hT : TextAt κ ad M tx ln := hT
    replace hTX : TX tx ln ch := hTX
    have hs6 := hS.s6
    obtain ⟨fD, hfD, hvD⟩ := hL.drs
    obtain ⟨fS, hfS, hvS⟩ := hL.sps
    obtain ⟨fN, hfN, hvN⟩ := hL.nds
    obtain ⟨fG, hfG, hvG⟩ := hL.dgs
    obtain ⟨fT, hfT, hvT⟩ := hL.sts
    have hdn := hL.dl
    have hn := hL.nl
    have hm9 := hI.k9 k hk
    refine r_iload dX8_mixedWithSample_70 rfl ?_
    refine r_iconst (v := nI 4) dX8_mixedWithSample_72 (by decide) ?_
    refine r_icmp_geN (tgt := 99) dX8_mixedWithSample_73 (by decide) (by omega) (by omega) (fun c1 => ?_) (fun c1 => ?_)
    · skip
      have ej : w = 4 := by omega
      rw [ej]
      skip
      exact kk
    · skip
      refine r_lload dX8_mixedWithSample_76 rfl ?_
      refine r_aload dX8_mixedWithSample_78 rfl ?_
      refine r_iload dX8_mixedWithSample_80 rfl ?_
      refine r_iload dX8_mixedWithSample_82 rfl ?_
      refine r_callV (As := [.int (nI (r)), .int (nI (w))]) dX8_mixedWithSample_84 (tX6_mark (hL.sp k hk) (hI.spok hk) hr (by omega)) rfl (hL.sp _ (by omega)).1 rfl rfl oX6_mark rfl kX8_205M nX6_mark eX6_mark (by unfold fRoom; decide) (Nat.le_of_ble_eq_true rfl) rfl (bc' := 0) (bs' := 0) rfl rfl ?_
      show fR _ _ _ 87 _ (.int (pOf g k (6 + (r * 4 + w))) :: _) _ _ _ _
      refine r_i2l dX8_mixedWithSample_87 ?_
      refine r_callS (As := [.long (mxs (fun w => pOf g k (6 + (r * 4 + w))) w h0), .long (((pOf g k (6 + (r * 4 + w)))).toInt64)]) dX8_mixedWithSample_88 tX8_mixed rfl oX8_mixed rfl kX8_230M sX8_mixed (by unfold fRoom; decide) (Nat.le_of_ble_eq_true rfl) rfl (bc' := 0) (bs' := 0) rfl rfl ?_
      show fR _ _ _ 91 _ (.long ((31 * (mxs (fun w => pOf g k (6 + (r * 4 + w))) w h0) + ((pOf g k (6 + (r * 4 + w)))).toInt64)) :: _) _ _ _ _
      refine r_lstore (lv' := [(5, .long ((31 * (mxs (fun w => pOf g k (6 + (r * 4 + w))) w h0) + ((pOf g k (6 + (r * 4 + w)))).toInt64))), (8, .int (nI (w))), (7, .int (nI (r))), (4, .ref (ad (0 + 12 + π (k)))), (0, .ref (ad 254)), (1, .long (hb)), (3, .int (nI (k)))]) dX8_mixedWithSample_91 (by decide) rfl ?_
      refine r_iinc (v := (nI (w + 1))) (lv' := [(8, .int (nI (w + 1))), (5, .long ((31 * (mxs (fun w => pOf g k (6 + (r * 4 + w))) w h0) + ((pOf g k (6 + (r * 4 + w)))).toInt64))), (7, .int (nI (r))), (4, .ref (ad (0 + 12 + π (k)))), (0, .ref (ad 254)), (1, .long (hb)), (3, .int (nI (k)))]) dX8_mixedWithSample_93 rfl (nI_inc _) (by decide) rfl ?_
      refine r_goto (tgt := 70) dX8_mixedWithSample_96 (by decide) ?_
      refine r_lv (lv' := [(8, .int (nI (w + 1))), (7, .int (nI (r))), (5, .long ((31 * (mxs (fun w => pOf g k (6 + (r * 4 + w))) w h0) + ((pOf g k (6 + (r * 4 + w)))).toInt64))), (4, .ref (ad (0 + 12 + π (k)))), (0, .ref (ad 254)), (1, .long (hb)), (3, .int (nI (k)))]) (by simp) ?_
      exact ih (w + 1) (by omega) (by omega)
theorem lX8_ms2i_0 {l : Launch} {κ : KP} {M : Mem} {ad : Nat → Nat} {g tx : Nat → Int32} {dn n sn ln : Nat} {kp : Bool} (hA : aInj ad) (hC : ClsAt κ ad M ⟨g, sn, kp, tx, ln⟩ dn n) {k : Nat} {hb : Int64} (hk : k < n) {π : Nat → Nat} (hL : LabAt M ad 0 g dn n π) {r : Nat} (hr : r < pMany g k) {P : FPost} {h0 : Int64} (kk : fR l κ mX8_mixedWithSample 99 [(8, .int (nI (4))), (7, .int (nI (r))), (5, .long (mxs (fun w => pOf g k (6 + (r * 4 + w))) (4) h0)), (4, .ref (ad (0 + 12 + π (k)))), (0, .ref (ad 254)), (1, .long (hb)), (3, .int (nI (k)))] [] M 0 0 P) : fR l κ mX8_mixedWithSample 70 [(8, .int (nI (0))), (7, .int (nI (r))), (5, .long (h0)), (4, .ref (ad (0 + 12 + π (k)))), (0, .ref (ad 254)), (1, .long (hb)), (3, .int (nI (k)))] [] M 0 0 P := lX8_ms2i hA hC hk hL hr kk (4 + 1) 0 (by omega) (by omega)
theorem lX8_ms2 {l : Launch} {κ : KP} {M : Mem} {ad : Nat → Nat} {g tx : Nat → Int32} {dn n sn ln : Nat} {kp : Bool} (hA : aInj ad) (hC : ClsAt κ ad M ⟨g, sn, kp, tx, ln⟩ dn n) {k : Nat} {hb : Int64} (hk : k < n) {π : Nat → Nat} (hL : LabAt M ad 0 g dn n π) {P : FPost} {h0 : Int64} (kk : fR l κ mX8_mixedWithSample 105 [(7, .int (nI (pMany g k))), (5, .long (mxF (fun r h => mxs (fun w => pOf g k (6 + (r * 4 + w))) 4 h) (pMany g k) h0)), (4, .ref (ad (0 + 12 + π (k)))), (0, .ref (ad 254)), (1, .long (hb)), (3, .int (nI (k)))] [] M 0 0 P) : ∀ (N r : Nat), pMany g k < N + r → r ≤ pMany g k → fR l κ mX8_mixedWithSample 57 [(7, .int (nI (r))), (5, .long (mxF (fun r h => mxs (fun w => pOf g k (6 + (r * 4 + w))) 4 h) r h0)), (4, .ref (ad (0 + 12 + π (k)))), (0, .ref (ad 254)), (1, .long (hb)), (3, .int (nI (k)))] [] M 0 0 P := by
  intro N
  induction N with
  | zero => intro r h1 h2; omega
  | succ N ih =>
    intro r h1 h2
    obtain ⟨hX, hS, hI, hT, ch, hTX⟩ := id hC
    replace hS : LabsAt ad M g sn kp dn n := hS
    replace hI : BI g dn n := hI
    replace hT : TextAt κ ad M tx ln := hT
    replace hTX : TX tx ln ch := hTX
    have hs6 := hS.s6
    obtain ⟨fD, hfD, hvD⟩ := hL.drs
    obtain ⟨fS, hfS, hvS⟩ := hL.sps
    obtain ⟨fN, hfN, hvN⟩ := hL.nds
    obtain ⟨fG, hfG, hvG⟩ := hL.dgs
    obtain ⟨fT, hfT, hvT⟩ := hL.sts
    have hdn := hL.dl
    have hn := hL.nl
    have hm9 := hI.k9 k hk
    refine r_iload dX8_mixedWithSample_57 rfl ?_
    refine r_aload dX8_mixedWithSample_59 rfl ?_
    refine r_get (k := 5) dX8_mixedWithSample_61 (hL.sp _ (by omega)).1 rfl rfl (by decide) kX8_281F ?_
    refine r_top (y := (nI (pMany g k))) (hI.mM k hk).1 ?_
    refine r_icmp_geN (tgt := 105) dX8_mixedWithSample_64 (by decide) (by omega) (by omega) (fun c1 => ?_) (fun c1 => ?_)
    · skip
      have ej : r = pMany g k := by omega
      rw [ej]
      skip
      exact kk
    · skip
      refine r_iconst (v := nI 0) dX8_mixedWithSample_67 (by decide) ?_
      refine r_istore (lv' := [(8, .int (nI (0))), (7, .int (nI (r))), (5, .long (mxF (fun r h => mxs (fun w => pOf g k (6 + (r * 4 + w))) 4 h) r h0)), (4, .ref (ad (0 + 12 + π (k)))), (0, .ref (ad 254)), (1, .long (hb)), (3, .int (nI (k)))]) dX8_mixedWithSample_68 (by decide) rfl ?_
      refine r_lv (lv' := [(8, .int (nI (0))), (7, .int (nI (r))), (5, .long (mxF (fun r h => mxs (fun w => pOf g k (6 + (r * 4 + w))) 4 h) r h0)), (4, .ref (ad (0 + 12 + π (k)))), (0, .ref (ad 254)), (1, .long (hb)), (3, .int (nI (k)))]) (by simp) ?_
      refine lX8_ms2i_0 hA hC hk hL (by omega) (h0 := mxF (fun r h => mxs (fun w => pOf g k (6 + (r * 4 + w))) 4 h) r h0) ?_
      refine r_iinc (v := (nI (r + 1))) (lv' := [(7, .int (nI (r + 1))), (8, .int (nI (4))), (5, .long (mxs (fun w => pOf g k (6 + (r * 4 + w))) 4 (mxF (fun r h => mxs (fun w => pOf g k (6 + (r * 4 + w))) 4 h) r h0))), (4, .ref (ad (0 + 12 + π (k)))), (0, .ref (ad 254)), (1, .long (hb)), (3, .int (nI (k)))]) dX8_mixedWithSample_99 rfl (nI_inc _) (by decide) rfl ?_
      refine r_goto (tgt := 57) dX8_mixedWithSample_102 (by decide) ?_
      refine r_lv (lv' := [(7, .int (nI (r + 1))), (5, .long (mxs (fun w => pOf g k (6 + (r * 4 + w))) 4 (mxF (fun r h => mxs (fun w => pOf g k (6 + (r * 4 + w))) 4 h) r h0))), (4, .ref (ad (0 + 12 + π (k)))), (0, .ref (ad 254)), (1, .long (hb)), (3, .int (nI (k)))]) (by simp) ?_
      exact ih (r + 1) (by omega) (by omega)
theorem lX8_ms2_0 {l : Launch} {κ : KP} {M : Mem} {ad : Nat → Nat} {g tx : Nat → Int32} {dn n sn ln : Nat} {kp : Bool} (hA : aInj ad) (hC : ClsAt κ ad M ⟨g, sn, kp, tx, ln⟩ dn n) {k : Nat} {hb : Int64} (hk : k < n) {π : Nat → Nat} (hL : LabAt M ad 0 g dn n π) {P : FPost} {h0 : Int64} (kk : fR l κ mX8_mixedWithSample 105 [(7, .int (nI (pMany g k))), (5, .long (mxF (fun r h => mxs (fun w => pOf g k (6 + (r * 4 + w))) 4 h) (pMany g k) h0)), (4, .ref (ad (0 + 12 + π (k)))), (0, .ref (ad 254)), (1, .long (hb)), (3, .int (nI (k)))] [] M 0 0 P) : fR l κ mX8_mixedWithSample 57 [(7, .int (nI (0))), (5, .long (h0)), (4, .ref (ad (0 + 12 + π (k)))), (0, .ref (ad 254)), (1, .long (hb)), (3, .int (nI (k)))] [] M 0 0 P := lX8_ms2 hA hC hk hL kk (pMany g k + 1) 0 (by omega) (by omega)
theorem lX8_ms3 {l : Launch} {κ : KP} {M : Mem} {ad : Nat → Nat} {g tx : Nat → Int32} {dn n sn ln : Nat} {kp : Bool} (hA : aInj ad) (hC : ClsAt κ ad M ⟨g, sn, kp, tx, ln⟩ dn n) {k : Nat} {hb : Int64} (hk : k < n) {π : Nat → Nat} (hL : LabAt M ad 0 g dn n π) {P : FPost} {h0 : Int64} (kk : fR l κ mX8_mixedWithSample 170 [(7, .int (nI (3))), (5, .long (mxs (fun i => pWhyNot g i k) (3) h0)), (4, .ref (ad (0 + 12 + π (k)))), (0, .ref (ad 254)), (1, .long (hb)), (3, .int (nI (k)))] [] M 0 0 P) : ∀ (N i : Nat), 3 < N + i → i ≤ 3 → fR l κ mX8_mixedWithSample 140 [(7, .int (nI (i))), (5, .long (mxs (fun i => pWhyNot g i k) i h0)), (4, .ref (ad (0 + 12 + π (k)))), (0, .ref (ad 254)), (1, .long (hb)), (3, .int (nI (k)))] [] M 0 0 P := by
  intro N
  induction N with
  | zero => intro i h1 h2; omega
  | succ N ih =>
    intro i h1 h2
    obtain ⟨hX, hS, hI, hT, ch, hTX⟩ := id hC
    replace hS : LabsAt ad M g sn kp dn n := hS
    replace hI : BI g dn n := hI
    replace hT : TextAt κ ad M tx ln := hT
    replace hTX : TX tx ln ch := hTX
    have hs6 := hS.s6
    obtain ⟨fD, hfD, hvD⟩ := hL.drs
    obtain ⟨fS, hfS, hvS⟩ := hL.sps
    obtain ⟨fN, hfN, hvN⟩ := hL.nds
    obtain ⟨fG, hfG, hvG⟩ := hL.dgs
    obtain ⟨fT, hfT, hvT⟩ := hL.sts
    have hdn := hL.dl
    have hn := hL.nl
    refine r_iload dX8_mixedWithSample_140 rfl ?_
    refine r_iconst (v := nI 3) dX8_mixedWithSample_142 (by decide) ?_
    refine r_icmp_geN (tgt := 170) dX8_mixedWithSample_143 (by decide) (by omega) (by omega) (fun c1 => ?_) (fun c1 => ?_)
    · skip
      have ej : i = 3 := by omega
      rw [ej]
      skip
      exact kk
    · skip
      refine r_lload dX8_mixedWithSample_146 rfl ?_
      refine r_aload_n dX8_mixedWithSample_148 rfl ?_
      refine r_get (k := 0) dX8_mixedWithSample_149 hX rfl rfl (by decide) kX8_10F ?_
      refine r_iload dX8_mixedWithSample_152 rfl ?_
      refine r_iload_n dX8_mixedWithSample_154 rfl ?_
      refine r_callV (As := [.int (nI (i)), .int (nI (k))]) dX8_mixedWithSample_155 (tX2_whyNotSunk hL hI (by omega) hk) rfl hL.lab rfl rfl oX2_whyNotSunk rfl kX8_87M nX2_whyNotSunk eX2_whyNotSunk (by unfold fRoom; decide) (Nat.le_of_ble_eq_true rfl) rfl (bc' := 0) (bs' := 0) rfl rfl ?_
      show fR _ _ _ 158 _ (.int (pWhyNot g (i) k) :: _) _ _ _ _
      refine r_i2l dX8_mixedWithSample_158 ?_
      refine r_callS (As := [.long (mxs (fun i => pWhyNot g i k) i h0), .long (((pWhyNot g (i) k)).toInt64)]) dX8_mixedWithSample_159 tX8_mixed rfl oX8_mixed rfl kX8_230M sX8_mixed (by unfold fRoom; decide) (Nat.le_of_ble_eq_true rfl) rfl (bc' := 0) (bs' := 0) rfl rfl ?_
      show fR _ _ _ 162 _ (.long ((31 * (mxs (fun i => pWhyNot g i k) i h0) + ((pWhyNot g (i) k)).toInt64)) :: _) _ _ _ _
      refine r_lstore (lv' := [(5, .long ((31 * (mxs (fun i => pWhyNot g i k) i h0) + ((pWhyNot g (i) k)).toInt64))), (7, .int (nI (i))), (4, .ref (ad (0 + 12 + π (k)))), (0, .ref (ad 254)), (1, .long (hb)), (3, .int (nI (k)))]) dX8_mixedWithSample_162 (by decide) rfl ?_
      refine r_iinc (v := (nI (i + 1))) (lv' := [(7, .int (nI (i + 1))), (5, .long ((31 * (mxs (fun i => pWhyNot g i k) i h0) + ((pWhyNot g (i) k)).toInt64))), (4, .ref (ad (0 + 12 + π (k)))), (0, .ref (ad 254)), (1, .long (hb)), (3, .int (nI (k)))]) dX8_mixedWithSample_164 rfl (nI_inc _) (by decide) rfl ?_
      refine r_goto (tgt := 140) dX8_mixedWithSample_167 (by decide) ?_
      refine r_lv (lv' := [(7, .int (nI (i + 1))), (5, .long ((31 * (mxs (fun i => pWhyNot g i k) i h0) + ((pWhyNot g (i) k)).toInt64))), (4, .ref (ad (0 + 12 + π (k)))), (0, .ref (ad 254)), (1, .long (hb)), (3, .int (nI (k)))]) (by simp) ?_
      exact ih (i + 1) (by omega) (by omega)
theorem lX8_ms3_0 {l : Launch} {κ : KP} {M : Mem} {ad : Nat → Nat} {g tx : Nat → Int32} {dn n sn ln : Nat} {kp : Bool} (hA : aInj ad) (hC : ClsAt κ ad M ⟨g, sn, kp, tx, ln⟩ dn n) {k : Nat} {hb : Int64} (hk : k < n) {π : Nat → Nat} (hL : LabAt M ad 0 g dn n π) {P : FPost} {h0 : Int64} (kk : fR l κ mX8_mixedWithSample 170 [(7, .int (nI (3))), (5, .long (mxs (fun i => pWhyNot g i k) (3) h0)), (4, .ref (ad (0 + 12 + π (k)))), (0, .ref (ad 254)), (1, .long (hb)), (3, .int (nI (k)))] [] M 0 0 P) : fR l κ mX8_mixedWithSample 140 [(7, .int (nI (0))), (5, .long (h0)), (4, .ref (ad (0 + 12 + π (k)))), (0, .ref (ad 254)), (1, .long (hb)), (3, .int (nI (k)))] [] M 0 0 P := lX8_ms3 hA hC hk hL kk (3 + 1) 0 (by omega) (by omega)
theorem tX8_mixedWithSample {l : Launch} {κ : KP} {M : Mem} {ad : Nat → Nat} {g tx : Nat → Int32} {dn n sn ln : Nat} {kp : Bool} (hA : aInj ad) (hC : ClsAt κ ad M ⟨g, sn, kp, tx, ln⟩ dn n) {k : Nat} {hb : Int64} (hk : k < n) : fM l κ mX8_mixedWithSample [.ref (ad 254), .long (hb), .int (nI (k))] M (isR (some (.long (mxSample g n k hb))) M) := by
  refine fM_of rfl (by decide +kernel) (Nat.le_of_ble_eq_true rfl) ?_
  obtain ⟨hX, hS, hI, hT, ch, hTX⟩ := id hC
  replace hS : LabsAt ad M g sn kp dn n := hS
  replace hI : BI g dn n := hI
  replace hT : TextAt κ ad M tx ln := hT
  replace hTX : TX tx ln ch := hTX
  obtain ⟨π, hL⟩ := hS.main
  have hs6 := hS.s6
  obtain ⟨fD, hfD, hvD⟩ := hL.drs
  obtain ⟨fS, hfS, hvS⟩ := hL.sps
  obtain ⟨fN, hfN, hvN⟩ := hL.nds
  obtain ⟨fG, hfG, hvG⟩ := hL.dgs
  obtain ⟨fT, hfT, hvT⟩ := hL.sts
  have hdn := hL.dl
  have hn := hL.nl
  show fR l κ mX8_mixedWithSample 0 [(0, .ref (ad 254)), (1, .long (hb)), (3, .int (nI (k)))] [] M 0 0 _
  refine r_aload_n dX8_mixedWithSample_0 rfl ?_
  refine r_get (k := 0) dX8_mixedWithSample_1 hX rfl rfl (by decide) kX8_10F ?_
  refine r_get (k := 1) dX8_mixedWithSample_4 hL.lab rfl rfl (by decide) kX8_109F ?_
  refine r_iload_n dX8_mixedWithSample_7 rfl ?_
  refine r_aldqN dX8_mixedWithSample_8 hfS rfl (by omega) (by decide) (hvS _ (by omega)) ?_
  refine r_astore (lv' := [(4, .ref (ad (0 + 12 + π (k)))), (0, .ref (ad 254)), (1, .long (hb)), (3, .int (nI (k)))]) dX8_mixedWithSample_9 (by decide) rfl ?_
  refine r_lload_n dX8_mixedWithSample_11 rfl ?_
  refine r_lstore (lv' := [(5, .long (hb)), (4, .ref (ad (0 + 12 + π (k)))), (0, .ref (ad 254)), (1, .long (hb)), (3, .int (nI (k)))]) dX8_mixedWithSample_12 (by decide) rfl ?_
  refine r_iconst (v := nI 0) dX8_mixedWithSample_14 (by decide) ?_
  refine r_istore (lv' := [(7, .int (nI (0))), (5, .long (hb)), (4, .ref (ad (0 + 12 + π (k)))), (0, .ref (ad 254)), (1, .long (hb)), (3, .int (nI (k)))]) dX8_mixedWithSample_15 (by decide) rfl ?_
  refine r_lv (lv' := [(7, .int (nI (0))), (5, .long (hb)), (4, .ref (ad (0 + 12 + π (k)))), (0, .ref (ad 254)), (1, .long (hb)), (3, .int (nI (k)))]) (by simp) ?_
  refine lX8_ms1_0 hA hC hk hL (h0 := hb) ?_
  refine r_iconst (v := nI 0) dX8_mixedWithSample_54 (by decide) ?_
  refine r_istore (lv' := [(7, .int (nI (0))), (5, .long (mxs (fun w => pOfSample g k w) 9 hb)), (4, .ref (ad (0 + 12 + π (k)))), (0, .ref (ad 254)), (1, .long (hb)), (3, .int (nI (k)))]) dX8_mixedWithSample_55 (by decide) rfl ?_
  refine r_lv (lv' := [(7, .int (nI (0))), (5, .long (mxs (fun w => pOfSample g k w) 9 hb)), (4, .ref (ad (0 + 12 + π (k)))), (0, .ref (ad 254)), (1, .long (hb)), (3, .int (nI (k)))]) (by simp) ?_
  refine lX8_ms2_0 hA hC hk hL (h0 := mxs (fun w => pOfSample g k w) 9 hb) ?_
  rw [mxF_4 (f := fun j => pOf g k (6 + j))]
  refine r_lload dX8_mixedWithSample_105 rfl ?_
  refine r_aload_n dX8_mixedWithSample_107 rfl ?_
  refine r_get (k := 0) dX8_mixedWithSample_108 hX rfl rfl (by decide) kX8_10F ?_
  refine r_iload_n dX8_mixedWithSample_111 rfl ?_
  refine r_callV (As := [.int (nI (k))]) dX8_mixedWithSample_112 (tX2_readyNow hL hI hk) rfl hL.lab rfl rfl oX2_minutesToReady rfl kX8_219M nX2_minutesToReady eX2_minutesToReady (by unfold fRoom; decide) (Nat.le_of_ble_eq_true rfl) rfl (bc' := 0) (bs' := 0) rfl rfl ?_
  show fR _ _ _ 115 _ (.int (pReadyNow g k) :: _) _ _ _ _
  refine r_i2l dX8_mixedWithSample_115 ?_
  refine r_callS (As := [.long (mxs (fun j => pOf g k (6 + j)) (4 * pMany g k) (mxs (fun w => pOfSample g k w) 9 hb)), .long (((pReadyNow g k)).toInt64)]) dX8_mixedWithSample_116 tX8_mixed rfl oX8_mixed rfl kX8_230M sX8_mixed (by unfold fRoom; decide) (Nat.le_of_ble_eq_true rfl) rfl (bc' := 0) (bs' := 0) rfl rfl ?_
  show fR _ _ _ 119 _ (.long ((31 * (mxs (fun j => pOf g k (6 + j)) (4 * pMany g k) (mxs (fun w => pOfSample g k w) 9 hb)) + ((pReadyNow g k)).toInt64)) :: _) _ _ _ _
  refine r_lstore (lv' := [(5, .long ((31 * (mxs (fun j => pOf g k (6 + j)) (4 * pMany g k) (mxs (fun w => pOfSample g k w) 9 hb)) + ((pReadyNow g k)).toInt64))), (7, .int (nI (pMany g k))), (4, .ref (ad (0 + 12 + π (k)))), (0, .ref (ad 254)), (1, .long (hb)), (3, .int (nI (k)))]) dX8_mixedWithSample_119 (by decide) rfl ?_
  refine r_lload dX8_mixedWithSample_121 rfl ?_
  refine r_aload_n dX8_mixedWithSample_123 rfl ?_
  refine r_get (k := 0) dX8_mixedWithSample_124 hX rfl rfl (by decide) kX8_10F ?_
  refine r_iload_n dX8_mixedWithSample_127 rfl ?_
  refine r_callV (As := [.int (nI (k))]) dX8_mixedWithSample_128 (tX2_best hL hI hk) rfl hL.lab rfl rfl oX2_quickestBath rfl kX8_222M nX2_quickestBath eX2_quickestBath (by unfold fRoom; decide) (Nat.le_of_ble_eq_true rfl) rfl (bc' := 0) (bs' := 0) rfl rfl ?_
  show fR _ _ _ 131 _ (.int (pBF g n k 3) :: _) _ _ _ _
  refine r_i2l dX8_mixedWithSample_131 ?_
  refine r_callS (As := [.long ((31 * (mxs (fun j => pOf g k (6 + j)) (4 * pMany g k) (mxs (fun w => pOfSample g k w) 9 hb)) + ((pReadyNow g k)).toInt64)), .long (((pBF g n k 3)).toInt64)]) dX8_mixedWithSample_132 tX8_mixed rfl oX8_mixed rfl kX8_230M sX8_mixed (by unfold fRoom; decide) (Nat.le_of_ble_eq_true rfl) rfl (bc' := 0) (bs' := 0) rfl rfl ?_
  show fR _ _ _ 135 _ (.long ((31 * (31 * (mxs (fun j => pOf g k (6 + j)) (4 * pMany g k) (mxs (fun w => pOfSample g k w) 9 hb)) + ((pReadyNow g k)).toInt64) + ((pBF g n k 3)).toInt64)) :: _) _ _ _ _
  refine r_lstore (lv' := [(5, .long ((31 * (31 * (mxs (fun j => pOf g k (6 + j)) (4 * pMany g k) (mxs (fun w => pOfSample g k w) 9 hb)) + ((pReadyNow g k)).toInt64) + ((pBF g n k 3)).toInt64))), (7, .int (nI (pMany g k))), (4, .ref (ad (0 + 12 + π (k)))), (0, .ref (ad 254)), (1, .long (hb)), (3, .int (nI (k)))]) dX8_mixedWithSample_135 (by decide) rfl ?_
  refine r_iconst (v := nI 0) dX8_mixedWithSample_137 (by decide) ?_
  refine r_istore (lv' := [(7, .int (nI (0))), (5, .long ((31 * (31 * (mxs (fun j => pOf g k (6 + j)) (4 * pMany g k) (mxs (fun w => pOfSample g k w) 9 hb)) + ((pReadyNow g k)).toInt64) + ((pBF g n k 3)).toInt64))), (4, .ref (ad (0 + 12 + π (k)))), (0, .ref (ad 254)), (1, .long (hb)), (3, .int (nI (k)))]) dX8_mixedWithSample_138 (by decide) rfl ?_
  refine r_lv (lv' := [(7, .int (nI (0))), (5, .long ((31 * (31 * (mxs (fun j => pOf g k (6 + j)) (4 * pMany g k) (mxs (fun w => pOfSample g k w) 9 hb)) + ((pReadyNow g k)).toInt64) + ((pBF g n k 3)).toInt64))), (4, .ref (ad (0 + 12 + π (k)))), (0, .ref (ad 254)), (1, .long (hb)), (3, .int (nI (k)))]) (by simp) ?_
  refine lX8_ms3_0 hA hC hk hL (h0 := (31 * (31 * (mxs (fun j => pOf g k (6 + j)) (4 * pMany g k) (mxs (fun w => pOfSample g k w) 9 hb)) + ((pReadyNow g k)).toInt64) + ((pBF g n k 3)).toInt64)) ?_
  refine r_lload dX8_mixedWithSample_170 rfl ?_
  rw [show mxSample g n k hb = mxs (fun i => pWhyNot g i k) 3 (31 * (31 * (mxs (fun j => pOf g k (6 + j)) (4 * pMany g k) (mxs (fun w => pOfSample g k w) 9 hb)) + ((pReadyNow g k)).toInt64) + ((pBF g n k 3)).toInt64) by unfold mxSample; simp only [mx]]
  exact fR_lret dX8_mixedWithSample_172 rfl isR_of
theorem lX8_dg3 {l : Launch} {κ : KP} {M : Mem} {ad : Nat → Nat} {g tx : Nat → Int32} {dn n sn ln : Nat} {kp : Bool} (hA : aInj ad) (hC : ClsAt κ ad M ⟨g, sn, kp, tx, ln⟩ dn n)  {P : FPost} {h0 : Int64} (kk : fR l κ mX8_digest 140 [(3, .int (nI (n))), (1, .long (mxF (fun k => mxSample g n k) (n) h0)), (0, .ref (ad 254))] [] M 0 0 P) : ∀ (N k : Nat), n < N + k → k ≤ n → fR l κ mX8_digest 116 [(3, .int (nI (k))), (1, .long (mxF (fun k => mxSample g n k) k h0)), (0, .ref (ad 254))] [] M 0 0 P := by
  intro N
  induction N with
  | zero => intro k h1 h2; omega
  | succ N ih =>
    intro k h1 h2
    obtain ⟨hX, hS, hI, hT, ch, hTX⟩ := id hC
    replace hS : LabsAt ad M g sn kp dn n := hS
    replace hI : BI g dn n := hI
    replace hT : TextAt κ ad M tx ln := hT
    replace hTX : TX tx ln ch := hTX
    obtain ⟨π, hL⟩ := hS.main
    have hs6 := hS.s6
    obtain ⟨fD, hfD, hvD⟩ := hL.drs
    obtain ⟨fS, hfS, hvS⟩ := hL.sps
    obtain ⟨fN, hfN, hvN⟩ := hL.nds
    obtain ⟨fG, hfG, hvG⟩ := hL.dgs
    obtain ⟨fT, hfT, hvT⟩ := hL.sts
    have hdn := hL.dl
    have hn := hL.nl
    refine r_iload_n dX8_digest_116 rfl ?_
    refine r_aload_n dX8_digest_117 rfl ?_
    refine r_get (k := 0) dX8_digest_118 hX rfl rfl (by decide) kX8_10F ?_
    refine r_get (k := 6) dX8_digest_121 hL.lab rfl rfl (by decide) kX8_59F ?_
    refine r_icmp_geN (tgt := 140) dX8_digest_124 (by decide) (by omega) (by omega) (fun c1 => ?_) (fun c1 => ?_)
    · skip
      have ej : k = n := by omega
      rw [ej]
      skip
      exact kk
    · skip
      refine r_aload_n dX8_digest_127 rfl ?_
      refine r_lload_n dX8_digest_128 rfl ?_
      refine r_iload_n dX8_digest_129 rfl ?_
      refine r_callV (As := [.long (mxF (fun k => mxSample g n k) k h0), .int (nI (k))]) dX8_digest_130 (tX8_mixedWithSample hA hC (by omega)) rfl hX rfl rfl oX8_mixedWithSample rfl kX8_234M nX8_mixedWithSample eX8_mixedWithSample (by unfold fRoom; decide) (Nat.le_of_ble_eq_true rfl) rfl (bc' := 0) (bs' := 0) rfl rfl ?_
      show fR _ _ _ 133 _ (.long ((mxSample g n (k) (mxF (fun k => mxSample g n k) k h0))) :: _) _ _ _ _
      refine r_lstore_n (lv' := [(1, .long ((mxSample g n (k) (mxF (fun k => mxSample g n k) k h0)))), (3, .int (nI (k))), (0, .ref (ad 254))]) dX8_digest_133 (by decide) rfl ?_
      refine r_iinc (v := (nI (k + 1))) (lv' := [(3, .int (nI (k + 1))), (1, .long ((mxSample g n (k) (mxF (fun k => mxSample g n k) k h0)))), (0, .ref (ad 254))]) dX8_digest_134 rfl (nI_inc _) (by decide) rfl ?_
      refine r_goto (tgt := 116) dX8_digest_137 (by decide) ?_
      refine r_lv (lv' := [(3, .int (nI (k + 1))), (1, .long ((mxSample g n (k) (mxF (fun k => mxSample g n k) k h0)))), (0, .ref (ad 254))]) (by simp) ?_
      exact ih (k + 1) (by omega) (by omega)
theorem lX8_dg3_0 {l : Launch} {κ : KP} {M : Mem} {ad : Nat → Nat} {g tx : Nat → Int32} {dn n sn ln : Nat} {kp : Bool} (hA : aInj ad) (hC : ClsAt κ ad M ⟨g, sn, kp, tx, ln⟩ dn n)  {P : FPost} {h0 : Int64} (kk : fR l κ mX8_digest 140 [(3, .int (nI (n))), (1, .long (mxF (fun k => mxSample g n k) (n) h0)), (0, .ref (ad 254))] [] M 0 0 P) : fR l κ mX8_digest 116 [(3, .int (nI (0))), (1, .long (h0)), (0, .ref (ad 254))] [] M 0 0 P := lX8_dg3 hA hC  kk (n + 1) 0 (by omega) (by omega)
theorem lX8_mt1i {l : Launch} {κ : KP} {M : Mem} {ad : Nat → Nat} {g tx : Nat → Int32} {dn n sn ln : Nat} {kp : Bool} (hA : aInj ad) (hC : ClsAt κ ad M ⟨g, sn, kp, tx, ln⟩ dn n) {hb : Int64} {i : Nat} (hi : i < 3) {P : FPost} {h0 : Int64} (kk : fR l κ mX8_mixedWithTools 47 [(6, .int (nI (3))), (5, .int (nI (i))), (3, .long (mxs (fun w => g (31 + 3 * i + w)) (3) h0)), (0, .ref (ad 254)), (1, .long (hb))] [] M 0 0 P) : ∀ (N w : Nat), 3 < N + w → w ≤ 3 → fR l κ mX8_mixedWithTools 14 [(6, .int (nI (w))), (5, .int (nI (i))), (3, .long (mxs (fun w => g (31 + 3 * i + w)) w h0)), (0, .ref (ad 254)), (1, .long (hb))] [] M 0 0 P := by
  intro N
  induction N with
  | zero => intro w h1 h2; omega
  | succ N ih =>
    intro w h1 h2
    obtain ⟨hX, hS, hI, hT, ch, hTX⟩ := id hC
    replace hS : LabsAt ad M g sn kp dn n := hS
    replace hI : BI g dn n := hI
    replace hT : TextAt κ ad M tx ln := hT
    replace hTX : TX tx ln ch := hTX
    obtain ⟨π, hL⟩ := hS.main
    have hs6 := hS.s6
    obtain ⟨fD, hfD, hvD⟩ := hL.drs
    obtain ⟨fS, hfS, hvS⟩ := hL.sps
    obtain ⟨fN, hfN, hvN⟩ := hL.nds
    obtain ⟨fG, hfG, hvG⟩ := hL.dgs
    obtain ⟨fT, hfT, hvT⟩ := hL.sts
    have hdn := hL.dl
    have hn := hL.nl
    refine r_iload dX8_mixedWithTools_14 rfl ?_
    refine r_iconst (v := nI 3) dX8_mixedWithTools_16 (by decide) ?_
    refine r_icmp_geN (tgt := 47) dX8_mixedWithTools_17 (by decide) (by omega) (by omega) (fun c1 => ?_) (fun c1 => ?_)
    · skip
      have ej : w = 3 := by omega
      rw [ej]
      skip
      exact kk
    · skip
      refine r_lload_n dX8_mixedWithTools_20 rfl ?_
      refine r_aload_n dX8_mixedWithTools_21 rfl ?_
      refine r_get (k := 0) dX8_mixedWithTools_22 hX rfl rfl (by decide) kX8_10F ?_
      refine r_get (k := 2) dX8_mixedWithTools_25 hL.lab rfl rfl (by decide) kX8_97F ?_
      refine r_iload dX8_mixedWithTools_28 rfl ?_
      refine r_aldqN dX8_mixedWithTools_30 hfN rfl (by omega) (by decide) (hvN _ (by omega)) ?_
      refine r_iload dX8_mixedWithTools_31 rfl ?_
      refine r_callV (As := [.int (nI (w))]) dX8_mixedWithTools_33 (tX3_numberA hL hI (by omega) (by omega)) rfl (hL.nd _ (by omega)) rfl rfl oX3_number rfl kX8_208M nX3_number eX3_number (by unfold fRoom; decide) (Nat.le_of_ble_eq_true rfl) rfl (bc' := 0) (bs' := 0) rfl rfl ?_
      show fR _ _ _ 36 _ (.int (g (31 + 3 * i + w)) :: _) _ _ _ _
      refine r_i2l dX8_mixedWithTools_36 ?_
      refine r_callS (As := [.long (mxs (fun w => g (31 + 3 * i + w)) w h0), .long (((g (31 + 3 * i + w))).toInt64)]) dX8_mixedWithTools_37 tX8_mixed rfl oX8_mixed rfl kX8_230M sX8_mixed (by unfold fRoom; decide) (Nat.le_of_ble_eq_true rfl) rfl (bc' := 0) (bs' := 0) rfl rfl ?_
      show fR _ _ _ 40 _ (.long ((31 * (mxs (fun w => g (31 + 3 * i + w)) w h0) + ((g (31 + 3 * i + w))).toInt64)) :: _) _ _ _ _
      refine r_lstore_n (lv' := [(3, .long ((31 * (mxs (fun w => g (31 + 3 * i + w)) w h0) + ((g (31 + 3 * i + w))).toInt64))), (6, .int (nI (w))), (5, .int (nI (i))), (0, .ref (ad 254)), (1, .long (hb))]) dX8_mixedWithTools_40 (by decide) rfl ?_
      refine r_iinc (v := (nI (w + 1))) (lv' := [(6, .int (nI (w + 1))), (3, .long ((31 * (mxs (fun w => g (31 + 3 * i + w)) w h0) + ((g (31 + 3 * i + w))).toInt64))), (5, .int (nI (i))), (0, .ref (ad 254)), (1, .long (hb))]) dX8_mixedWithTools_41 rfl (nI_inc _) (by decide) rfl ?_
      refine r_goto (tgt := 14) dX8_mixedWithTools_44 (by decide) ?_
      refine r_lv (lv' := [(6, .int (nI (w + 1))), (5, .int (nI (i))), (3, .long ((31 * (mxs (fun w => g (31 + 3 * i + w)) w h0) + ((g (31 + 3 * i + w))).toInt64))), (0, .ref (ad 254)), (1, .long (hb))]) (by simp) ?_
      exact ih (w + 1) (by omega) (by omega)
theorem lX8_mt1i_0 {l : Launch} {κ : KP} {M : Mem} {ad : Nat → Nat} {g tx : Nat → Int32} {dn n sn ln : Nat} {kp : Bool} (hA : aInj ad) (hC : ClsAt κ ad M ⟨g, sn, kp, tx, ln⟩ dn n) {hb : Int64} {i : Nat} (hi : i < 3) {P : FPost} {h0 : Int64} (kk : fR l κ mX8_mixedWithTools 47 [(6, .int (nI (3))), (5, .int (nI (i))), (3, .long (mxs (fun w => g (31 + 3 * i + w)) (3) h0)), (0, .ref (ad 254)), (1, .long (hb))] [] M 0 0 P) : fR l κ mX8_mixedWithTools 14 [(6, .int (nI (0))), (5, .int (nI (i))), (3, .long (h0)), (0, .ref (ad 254)), (1, .long (hb))] [] M 0 0 P := lX8_mt1i hA hC hi kk (3 + 1) 0 (by omega) (by omega)
theorem lX8_mt1 {l : Launch} {κ : KP} {M : Mem} {ad : Nat → Nat} {g tx : Nat → Int32} {dn n sn ln : Nat} {kp : Bool} (hA : aInj ad) (hC : ClsAt κ ad M ⟨g, sn, kp, tx, ln⟩ dn n) {hb : Int64} {P : FPost} {h0 : Int64} (kk : fR l κ mX8_mixedWithTools 53 [(5, .int (nI (3))), (3, .long (mxF (fun i h => mxs (fun w => g (31 + 3 * i + w)) 3 h) (3) h0)), (0, .ref (ad 254)), (1, .long (hb))] [] M 0 0 P) : ∀ (N i : Nat), 3 < N + i → i ≤ 3 → fR l κ mX8_mixedWithTools 5 [(5, .int (nI (i))), (3, .long (mxF (fun i h => mxs (fun w => g (31 + 3 * i + w)) 3 h) i h0)), (0, .ref (ad 254)), (1, .long (hb))] [] M 0 0 P := by
  intro N
  induction N with
  | zero => intro i h1 h2; omega
  | succ N ih =>
    intro i h1 h2
    obtain ⟨hX, hS, hI, hT, ch, hTX⟩ := id hC
    replace hS : LabsAt ad M g sn kp dn n := hS
    replace hI : BI g dn n := hI
    replace hT : TextAt κ ad M tx ln := hT
    replace hTX : TX tx ln ch := hTX
    obtain ⟨π, hL⟩ := hS.main
    have hs6 := hS.s6
    obtain ⟨fD, hfD, hvD⟩ := hL.drs
    obtain ⟨fS, hfS, hvS⟩ := hL.sps
    obtain ⟨fN, hfN, hvN⟩ := hL.nds
    obtain ⟨fG, hfG, hvG⟩ := hL.dgs
    obtain ⟨fT, hfT, hvT⟩ := hL.sts
    have hdn := hL.dl
    have hn := hL.nl
    refine r_iload dX8_mixedWithTools_5 rfl ?_
    refine r_iconst (v := nI 3) dX8_mixedWithTools_7 (by decide) ?_
    refine r_icmp_geN (tgt := 53) dX8_mixedWithTools_8 (by decide) (by omega) (by omega) (fun c1 => ?_) (fun c1 => ?_)
    · skip
      have ej : i = 3 := by omega
      rw [ej]
      skip
      exact kk
    · skip
      refine r_iconst (v := nI 0) dX8_mixedWithTools_11 (by decide) ?_
      refine r_istore (lv' := [(6, .int (nI (0))), (5, .int (nI (i))), (3, .long (mxF (fun i h => mxs (fun w => g (31 + 3 * i + w)) 3 h) i h0)), (0, .ref (ad 254)), (1, .long (hb))]) dX8_mixedWithTools_12 (by decide) rfl ?_
      refine r_lv (lv' := [(6, .int (nI (0))), (5, .int (nI (i))), (3, .long (mxF (fun i h => mxs (fun w => g (31 + 3 * i + w)) 3 h) i h0)), (0, .ref (ad 254)), (1, .long (hb))]) (by simp) ?_
      refine lX8_mt1i_0 hA hC (by omega) (h0 := mxF (fun i h => mxs (fun w => g (31 + 3 * i + w)) 3 h) i h0) ?_
      refine r_iinc (v := (nI (i + 1))) (lv' := [(5, .int (nI (i + 1))), (6, .int (nI (3))), (3, .long (mxs (fun w => g (31 + 3 * i + w)) 3 (mxF (fun i h => mxs (fun w => g (31 + 3 * i + w)) 3 h) i h0))), (0, .ref (ad 254)), (1, .long (hb))]) dX8_mixedWithTools_47 rfl (nI_inc _) (by decide) rfl ?_
      refine r_goto (tgt := 5) dX8_mixedWithTools_50 (by decide) ?_
      refine r_lv (lv' := [(5, .int (nI (i + 1))), (3, .long (mxs (fun w => g (31 + 3 * i + w)) 3 (mxF (fun i h => mxs (fun w => g (31 + 3 * i + w)) 3 h) i h0))), (0, .ref (ad 254)), (1, .long (hb))]) (by simp) ?_
      exact ih (i + 1) (by omega) (by omega)
theorem lX8_mt1_0 {l : Launch} {κ : KP} {M : Mem} {ad : Nat → Nat} {g tx : Nat → Int32} {dn n sn ln : Nat} {kp : Bool} (hA : aInj ad) (hC : ClsAt κ ad M ⟨g, sn, kp, tx, ln⟩ dn n) {hb : Int64} {P : FPost} {h0 : Int64} (kk : fR l κ mX8_mixedWithTools 53 [(5, .int (nI (3))), (3, .long (mxF (fun i h => mxs (fun w => g (31 + 3 * i + w)) 3 h) (3) h0)), (0, .ref (ad 254)), (1, .long (hb))] [] M 0 0 P) : fR l κ mX8_mixedWithTools 5 [(5, .int (nI (0))), (3, .long (h0)), (0, .ref (ad 254)), (1, .long (hb))] [] M 0 0 P := lX8_mt1 hA hC  kk (3 + 1) 0 (by omega) (by omega)
theorem lX8_mt2i {l : Launch} {κ : KP} {M : Mem} {ad : Nat → Nat} {g tx : Nat → Int32} {dn n sn ln : Nat} {kp : Bool} (hA : aInj ad) (hC : ClsAt κ ad M ⟨g, sn, kp, tx, ln⟩ dn n) {hb : Int64} {i : Nat} (hi : i < 3) {P : FPost} {h0 : Int64} (kk : fR l κ mX8_mixedWithTools 94 [(6, .int (nI (3))), (5, .int (nI (i))), (3, .long (mxs (fun w => pOfBath g n i w) (3) h0)), (0, .ref (ad 254)), (1, .long (hb))] [] M 0 0 P) : ∀ (N w : Nat), 3 < N + w → w ≤ 3 → fR l κ mX8_mixedWithTools 65 [(6, .int (nI (w))), (5, .int (nI (i))), (3, .long (mxs (fun w => pOfBath g n i w) w h0)), (0, .ref (ad 254)), (1, .long (hb))] [] M 0 0 P := by
  intro N
  induction N with
  | zero => intro w h1 h2; omega
  | succ N ih =>
    intro w h1 h2
    obtain ⟨hX, hS, hI, hT, ch, hTX⟩ := id hC
    replace hS : LabsAt ad M g sn kp dn n := hS
    replace hI : BI g dn n := hI
    replace hT : TextAt κ ad M tx ln := hT
    replace hTX : TX tx ln ch := hTX
    obtain ⟨π, hL⟩ := hS.main
    have hs6 := hS.s6
    obtain ⟨fD, hfD, hvD⟩ := hL.drs
    obtain ⟨fS, hfS, hvS⟩ := hL.sps
    obtain ⟨fN, hfN, hvN⟩ := hL.nds
    obtain ⟨fG, hfG, hvG⟩ := hL.dgs
    obtain ⟨fT, hfT, hvT⟩ := hL.sts
    have hdn := hL.dl
    have hn := hL.nl
    refine r_iload dX8_mixedWithTools_65 rfl ?_
    refine r_iconst (v := nI 3) dX8_mixedWithTools_67 (by decide) ?_
    refine r_icmp_geN (tgt := 94) dX8_mixedWithTools_68 (by decide) (by omega) (by omega) (fun c1 => ?_) (fun c1 => ?_)
    · skip
      have ej : w = 3 := by omega
      rw [ej]
      skip
      exact kk
    · skip
      refine r_lload_n dX8_mixedWithTools_71 rfl ?_
      refine r_aload_n dX8_mixedWithTools_72 rfl ?_
      refine r_get (k := 0) dX8_mixedWithTools_73 hX rfl rfl (by decide) kX8_10F ?_
      refine r_iload dX8_mixedWithTools_76 rfl ?_
      refine r_iload dX8_mixedWithTools_78 rfl ?_
      refine r_callV (As := [.int (nI (i)), .int (nI (w))]) dX8_mixedWithTools_80 (tX2_bathNumber hL hI (by omega) (by omega)) rfl hL.lab rfl rfl oX2_bathNumber rfl kX8_210M nX2_bathNumber eX2_bathNumber (by unfold fRoom; decide) (Nat.le_of_ble_eq_true rfl) rfl (bc' := 0) (bs' := 0) rfl rfl ?_
      show fR _ _ _ 83 _ (.int (pOfBath g n (i) (w)) :: _) _ _ _ _
      refine r_i2l dX8_mixedWithTools_83 ?_
      refine r_callS (As := [.long (mxs (fun w => pOfBath g n i w) w h0), .long (((pOfBath g n (i) (w))).toInt64)]) dX8_mixedWithTools_84 tX8_mixed rfl oX8_mixed rfl kX8_230M sX8_mixed (by unfold fRoom; decide) (Nat.le_of_ble_eq_true rfl) rfl (bc' := 0) (bs' := 0) rfl rfl ?_
      show fR _ _ _ 87 _ (.long ((31 * (mxs (fun w => pOfBath g n i w) w h0) + ((pOfBath g n (i) (w))).toInt64)) :: _) _ _ _ _
      refine r_lstore_n (lv' := [(3, .long ((31 * (mxs (fun w => pOfBath g n i w) w h0) + ((pOfBath g n (i) (w))).toInt64))), (6, .int (nI (w))), (5, .int (nI (i))), (0, .ref (ad 254)), (1, .long (hb))]) dX8_mixedWithTools_87 (by decide) rfl ?_
      refine r_iinc (v := (nI (w + 1))) (lv' := [(6, .int (nI (w + 1))), (3, .long ((31 * (mxs (fun w => pOfBath g n i w) w h0) + ((pOfBath g n (i) (w))).toInt64))), (5, .int (nI (i))), (0, .ref (ad 254)), (1, .long (hb))]) dX8_mixedWithTools_88 rfl (nI_inc _) (by decide) rfl ?_
      refine r_goto (tgt := 65) dX8_mixedWithTools_91 (by decide) ?_
      refine r_lv (lv' := [(6, .int (nI (w + 1))), (5, .int (nI (i))), (3, .long ((31 * (mxs (fun w => pOfBath g n i w) w h0) + ((pOfBath g n (i) (w))).toInt64))), (0, .ref (ad 254)), (1, .long (hb))]) (by simp) ?_
      exact ih (w + 1) (by omega) (by omega)
theorem lX8_mt2i_0 {l : Launch} {κ : KP} {M : Mem} {ad : Nat → Nat} {g tx : Nat → Int32} {dn n sn ln : Nat} {kp : Bool} (hA : aInj ad) (hC : ClsAt κ ad M ⟨g, sn, kp, tx, ln⟩ dn n) {hb : Int64} {i : Nat} (hi : i < 3) {P : FPost} {h0 : Int64} (kk : fR l κ mX8_mixedWithTools 94 [(6, .int (nI (3))), (5, .int (nI (i))), (3, .long (mxs (fun w => pOfBath g n i w) (3) h0)), (0, .ref (ad 254)), (1, .long (hb))] [] M 0 0 P) : fR l κ mX8_mixedWithTools 65 [(6, .int (nI (0))), (5, .int (nI (i))), (3, .long (h0)), (0, .ref (ad 254)), (1, .long (hb))] [] M 0 0 P := lX8_mt2i hA hC hi kk (3 + 1) 0 (by omega) (by omega)
theorem lX8_mt2 {l : Launch} {κ : KP} {M : Mem} {ad : Nat → Nat} {g tx : Nat → Int32} {dn n sn ln : Nat} {kp : Bool} (hA : aInj ad) (hC : ClsAt κ ad M ⟨g, sn, kp, tx, ln⟩ dn n) {hb : Int64} {P : FPost} {h0 : Int64} (kk : fR l κ mX8_mixedWithTools 100 [(5, .int (nI (3))), (3, .long (mxF (fun b h => mxs (fun w => pOfBath g n b w) 3 h) (3) h0)), (0, .ref (ad 254)), (1, .long (hb))] [] M 0 0 P) : ∀ (N i : Nat), 3 < N + i → i ≤ 3 → fR l κ mX8_mixedWithTools 56 [(5, .int (nI (i))), (3, .long (mxF (fun b h => mxs (fun w => pOfBath g n b w) 3 h) i h0)), (0, .ref (ad 254)), (1, .long (hb))] [] M 0 0 P := by
  intro N
  induction N with
  | zero => intro i h1 h2; omega
  | succ N ih =>
    intro i h1 h2
    obtain ⟨hX, hS, hI, hT, ch, hTX⟩ := id hC
    replace hS : LabsAt ad M g sn kp dn n := hS
    replace hI : BI g dn n := hI
    replace hT : TextAt κ ad M tx ln := hT
    replace hTX : TX tx ln ch := hTX
    obtain ⟨π, hL⟩ := hS.main
    have hs6 := hS.s6
    obtain ⟨fD, hfD, hvD⟩ := hL.drs
    obtain ⟨fS, hfS, hvS⟩ := hL.sps
    obtain ⟨fN, hfN, hvN⟩ := hL.nds
    obtain ⟨fG, hfG, hvG⟩ := hL.dgs
    obtain ⟨fT, hfT, hvT⟩ := hL.sts
    have hdn := hL.dl
    have hn := hL.nl
    refine r_iload dX8_mixedWithTools_56 rfl ?_
    refine r_iconst (v := nI 3) dX8_mixedWithTools_58 (by decide) ?_
    refine r_icmp_geN (tgt := 100) dX8_mixedWithTools_59 (by decide) (by omega) (by omega) (fun c1 => ?_) (fun c1 => ?_)
    · skip
      have ej : i = 3 := by omega
      rw [ej]
      skip
      exact kk
    · skip
      refine r_iconst (v := nI 0) dX8_mixedWithTools_62 (by decide) ?_
      refine r_istore (lv' := [(6, .int (nI (0))), (5, .int (nI (i))), (3, .long (mxF (fun b h => mxs (fun w => pOfBath g n b w) 3 h) i h0)), (0, .ref (ad 254)), (1, .long (hb))]) dX8_mixedWithTools_63 (by decide) rfl ?_
      refine r_lv (lv' := [(6, .int (nI (0))), (5, .int (nI (i))), (3, .long (mxF (fun b h => mxs (fun w => pOfBath g n b w) 3 h) i h0)), (0, .ref (ad 254)), (1, .long (hb))]) (by simp) ?_
      refine lX8_mt2i_0 hA hC (by omega) (h0 := mxF (fun b h => mxs (fun w => pOfBath g n b w) 3 h) i h0) ?_
      refine r_iinc (v := (nI (i + 1))) (lv' := [(5, .int (nI (i + 1))), (6, .int (nI (3))), (3, .long (mxs (fun w => pOfBath g n i w) 3 (mxF (fun b h => mxs (fun w => pOfBath g n b w) 3 h) i h0))), (0, .ref (ad 254)), (1, .long (hb))]) dX8_mixedWithTools_94 rfl (nI_inc _) (by decide) rfl ?_
      refine r_goto (tgt := 56) dX8_mixedWithTools_97 (by decide) ?_
      refine r_lv (lv' := [(5, .int (nI (i + 1))), (3, .long (mxs (fun w => pOfBath g n i w) 3 (mxF (fun b h => mxs (fun w => pOfBath g n b w) 3 h) i h0))), (0, .ref (ad 254)), (1, .long (hb))]) (by simp) ?_
      exact ih (i + 1) (by omega) (by omega)
theorem lX8_mt2_0 {l : Launch} {κ : KP} {M : Mem} {ad : Nat → Nat} {g tx : Nat → Int32} {dn n sn ln : Nat} {kp : Bool} (hA : aInj ad) (hC : ClsAt κ ad M ⟨g, sn, kp, tx, ln⟩ dn n) {hb : Int64} {P : FPost} {h0 : Int64} (kk : fR l κ mX8_mixedWithTools 100 [(5, .int (nI (3))), (3, .long (mxF (fun b h => mxs (fun w => pOfBath g n b w) 3 h) (3) h0)), (0, .ref (ad 254)), (1, .long (hb))] [] M 0 0 P) : fR l κ mX8_mixedWithTools 56 [(5, .int (nI (0))), (3, .long (h0)), (0, .ref (ad 254)), (1, .long (hb))] [] M 0 0 P := lX8_mt2 hA hC  kk (3 + 1) 0 (by omega) (by omega)
theorem tX8_mixedWithTools {l : Launch} {κ : KP} {M : Mem} {ad : Nat → Nat} {g tx : Nat → Int32} {dn n sn ln : Nat} {kp : Bool} (hA : aInj ad) (hC : ClsAt κ ad M ⟨g, sn, kp, tx, ln⟩ dn n) {hb : Int64} : fM l κ mX8_mixedWithTools [.ref (ad 254), .long (hb)] M (isR (some (.long (mxB g n hb))) M) := by
  refine fM_of rfl (by decide +kernel) (Nat.le_of_ble_eq_true rfl) ?_
  obtain ⟨hX, hS, hI, hT, ch, hTX⟩ := id hC
  replace hS : LabsAt ad M g sn kp dn n := hS
  replace hI : BI g dn n := hI
  replace hT : TextAt κ ad M tx ln := hT
  replace hTX : TX tx ln ch := hTX
  obtain ⟨π, hL⟩ := hS.main
  have hs6 := hS.s6
  obtain ⟨fD, hfD, hvD⟩ := hL.drs
  obtain ⟨fS, hfS, hvS⟩ := hL.sps
  obtain ⟨fN, hfN, hvN⟩ := hL.nds
  obtain ⟨fG, hfG, hvG⟩ := hL.dgs
  obtain ⟨fT, hfT, hvT⟩ := hL.sts
  have hdn := hL.dl
  have hn := hL.nl
  show fR l κ mX8_mixedWithTools 0 [(0, .ref (ad 254)), (1, .long (hb))] [] M 0 0 _
  refine r_lload_n dX8_mixedWithTools_0 rfl ?_
  refine r_lstore_n (lv' := [(3, .long (hb)), (0, .ref (ad 254)), (1, .long (hb))]) dX8_mixedWithTools_1 (by decide) rfl ?_
  refine r_iconst (v := nI 0) dX8_mixedWithTools_2 (by decide) ?_
  refine r_istore (lv' := [(5, .int (nI (0))), (3, .long (hb)), (0, .ref (ad 254)), (1, .long (hb))]) dX8_mixedWithTools_3 (by decide) rfl ?_
  refine r_lv (lv' := [(5, .int (nI (0))), (3, .long (hb)), (0, .ref (ad 254)), (1, .long (hb))]) (by simp) ?_
  refine lX8_mt1_0 hA hC  (h0 := hb) ?_
  rw [mxF_n]
  refine r_iconst (v := nI 0) dX8_mixedWithTools_53 (by decide) ?_
  refine r_istore (lv' := [(5, .int (nI (0))), (3, .long (mxs (fun j => g (31 + j)) 9 hb)), (0, .ref (ad 254)), (1, .long (hb))]) dX8_mixedWithTools_54 (by decide) rfl ?_
  refine r_lv (lv' := [(5, .int (nI (0))), (3, .long (mxs (fun j => g (31 + j)) 9 hb)), (0, .ref (ad 254)), (1, .long (hb))]) (by simp) ?_
  refine lX8_mt2_0 hA hC  (h0 := mxs (fun j => g (31 + j)) 9 hb) ?_
  rw [mxF_b]
  refine r_lload_n dX8_mixedWithTools_100 rfl ?_
  exact fR_lret dX8_mixedWithTools_101 rfl isR_of
theorem tX8_readShare {l : Launch} {κ : KP} {M : Mem} {ad : Nat → Nat} {g tx : Nat → Int32} {dn n sn ln : Nat} {kp : Bool} (hA : aInj ad) (hC : ClsAt κ ad M ⟨g, sn, kp, tx, ln⟩ dn n) : fM l κ mX8_readShare [.ref (ad 254)] M (isR (some (.double (shD (pPend g n) n))) M) := by
  refine fM_of rfl (by decide +kernel) (Nat.le_of_ble_eq_true rfl) ?_
  obtain ⟨hX, hS, hI, hT, ch, hTX⟩ := id hC
  replace hS : LabsAt ad M g sn kp dn n := hS
  replace hI : BI g dn n := hI
  replace hT : TextAt κ ad M tx ln := hT
  replace hTX : TX tx ln ch := hTX
  obtain ⟨π, hL⟩ := hS.main
  have hs6 := hS.s6
  obtain ⟨fD, hfD, hvD⟩ := hL.drs
  obtain ⟨fS, hfS, hvS⟩ := hL.sps
  obtain ⟨fN, hfN, hvN⟩ := hL.nds
  obtain ⟨fG, hfG, hvG⟩ := hL.dgs
  obtain ⟨fT, hfT, hvT⟩ := hL.sts
  have hdn := hL.dl
  have hn := hL.nl
  show fR l κ mX8_readShare 0 [(0, .ref (ad 254))] [] M 0 0 _
  refine r_aload_n dX8_readShare_0 rfl ?_
  refine r_get (k := 0) dX8_readShare_1 hX rfl rfl (by decide) kX8_10F ?_
  refine r_get (k := 6) dX8_readShare_4 hL.lab rfl rfl (by decide) kX8_59F ?_
  refine r_if_gtN (tgt := 12) dX8_readShare_7 (by decide) (by omega) (fun c1 => ?_) (fun c1 => ?_)
  · skip
    have eS : shD (pPend g n) n = FP.ddiv (FP.i2d (nI (pPend g n))) (FP.i2d (nI n)) := if_neg (by omega)
    refine r_aload_n dX8_readShare_12 rfl ?_
    refine r_get (k := 0) dX8_readShare_13 hX rfl rfl (by decide) kX8_10F ?_
    refine r_callV (As := []) dX8_readShare_16 (tX2_pend hL hI) rfl hL.lab rfl rfl oX2_samplesWithPenetration rfl kX8_225M nX2_samplesWithPenetration eX2_samplesWithPenetration (by unfold fRoom; decide) (Nat.le_of_ble_eq_true rfl) rfl (bc' := 0) (bs' := 0) rfl rfl ?_
    show fR _ _ _ 19 _ (.int (nI (pPend g n)) :: _) _ _ _ _
    refine r_i2d dX8_readShare_19 ?_
    refine r_aload_n dX8_readShare_20 rfl ?_
    refine r_get (k := 0) dX8_readShare_21 hX rfl rfl (by decide) kX8_10F ?_
    refine r_get (k := 6) dX8_readShare_24 hL.lab rfl rfl (by decide) kX8_59F ?_
    refine r_i2d dX8_readShare_27 ?_
    refine r_ddiv dX8_readShare_28 (by rw [← eS]; exact n64_of (shOk_at pPend_le (by omega)).1) ?_
    rw [eS]
    exact fR_dret dX8_readShare_29 rfl isR_of
  · skip
    refine r_dconst1 dX8_readShare_10 ?_
    rw [show shD (pPend g n) n = FP.dconst1 from if_pos (by omega)]
    exact fR_dret dX8_readShare_11 rfl isR_of
theorem lX8_dg6 {l : Launch} {κ : KP} {M : Mem} {ad : Nat → Nat} {g tx : Nat → Int32} {dn n sn ln : Nat} {kp : Bool} (hA : aInj ad) (hC : ClsAt κ ad M ⟨g, sn, kp, tx, ln⟩ dn n)  {P : FPost} {h0 : Int64} (kk : fR l κ mX8_digest 231 [(3, .int (nI (ln))), (1, .long (mxs (fun j => tx j) (ln) h0)), (0, .ref (ad 254))] [] M 0 0 P) : ∀ (N j : Nat), ln < N + j → j ≤ ln → fR l κ mX8_digest 199 [(3, .int (nI (j))), (1, .long (mxs (fun j => tx j) j h0)), (0, .ref (ad 254))] [] M 0 0 P := by
  intro N
  induction N with
  | zero => intro j h1 h2; omega
  | succ N ih =>
    intro j h1 h2
    obtain ⟨hX, hS, hI, hT, ch, hTX⟩ := id hC
    replace hS : LabsAt ad M g sn kp dn n := hS
    replace hI : BI g dn n := hI
    replace hT : TextAt κ ad M tx ln := hT
    replace hTX : TX tx ln ch := hTX
    obtain ⟨π, hL⟩ := hS.main
    have hs6 := hS.s6
    obtain ⟨fD, hfD, hvD⟩ := hL.drs
    obtain ⟨fS, hfS, hvS⟩ := hL.sps
    obtain ⟨fN, hfN, hvN⟩ := hL.nds
    obtain ⟨fG, hfG, hvG⟩ := hL.dgs
    obtain ⟨fT, hfT, hvT⟩ := hL.sts
    have hdn := hL.dl
    have hn := hL.nl
    obtain ⟨pl, lt, sl, tk, jq, fc, fv, ht, hc, hcv, hp, hjq, hvv⟩ := id hT
    have hl60 := hTX.1
    refine r_iload_n dX8_digest_199 rfl ?_
    refine r_aload_n dX8_digest_200 rfl ?_
    refine r_get (k := 2) dX8_digest_201 hX rfl rfl (by decide) kX8_26F ?_
    refine r_get (k := 2) dX8_digest_204 ht rfl rfl (by decide) kX8_133F ?_
    refine r_icmp_geN (tgt := 231) dX8_digest_207 (by decide) (by omega) (by omega) (fun c1 => ?_) (fun c1 => ?_)
    · skip
      have ej : j = ln := by omega
      rw [ej]
      skip
      exact kk
    · skip
      refine r_lload_n dX8_digest_210 rfl ?_
      refine r_aload_n dX8_digest_211 rfl ?_
      refine r_get (k := 2) dX8_digest_212 hX rfl rfl (by decide) kX8_26F ?_
      refine r_get (k := 0) dX8_digest_215 ht rfl rfl (by decide) kX8_250F ?_
      refine r_iload_n dX8_digest_218 rfl ?_
      refine r_caldN dX8_digest_219 hc (by omega) (by decide) (hcv _ (by omega)) ?_
      refine r_i2l dX8_digest_220 ?_
      refine r_callS (As := [.long (mxs (fun j => tx j) j h0), .long (((tx (j))).toInt64)]) dX8_digest_221 tX8_mixed rfl oX8_mixed rfl kX8_230M sX8_mixed (by unfold fRoom; decide) (Nat.le_of_ble_eq_true rfl) rfl (bc' := 0) (bs' := 0) rfl rfl ?_
      show fR _ _ _ 224 _ (.long ((31 * (mxs (fun j => tx j) j h0) + ((tx (j))).toInt64)) :: _) _ _ _ _
      refine r_lstore_n (lv' := [(1, .long ((31 * (mxs (fun j => tx j) j h0) + ((tx (j))).toInt64))), (3, .int (nI (j))), (0, .ref (ad 254))]) dX8_digest_224 (by decide) rfl ?_
      refine r_iinc (v := (nI (j + 1))) (lv' := [(3, .int (nI (j + 1))), (1, .long ((31 * (mxs (fun j => tx j) j h0) + ((tx (j))).toInt64))), (0, .ref (ad 254))]) dX8_digest_225 rfl (nI_inc _) (by decide) rfl ?_
      refine r_goto (tgt := 199) dX8_digest_228 (by decide) ?_
      refine r_lv (lv' := [(3, .int (nI (j + 1))), (1, .long ((31 * (mxs (fun j => tx j) j h0) + ((tx (j))).toInt64))), (0, .ref (ad 254))]) (by simp) ?_
      exact ih (j + 1) (by omega) (by omega)
theorem lX8_dg6_0 {l : Launch} {κ : KP} {M : Mem} {ad : Nat → Nat} {g tx : Nat → Int32} {dn n sn ln : Nat} {kp : Bool} (hA : aInj ad) (hC : ClsAt κ ad M ⟨g, sn, kp, tx, ln⟩ dn n)  {P : FPost} {h0 : Int64} (kk : fR l κ mX8_digest 231 [(3, .int (nI (ln))), (1, .long (mxs (fun j => tx j) (ln) h0)), (0, .ref (ad 254))] [] M 0 0 P) : fR l κ mX8_digest 199 [(3, .int (nI (0))), (1, .long (h0)), (0, .ref (ad 254))] [] M 0 0 P := lX8_dg6 hA hC  kk (ln + 1) 0 (by omega) (by omega)
theorem tX8_digest {l : Launch} {κ : KP} {M : Mem} {ad : Nat → Nat} {g tx : Nat → Int32} {dn n sn ln : Nat} {kp : Bool} (hA : aInj ad) (hC : ClsAt κ ad M ⟨g, sn, kp, tx, ln⟩ dn n) : fM l κ mX8_digest [.ref (ad 254)] M (isR (some (.long (pDigest ⟨g, sn, kp, tx, ln⟩ dn n))) M) := by
  refine fM_of rfl (by decide +kernel) (Nat.le_of_ble_eq_true rfl) ?_
  obtain ⟨hX, hS, hI, hT, ch, hTX⟩ := id hC
  replace hS : LabsAt ad M g sn kp dn n := hS
  replace hI : BI g dn n := hI
  replace hT : TextAt κ ad M tx ln := hT
  replace hTX : TX tx ln ch := hTX
  obtain ⟨π, hL⟩ := hS.main
  have hs6 := hS.s6
  obtain ⟨fD, hfD, hvD⟩ := hL.drs
  obtain ⟨fS, hfS, hvS⟩ := hL.sps
  obtain ⟨fN, hfN, hvN⟩ := hL.nds
  obtain ⟨fG, hfG, hvG⟩ := hL.dgs
  obtain ⟨fT, hfT, hvT⟩ := hL.sts
  have hdn := hL.dl
  have hn := hL.nl
  obtain ⟨pl, lt, sl, tk, jq, fc, fv, ht, hc, hcv, hp, hjq, hvv⟩ := id hT
  have hl60 := hTX.1
  show fR l κ mX8_digest 0 [(0, .ref (ad 254))] [] M 0 0 _
  refine r_ldc2 dX8_digest_0 kX8_228K ?_
  refine r_lstore_n (lv' := [(1, .long (3767)), (0, .ref (ad 254))]) dX8_digest_3 (by decide) rfl ?_
  refine r_iconst (v := nI 0) dX8_digest_4 (by decide) ?_
  refine r_istore_n (lv' := [(3, .int (nI (0))), (1, .long (3767)), (0, .ref (ad 254))]) dX8_digest_5 (by decide) rfl ?_
  refine r_lv (lv' := [(3, .int (nI (0))), (1, .long (3767)), (0, .ref (ad 254))]) (by simp) ?_
  refine lX8_dg1_0 hA hC  (h0 := 3767) ?_
  refine r_iconst (v := nI 0) dX8_digest_49 (by decide) ?_
  refine r_istore_n (lv' := [(3, .int (nI (0))), (1, .long (mxs (fun w => pCounted g (nI sn) n dn w) 12 3767)), (0, .ref (ad 254))]) dX8_digest_50 (by decide) rfl ?_
  refine r_lv (lv' := [(3, .int (nI (0))), (1, .long (mxs (fun w => pCounted g (nI sn) n dn w) 12 3767)), (0, .ref (ad 254))]) (by simp) ?_
  refine lX8_dg2_0 hA hC  (h0 := mxs (fun w => pCounted g (nI sn) n dn w) 12 3767) ?_
  refine r_iconst (v := nI 0) dX8_digest_114 (by decide) ?_
  refine r_istore_n (lv' := [(3, .int (nI (0))), (1, .long (mxF (fun d => mxDrum g n d) dn (mxs (fun w => pCounted g (nI sn) n dn w) 12 3767))), (0, .ref (ad 254))]) dX8_digest_115 (by decide) rfl ?_
  refine r_lv (lv' := [(3, .int (nI (0))), (1, .long (mxF (fun d => mxDrum g n d) dn (mxs (fun w => pCounted g (nI sn) n dn w) 12 3767))), (0, .ref (ad 254))]) (by simp) ?_
  refine lX8_dg3_0 hA hC  (h0 := mxF (fun d => mxDrum g n d) dn (mxs (fun w => pCounted g (nI sn) n dn w) 12 3767)) ?_
  refine r_aload_n dX8_digest_140 rfl ?_
  refine r_lload_n dX8_digest_141 rfl ?_
  refine r_callV (As := [.long (mxF (fun k => mxSample g n k) n (mxF (fun d => mxDrum g n d) dn (mxs (fun w => pCounted g (nI sn) n dn w) 12 3767)))]) dX8_digest_142 (tX8_mixedWithTools hA hC) rfl hX rfl rfl oX8_mixedWithTools rfl kX8_238M nX8_mixedWithTools eX8_mixedWithTools (by unfold fRoom; decide) (Nat.le_of_ble_eq_true rfl) rfl (bc' := 0) (bs' := 0) rfl rfl ?_
  show fR _ _ _ 145 _ (.long ((mxB g n (mxF (fun k => mxSample g n k) n (mxF (fun d => mxDrum g n d) dn (mxs (fun w => pCounted g (nI sn) n dn w) 12 3767))))) :: _) _ _ _ _
  refine r_lstore_n (lv' := [(1, .long ((mxB g n (mxF (fun k => mxSample g n k) n (mxF (fun d => mxDrum g n d) dn (mxs (fun w => pCounted g (nI sn) n dn w) 12 3767)))))), (3, .int (nI (n))), (0, .ref (ad 254))]) dX8_digest_145 (by decide) rfl ?_
  refine r_lload_n dX8_digest_146 rfl ?_
  refine r_aload_n dX8_digest_147 rfl ?_
  refine r_get (k := 0) dX8_digest_148 hX rfl rfl (by decide) kX8_10F ?_
  refine r_get (k := 9) dX8_digest_151 hL.lab rfl rfl (by decide) kX8_168F ?_
  refine r_i2l dX8_digest_154 ?_
  refine r_callS (As := [.long ((mxB g n (mxF (fun k => mxSample g n k) n (mxF (fun d => mxDrum g n d) dn (mxs (fun w => pCounted g (nI sn) n dn w) 12 3767))))), .long (((g 8)).toInt64)]) dX8_digest_155 tX8_mixed rfl oX8_mixed rfl kX8_230M sX8_mixed (by unfold fRoom; decide) (Nat.le_of_ble_eq_true rfl) rfl (bc' := 0) (bs' := 0) rfl rfl ?_
  show fR _ _ _ 158 _ (.long ((31 * (mxB g n (mxF (fun k => mxSample g n k) n (mxF (fun d => mxDrum g n d) dn (mxs (fun w => pCounted g (nI sn) n dn w) 12 3767)))) + ((g 8)).toInt64)) :: _) _ _ _ _
  refine r_lstore_n (lv' := [(1, .long ((31 * (mxB g n (mxF (fun k => mxSample g n k) n (mxF (fun d => mxDrum g n d) dn (mxs (fun w => pCounted g (nI sn) n dn w) 12 3767)))) + ((g 8)).toInt64))), (3, .int (nI (n))), (0, .ref (ad 254))]) dX8_digest_158 (by decide) rfl ?_
  refine r_lload_n dX8_digest_159 rfl ?_
  refine r_aload_n dX8_digest_160 rfl ?_
  refine r_get (k := 0) dX8_digest_161 hX rfl rfl (by decide) kX8_10F ?_
  refine r_get (k := 10) dX8_digest_164 hL.lab rfl rfl (by decide) kX8_171F ?_
  refine r_i2l dX8_digest_167 ?_
  refine r_callS (As := [.long ((31 * (mxB g n (mxF (fun k => mxSample g n k) n (mxF (fun d => mxDrum g n d) dn (mxs (fun w => pCounted g (nI sn) n dn w) 12 3767)))) + ((g 8)).toInt64)), .long (((g 9)).toInt64)]) dX8_digest_168 tX8_mixed rfl oX8_mixed rfl kX8_230M sX8_mixed (by unfold fRoom; decide) (Nat.le_of_ble_eq_true rfl) rfl (bc' := 0) (bs' := 0) rfl rfl ?_
  show fR _ _ _ 171 _ (.long ((31 * (31 * (mxB g n (mxF (fun k => mxSample g n k) n (mxF (fun d => mxDrum g n d) dn (mxs (fun w => pCounted g (nI sn) n dn w) 12 3767)))) + ((g 8)).toInt64) + ((g 9)).toInt64)) :: _) _ _ _ _
  refine r_lstore_n (lv' := [(1, .long ((31 * (31 * (mxB g n (mxF (fun k => mxSample g n k) n (mxF (fun d => mxDrum g n d) dn (mxs (fun w => pCounted g (nI sn) n dn w) 12 3767)))) + ((g 8)).toInt64) + ((g 9)).toInt64))), (3, .int (nI (n))), (0, .ref (ad 254))]) dX8_digest_171 (by decide) rfl ?_
  refine r_lload_n dX8_digest_172 rfl ?_
  refine r_aload_n dX8_digest_173 rfl ?_
  refine r_callV (As := []) dX8_digest_174 (tX8_readShare hA hC) rfl hX rfl rfl oX8_readShare rfl kX8_242M nX8_readShare eX8_readShare (by unfold fRoom; decide) (Nat.le_of_ble_eq_true rfl) rfl (bc' := 0) (bs' := 0) rfl rfl ?_
  show fR _ _ _ 177 _ (.double ((shD (pPend g n) n)) :: _) _ _ _ _
  refine r_callS (As := [.double ((shD (pPend g n) n))]) dX8_digest_177 (tX8_bitsOf (shOk_at pPend_le (by omega)).2.2.2.2) rfl oX8_bitsOf rfl kX8_246M sX8_bitsOf (by unfold fRoom; decide) (Nat.le_of_ble_eq_true rfl) rfl (bc' := 0) (bs' := 0) rfl rfl ?_
  show fR _ _ _ 180 _ (.long ((bC (shD (pPend g n) n))) :: _) _ _ _ _
  refine r_callS (As := [.long ((31 * (31 * (mxB g n (mxF (fun k => mxSample g n k) n (mxF (fun d => mxDrum g n d) dn (mxs (fun w => pCounted g (nI sn) n dn w) 12 3767)))) + ((g 8)).toInt64) + ((g 9)).toInt64)), .long ((bC (shD (pPend g n) n)))]) dX8_digest_180 tX8_mixed rfl oX8_mixed rfl kX8_230M sX8_mixed (by unfold fRoom; decide) (Nat.le_of_ble_eq_true rfl) rfl (bc' := 0) (bs' := 0) rfl rfl ?_
  show fR _ _ _ 183 _ (.long ((31 * (31 * (31 * (mxB g n (mxF (fun k => mxSample g n k) n (mxF (fun d => mxDrum g n d) dn (mxs (fun w => pCounted g (nI sn) n dn w) 12 3767)))) + ((g 8)).toInt64) + ((g 9)).toInt64) + (bC (shD (pPend g n) n)))) :: _) _ _ _ _
  refine r_lstore_n (lv' := [(1, .long ((31 * (31 * (31 * (mxB g n (mxF (fun k => mxSample g n k) n (mxF (fun d => mxDrum g n d) dn (mxs (fun w => pCounted g (nI sn) n dn w) 12 3767)))) + ((g 8)).toInt64) + ((g 9)).toInt64) + (bC (shD (pPend g n) n))))), (3, .int (nI (n))), (0, .ref (ad 254))]) dX8_digest_183 (by decide) rfl ?_
  refine r_lload_n dX8_digest_184 rfl ?_
  refine r_aload_n dX8_digest_185 rfl ?_
  refine r_get (k := 2) dX8_digest_186 hX rfl rfl (by decide) kX8_26F ?_
  refine r_get (k := 2) dX8_digest_189 ht rfl rfl (by decide) kX8_133F ?_
  refine r_i2l dX8_digest_192 ?_
  refine r_callS (As := [.long ((31 * (31 * (31 * (mxB g n (mxF (fun k => mxSample g n k) n (mxF (fun d => mxDrum g n d) dn (mxs (fun w => pCounted g (nI sn) n dn w) 12 3767)))) + ((g 8)).toInt64) + ((g 9)).toInt64) + (bC (shD (pPend g n) n)))), .long (((nI (ln))).toInt64)]) dX8_digest_193 tX8_mixed rfl oX8_mixed rfl kX8_230M sX8_mixed (by unfold fRoom; decide) (Nat.le_of_ble_eq_true rfl) rfl (bc' := 0) (bs' := 0) rfl rfl ?_
  show fR _ _ _ 196 _ (.long ((31 * (31 * (31 * (31 * (mxB g n (mxF (fun k => mxSample g n k) n (mxF (fun d => mxDrum g n d) dn (mxs (fun w => pCounted g (nI sn) n dn w) 12 3767)))) + ((g 8)).toInt64) + ((g 9)).toInt64) + (bC (shD (pPend g n) n))) + ((nI (ln))).toInt64)) :: _) _ _ _ _
  refine r_lstore_n (lv' := [(1, .long ((31 * (31 * (31 * (31 * (mxB g n (mxF (fun k => mxSample g n k) n (mxF (fun d => mxDrum g n d) dn (mxs (fun w => pCounted g (nI sn) n dn w) 12 3767)))) + ((g 8)).toInt64) + ((g 9)).toInt64) + (bC (shD (pPend g n) n))) + ((nI (ln))).toInt64))), (3, .int (nI (n))), (0, .ref (ad 254))]) dX8_digest_196 (by decide) rfl ?_
  refine r_iconst (v := nI 0) dX8_digest_197 (by decide) ?_
  refine r_istore_n (lv' := [(3, .int (nI (0))), (1, .long ((31 * (31 * (31 * (31 * (mxB g n (mxF (fun k => mxSample g n k) n (mxF (fun d => mxDrum g n d) dn (mxs (fun w => pCounted g (nI sn) n dn w) 12 3767)))) + ((g 8)).toInt64) + ((g 9)).toInt64) + (bC (shD (pPend g n) n))) + ((nI (ln))).toInt64))), (0, .ref (ad 254))]) dX8_digest_198 (by decide) rfl ?_
  refine r_lv (lv' := [(3, .int (nI (0))), (1, .long ((31 * (31 * (31 * (31 * (mxB g n (mxF (fun k => mxSample g n k) n (mxF (fun d => mxDrum g n d) dn (mxs (fun w => pCounted g (nI sn) n dn w) 12 3767)))) + ((g 8)).toInt64) + ((g 9)).toInt64) + (bC (shD (pPend g n) n))) + ((nI (ln))).toInt64))), (0, .ref (ad 254))]) (by simp) ?_
  refine lX8_dg6_0 hA hC  (h0 := (31 * (31 * (31 * (31 * (mxB g n (mxF (fun k => mxSample g n k) n (mxF (fun d => mxDrum g n d) dn (mxs (fun w => pCounted g (nI sn) n dn w) 12 3767)))) + ((g 8)).toInt64) + ((g 9)).toInt64) + (bC (shD (pPend g n) n))) + ((nI (ln))).toInt64)) ?_
  refine r_lload_n dX8_digest_231 rfl ?_
  have eP : pDigest ⟨g, sn, kp, tx, ln⟩ dn n = mxs (fun j => tx j) ln (31 * (31 * (31 * (31 * (mxB g n (mxF (fun k => mxSample g n k) n (mxF (fun d => mxDrum g n d) dn (mxs (fun w => pCounted g (nI sn) n dn w) 12 3767)))) + ((g 8)).toInt64) + ((g 9)).toInt64) + (bC (shD (pPend g n) n))) + ((nI (ln))).toInt64) := by unfold pDigest mxC mxA; rw [← (shOk_at (pPend_le (g := g)) (show n ≤ 8 by omega)).2.1]; simp only [mx]
  rw [eP]
  exact fR_lret dX8_digest_232 rfl isR_of
