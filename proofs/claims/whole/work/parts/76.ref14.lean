/-! THE DIGEST: the reference's -/
def mx (h : Int64) (v : Int32) : Int64 := 31 * h + v.toInt64
def mxs (f : Nat → Int32) : Nat → Int64 → Int64
  | 0, h => h
  | k + 1, h => mx (mxs f k h) (f k)
def mxF (F : Nat → Int64 → Int64) : Nat → Int64 → Int64
  | 0, h => h
  | k + 1, h => F k (mxF F k h)
def mxDrum (g : Nat → Int32) (n d : Nat) (h : Int64) : Int64 := mx (mxs (fun w => pOfDrum g n d w) 9 h) (pWhyS g n d)
def mxSample (g : Nat → Int32) (n k : Nat) (h : Int64) : Int64 := mxs (fun i => pWhyNot g i k) 3 (mx (mx (mxs (fun j => pOf g k (6 + j)) (4 * pMany g k) (mxs (fun w => pOfSample g k w) 9 h)) (pReadyNow g k)) (pBF g n k 3))
def mxA (g : Nat → Int32) (sn dn n : Nat) : Int64 := mxF (fun k => mxSample g n k) n (mxF (fun d => mxDrum g n d) dn (mxs (fun w => pCounted g (nI sn) n dn w) 12 3767))
def mxB (g : Nat → Int32) (n : Nat) (h : Int64) : Int64 := mxs (fun j => pOfBath g n (j / 3) (j % 3)) 9 (mxs (fun j => g (31 + j)) 9 h)
def mxC (g tx : Nat → Int32) (n ln : Nat) (b h : Int64) : Int64 := mxs (fun j => tx j) ln (mx (31 * (mx (mx h (g 8)) (g 9)) + b) (nI ln))
def pDigest (z : Zs) (dn n : Nat) : Int64 := mxC z.1 z.2.2.2.1 n z.2.2.2.2 (bR (shD (pPend z.1 n) n)) (mxB z.1 n (mxA z.1 z.2.1 dn n))
theorem nI_mod3 {j : Nat} (h : j < 9) : nI j - nI j / nI 3 * nI 3 = nI (j % 3) := by
  have : ∀ q : Fin 9, nI q.val - nI q.val / nI 3 * nI 3 = nI (q.val % 3) := by decide
  exact this ⟨j, h⟩
theorem pPend_le {g : Nat → Int32} {n : Nat} : pPend g n ≤ n := pCnt_le _ n
theorem tX9_mix {l : Launch} {κ : KP} {M : Mem} {m sA tA nA : Nat} {th sv kp ln ap pt : Int32} {hs : Int64} {g tx nu : Nat → Int32} (hD : rDis m sA tA nA) {x : Int64} : fM l κ mX9_mix [.ref (m), .long (x)] (RM M m sA tA nA (th) (sv) (kp) (ln) (ap) (pt) (hs) (g) (tx) (nu)) (isR none (RM M m sA tA nA (th) (sv) (kp) (ln) (ap) (pt) (31 * hs + x) (g) (tx) (nu))) := by
  refine fM_of rfl (by decide +kernel) (Nat.le_of_ble_eq_true rfl) ?_
  show fR l κ mX9_mix 0 [(0, .ref (m)), (1, .long (x))] [] (RM M m sA tA nA (th) (sv) (kp) (ln) (ap) (pt) (hs) (g) (tx) (nu)) 0 0 _
  refine r_aload_n dX9_mix_0 rfl ?_
  refine r_ldc2 dX9_mix_1 kX9_214K ?_
  refine r_aload_n dX9_mix_4 rfl ?_
  refine r_get (k := 9) dX9_mix_5 RM_0 rfl rfl (by decide) kX9_216F ?_
  refine r_lmul dX9_mix_8 ?_
  refine r_lload_n dX9_mix_9 rfl ?_
  refine r_ladd dX9_mix_10 ?_
  refine r_put (k := 9) (fs' := [.int (th), .ref (sA), .int (sv), .int (kp), .ref (tA), .int (ln), .int (ap), .int (pt), .ref (nA), .long (((31 * hs) + x))]) dX9_mix_11 RM_0 rfl (by decide) kX9_216F rfl rfl rfl (Nat.le_of_ble_eq_true rfl) rfl ?_
  refine r_mem RM_put ?_
  exact fR_vret dX9_mix_14 rfl isR_of
theorem lX9_dg1 {l : Launch} {κ : KP} {M : Mem} {m sA tA nA : Nat} {th sv kp ln ap pt : Int32} {g tx nu : Nat → Int32} (hD : rDis m sA tA nA) {n dn : Nat} (hI : BI g dn n) {P : FPost} {h0 : Int64} (kk : fR l κ mX9_digest 36 [(1, .int (nI (12))), (0, .ref (m))] [] (RM M m sA tA nA (th) (sv) (kp) (ln) (ap) (pt) (mxs (fun w => pCounted g sv n dn w) (12) h0) (g) (tx) (nu)) 0 0 P) : ∀ (N j : Nat), 12 < N + j → j ≤ 12 → fR l κ mX9_digest 14 [(1, .int (nI (j))), (0, .ref (m))] [] (RM M m sA tA nA (th) (sv) (kp) (ln) (ap) (pt) (mxs (fun w => pCounted g sv n dn w) j h0) (g) (tx) (nu)) 0 0 P := by
  intro N
  induction N with
  | zero => intro j h1 h2; omega
  | succ N ih =>
    intro j h1 h2
    have hn := hI.nle
    have hg := hI.n0
    have hdn := hI.dle
    have hg0 := hI.d0
    have hM := hI.mM
    have hB := hI.mB
    have hs0 := hI.s0
    refine r_iload_n dX9_digest_14 rfl ?_
    refine r_bipush (v := nI 12) dX9_digest_15 (by decide) ?_
    refine r_icmp_geN (tgt := 36) dX9_digest_17 (by decide) (by omega) (by omega) (fun c1 => ?_) (fun c1 => ?_)
    · skip
      have ej : j = 12 := by omega
      rw [ej]
      exact kk
    · skip
      refine r_aload_n dX9_digest_20 rfl ?_
      refine r_aload_n dX9_digest_21 rfl ?_
      refine r_iload_n dX9_digest_22 rfl ?_
      refine r_callV (As := [.int (nI (j))]) dX9_digest_23 (tX9_counted hD hn hg hM hdn hg0 (by omega)) rfl RM_0 rfl rfl oX9_counted rfl kX9_198M nX9_counted eX9_counted (by unfold fRoom; decide) (Nat.le_of_ble_eq_true rfl) rfl (bc' := 0) (bs' := 0) rfl rfl ?_
      show fR _ _ _ 26 _ (.int (pCounted (g) sv n dn (j)) :: _) _ _ _ _
      refine r_i2l dX9_digest_26 ?_
      refine r_callV (As := [.long (((pCounted (g) sv n dn (j))).toInt64)]) dX9_digest_27 (tX9_mix hD) rfl RM_0 rfl rfl oX9_mix rfl kX9_228M nX9_mix eX9_mix (by unfold fRoom; decide) (Nat.le_of_ble_eq_true rfl) rfl (bc' := 0) (bs' := 0) rfl rfl ?_
      show fR _ _ _ 30 _ _ _ _ _ _
      refine r_iinc (v := (nI (j + 1))) (lv' := [(1, .int (nI (j + 1))), (0, .ref (m))]) dX9_digest_30 rfl (nI_inc _) (by decide) rfl ?_
      refine r_goto (tgt := 14) dX9_digest_33 (by decide) ?_
      refine r_lv (lv' := [(1, .int (nI (j + 1))), (0, .ref (m))]) (by simp) ?_
      exact ih (j + 1) (by omega) (by omega)
theorem lX9_dg1_0 {l : Launch} {κ : KP} {M : Mem} {m sA tA nA : Nat} {th sv kp ln ap pt : Int32} {g tx nu : Nat → Int32} (hD : rDis m sA tA nA) {n dn : Nat} (hI : BI g dn n) {P : FPost} {h0 : Int64} (kk : fR l κ mX9_digest 36 [(1, .int (nI (12))), (0, .ref (m))] [] (RM M m sA tA nA (th) (sv) (kp) (ln) (ap) (pt) (mxs (fun w => pCounted g sv n dn w) (12) h0) (g) (tx) (nu)) 0 0 P) : fR l κ mX9_digest 14 [(1, .int (nI (0))), (0, .ref (m))] [] (RM M m sA tA nA (th) (sv) (kp) (ln) (ap) (pt) (h0) (g) (tx) (nu)) 0 0 P := lX9_dg1 hD hI kk (12 + 1) 0 (by omega) (by omega)
theorem lX9_dg2i {l : Launch} {κ : KP} {M : Mem} {m sA tA nA : Nat} {th sv kp ln ap pt : Int32} {g tx nu : Nat → Int32} (hD : rDis m sA tA nA) {n dn : Nat} (hI : BI g dn n) {d : Nat} (hd : d < dn) {P : FPost} {h0 : Int64} (kk : fR l κ mX9_digest 73 [(2, .int (nI (9))), (1, .int (nI (d))), (0, .ref (m))] [] (RM M m sA tA nA (th) (sv) (kp) (ln) (ap) (pt) (mxs (fun w => pOfDrum g n d w) (9) h0) (g) (tx) (nu)) 0 0 P) : ∀ (N w : Nat), 9 < N + w → w ≤ 9 → fR l κ mX9_digest 50 [(2, .int (nI (w))), (1, .int (nI (d))), (0, .ref (m))] [] (RM M m sA tA nA (th) (sv) (kp) (ln) (ap) (pt) (mxs (fun w => pOfDrum g n d w) w h0) (g) (tx) (nu)) 0 0 P := by
  intro N
  induction N with
  | zero => intro w h1 h2; omega
  | succ N ih =>
    intro w h1 h2
    have hn := hI.nle
    have hg := hI.n0
    have hdn := hI.dle
    have hg0 := hI.d0
    have hM := hI.mM
    have hB := hI.mB
    have hs0 := hI.s0
    refine r_iload_n dX9_digest_50 rfl ?_
    refine r_bipush (v := nI 9) dX9_digest_51 (by decide) ?_
    refine r_icmp_geN (tgt := 73) dX9_digest_53 (by decide) (by omega) (by omega) (fun c1 => ?_) (fun c1 => ?_)
    · skip
      have ej : w = 9 := by omega
      rw [ej]
      exact kk
    · skip
      refine r_aload_n dX9_digest_56 rfl ?_
      refine r_aload_n dX9_digest_57 rfl ?_
      refine r_iload_n dX9_digest_58 rfl ?_
      refine r_iload_n dX9_digest_59 rfl ?_
      refine r_callV (As := [.int (nI (d)), .int (nI (w))]) dX9_digest_60 (tX9_ofDrum hD hn hg hM (by omega) (hs0 _ (by omega)) (by omega)) rfl RM_0 rfl rfl oX9_ofDrum rfl kX9_180M nX9_ofDrum eX9_ofDrum (by unfold fRoom; decide) (Nat.le_of_ble_eq_true rfl) rfl (bc' := 0) (bs' := 0) rfl rfl ?_
      show fR _ _ _ 63 _ (.int (pOfDrum (g) n (d) (w)) :: _) _ _ _ _
      refine r_i2l dX9_digest_63 ?_
      refine r_callV (As := [.long (((pOfDrum (g) n (d) (w))).toInt64)]) dX9_digest_64 (tX9_mix hD) rfl RM_0 rfl rfl oX9_mix rfl kX9_228M nX9_mix eX9_mix (by unfold fRoom; decide) (Nat.le_of_ble_eq_true rfl) rfl (bc' := 0) (bs' := 0) rfl rfl ?_
      show fR _ _ _ 67 _ _ _ _ _ _
      refine r_iinc (v := (nI (w + 1))) (lv' := [(2, .int (nI (w + 1))), (1, .int (nI (d))), (0, .ref (m))]) dX9_digest_67 rfl (nI_inc _) (by decide) rfl ?_
      refine r_goto (tgt := 50) dX9_digest_70 (by decide) ?_
      refine r_lv (lv' := [(2, .int (nI (w + 1))), (1, .int (nI (d))), (0, .ref (m))]) (by simp) ?_
      exact ih (w + 1) (by omega) (by omega)
theorem lX9_dg2i_0 {l : Launch} {κ : KP} {M : Mem} {m sA tA nA : Nat} {th sv kp ln ap pt : Int32} {g tx nu : Nat → Int32} (hD : rDis m sA tA nA) {n dn : Nat} (hI : BI g dn n) {d : Nat} (hd : d < dn) {P : FPost} {h0 : Int64} (kk : fR l κ mX9_digest 73 [(2, .int (nI (9))), (1, .int (nI (d))), (0, .ref (m))] [] (RM M m sA tA nA (th) (sv) (kp) (ln) (ap) (pt) (mxs (fun w => pOfDrum g n d w) (9) h0) (g) (tx) (nu)) 0 0 P) : fR l κ mX9_digest 50 [(2, .int (nI (0))), (1, .int (nI (d))), (0, .ref (m))] [] (RM M m sA tA nA (th) (sv) (kp) (ln) (ap) (pt) (h0) (g) (tx) (nu)) 0 0 P := lX9_dg2i hD hI hd kk (9 + 1) 0 (by omega) (by omega)
theorem lX9_dg2 {l : Launch} {κ : KP} {M : Mem} {m sA tA nA : Nat} {th sv kp ln ap pt : Int32} {g tx nu : Nat → Int32} (hD : rDis m sA tA nA) {n dn : Nat} (hI : BI g dn n) {P : FPost} {h0 : Int64} (kk : fR l κ mX9_digest 89 [(1, .int (nI (dn))), (0, .ref (m))] [] (RM M m sA tA nA (th) (sv) (kp) (ln) (ap) (pt) (mxF (fun d => mxDrum g n d) (dn) h0) (g) (tx) (nu)) 0 0 P) : ∀ (N d : Nat), dn < N + d → d ≤ dn → fR l κ mX9_digest 38 [(1, .int (nI (d))), (0, .ref (m))] [] (RM M m sA tA nA (th) (sv) (kp) (ln) (ap) (pt) (mxF (fun d => mxDrum g n d) d h0) (g) (tx) (nu)) 0 0 P := by
  intro N
  induction N with
  | zero => intro d h1 h2; omega
  | succ N ih =>
    intro d h1 h2
    have hn := hI.nle
    have hg := hI.n0
    have hdn := hI.dle
    have hg0 := hI.d0
    have hM := hI.mM
    have hB := hI.mB
    have hs0 := hI.s0
    refine r_iload_n dX9_digest_38 rfl ?_
    refine r_aload_n dX9_digest_39 rfl ?_
    refine r_get (k := 1) dX9_digest_40 RM_0 rfl rfl (by decide) kX9_7F ?_
    refine r_iconst (v := nI 0) dX9_digest_43 (by decide) ?_
    refine r_ialdN dX9_digest_44 (RM_1 hD) (by omega) (by decide) rfl ?_
    refine r_top (y := (nI (dn))) hg0 ?_
    refine r_icmp_geN (tgt := 89) dX9_digest_45 (by decide) (by omega) (by omega) (fun c1 => ?_) (fun c1 => ?_)
    · skip
      have ej : d = dn := by omega
      rw [ej]
      exact kk
    · skip
      refine r_iconst (v := nI 0) dX9_digest_48 (by decide) ?_
      refine r_istore_n (lv' := [(2, .int (nI (0))), (1, .int (nI (d))), (0, .ref (m))]) dX9_digest_49 (by decide) rfl ?_
      refine r_lv (lv' := [(2, .int (nI 0)), (1, .int (nI d)), (0, .ref m)]) (by simp) ?_
      refine lX9_dg2i_0 hD hI (by omega) (h0 := mxF (fun d => mxDrum g n d) d h0) ?_
      refine r_aload_n dX9_digest_73 rfl ?_
      refine r_aload_n dX9_digest_74 rfl ?_
      refine r_iload_n dX9_digest_75 rfl ?_
      refine r_callV (As := [.int (nI (d))]) dX9_digest_76 (tX9_whyNotSold hD hn hg hM (by omega)) rfl RM_0 rfl rfl oX9_whyNotSold rfl kX9_129M nX9_whyNotSold eX9_whyNotSold (by unfold fRoom; decide) (Nat.le_of_ble_eq_true rfl) rfl (bc' := 0) (bs' := 0) rfl rfl ?_
      show fR _ _ _ 79 _ (.int (pWhyS (g) n (d)) :: _) _ _ _ _
      refine r_i2l dX9_digest_79 ?_
      refine r_callV (As := [.long (((pWhyS (g) n (d))).toInt64)]) dX9_digest_80 (tX9_mix hD) rfl RM_0 rfl rfl oX9_mix rfl kX9_228M nX9_mix eX9_mix (by unfold fRoom; decide) (Nat.le_of_ble_eq_true rfl) rfl (bc' := 0) (bs' := 0) rfl rfl ?_
      show fR _ _ _ 83 _ _ _ _ _ _
      refine r_iinc (v := (nI (d + 1))) (lv' := [(1, .int (nI (d + 1))), (2, .int (nI (9))), (0, .ref (m))]) dX9_digest_83 rfl (nI_inc _) (by decide) rfl ?_
      refine r_goto (tgt := 38) dX9_digest_86 (by decide) ?_
      refine r_lv (lv' := [(1, .int (nI (d + 1))), (0, .ref (m))]) (by simp) ?_
      exact ih (d + 1) (by omega) (by omega)
theorem lX9_dg2_0 {l : Launch} {κ : KP} {M : Mem} {m sA tA nA : Nat} {th sv kp ln ap pt : Int32} {g tx nu : Nat → Int32} (hD : rDis m sA tA nA) {n dn : Nat} (hI : BI g dn n) {P : FPost} {h0 : Int64} (kk : fR l κ mX9_digest 89 [(1, .int (nI (dn))), (0, .ref (m))] [] (RM M m sA tA nA (th) (sv) (kp) (ln) (ap) (pt) (mxF (fun d => mxDrum g n d) (dn) h0) (g) (tx) (nu)) 0 0 P) : fR l κ mX9_digest 38 [(1, .int (nI (0))), (0, .ref (m))] [] (RM M m sA tA nA (th) (sv) (kp) (ln) (ap) (pt) (h0) (g) (tx) (nu)) 0 0 P := lX9_dg2 hD hI kk (dn + 1) 0 (by omega) (by omega)
theorem lX9_ms1 {l : Launch} {κ : KP} {M : Mem} {m sA tA nA : Nat} {th sv kp ln ap pt : Int32} {g tx nu : Nat → Int32} (hD : rDis m sA tA nA) {n dn : Nat} (hI : BI g dn n) {k : Nat} (hk : k < n) {P : FPost} {h0 : Int64} (kk : fR l κ mX9_mixSample 25 [(2, .int (nI (9))), (0, .ref (m)), (1, .int (nI (k)))] [] (RM M m sA tA nA (th) (sv) (kp) (ln) (ap) (pt) (mxs (fun w => pOfSample g k w) (9) h0) (g) (tx) (nu)) 0 0 P) : ∀ (N w : Nat), 9 < N + w → w ≤ 9 → fR l κ mX9_mixSample 2 [(2, .int (nI (w))), (0, .ref (m)), (1, .int (nI (k)))] [] (RM M m sA tA nA (th) (sv) (kp) (ln) (ap) (pt) (mxs (fun w => pOfSample g k w) w h0) (g) (tx) (nu)) 0 0 P := by
  intro N
  induction N with
  | zero => intro w h1 h2; omega
  | succ N ih =>
    intro w h1 h2
    have hn := hI.nle
    have hg := hI.n0
    have hdn := hI.dle
    have hg0 := hI.d0
    have hM := hI.mM
    have hB := hI.mB
    have hs0 := hI.s0
    refine r_iload_n dX9_mixSample_2 rfl ?_
    refine r_bipush (v := nI 9) dX9_mixSample_3 (by decide) ?_
    refine r_icmp_geN (tgt := 25) dX9_mixSample_5 (by decide) (by omega) (by omega) (fun c1 => ?_) (fun c1 => ?_)
    · skip
      have ej : w = 9 := by omega
      rw [ej]
      exact kk
    · skip
      refine r_aload_n dX9_mixSample_8 rfl ?_
      refine r_aload_n dX9_mixSample_9 rfl ?_
      refine r_iload_n dX9_mixSample_10 rfl ?_
      refine r_iload_n dX9_mixSample_11 rfl ?_
      refine r_callV (As := [.int (nI (k)), .int (nI (w))]) dX9_mixSample_12 (tX9_ofSample hD (by omega) (hM _ (by omega)).1 (hM _ (by omega)).2 (by omega)) rfl RM_0 rfl rfl oX9_ofSample rfl kX9_183M nX9_ofSample eX9_ofSample (by unfold fRoom; decide) (Nat.le_of_ble_eq_true rfl) rfl (bc' := 0) (bs' := 0) rfl rfl ?_
      show fR _ _ _ 15 _ (.int (pOfSample (g) (k) (w)) :: _) _ _ _ _
      refine r_i2l dX9_mixSample_15 ?_
      refine r_callV (As := [.long (((pOfSample (g) (k) (w))).toInt64)]) dX9_mixSample_16 (tX9_mix hD) rfl RM_0 rfl rfl oX9_mix rfl kX9_228M nX9_mix eX9_mix (by unfold fRoom; decide) (Nat.le_of_ble_eq_true rfl) rfl (bc' := 0) (bs' := 0) rfl rfl ?_
      show fR _ _ _ 19 _ _ _ _ _ _
      refine r_iinc (v := (nI (w + 1))) (lv' := [(2, .int (nI (w + 1))), (0, .ref (m)), (1, .int (nI (k)))]) dX9_mixSample_19 rfl (nI_inc _) (by decide) rfl ?_
      refine r_goto (tgt := 2) dX9_mixSample_22 (by decide) ?_
      refine r_lv (lv' := [(2, .int (nI (w + 1))), (0, .ref (m)), (1, .int (nI (k)))]) (by simp) ?_
      exact ih (w + 1) (by omega) (by omega)
theorem lX9_ms1_0 {l : Launch} {κ : KP} {M : Mem} {m sA tA nA : Nat} {th sv kp ln ap pt : Int32} {g tx nu : Nat → Int32} (hD : rDis m sA tA nA) {n dn : Nat} (hI : BI g dn n) {k : Nat} (hk : k < n) {P : FPost} {h0 : Int64} (kk : fR l κ mX9_mixSample 25 [(2, .int (nI (9))), (0, .ref (m)), (1, .int (nI (k)))] [] (RM M m sA tA nA (th) (sv) (kp) (ln) (ap) (pt) (mxs (fun w => pOfSample g k w) (9) h0) (g) (tx) (nu)) 0 0 P) : fR l κ mX9_mixSample 2 [(2, .int (nI (0))), (0, .ref (m)), (1, .int (nI (k)))] [] (RM M m sA tA nA (th) (sv) (kp) (ln) (ap) (pt) (h0) (g) (tx) (nu)) 0 0 P := lX9_ms1 hD hI hk kk (9 + 1) 0 (by omega) (by omega)
theorem lX9_ms2 {l : Launch} {κ : KP} {M : Mem} {m sA tA nA : Nat} {th sv kp ln ap pt : Int32} {g tx nu : Nat → Int32} (hD : rDis m sA tA nA) {n dn : Nat} (hI : BI g dn n) {k : Nat} (hk : k < n) {P : FPost} {h0 : Int64} (kk : fR l κ mX9_mixSample 59 [(2, .int (nI ((4 * pMany g k)))), (0, .ref (m)), (1, .int (nI (k)))] [] (RM M m sA tA nA (th) (sv) (kp) (ln) (ap) (pt) (mxs (fun j => pOf g k (6 + j)) ((4 * pMany g k)) h0) (g) (tx) (nu)) 0 0 P) : ∀ (N j : Nat), (4 * pMany g k) < N + j → j ≤ (4 * pMany g k) → fR l κ mX9_mixSample 27 [(2, .int (nI (j))), (0, .ref (m)), (1, .int (nI (k)))] [] (RM M m sA tA nA (th) (sv) (kp) (ln) (ap) (pt) (mxs (fun j => pOf g k (6 + j)) j h0) (g) (tx) (nu)) 0 0 P := by
  intro N
  induction N with
  | zero => intro j h1 h2; omega
  | succ N ih =>
    intro j h1 h2
    have hn := hI.nle
    have hg := hI.n0
    have hdn := hI.dle
    have hg0 := hI.d0
    have hM := hI.mM
    have hB := hI.mB
    have hs0 := hI.s0
    have hm9 := (hM k hk).2
    refine r_iload_n dX9_mixSample_27 rfl ?_
    refine r_iconst (v := nI 4) dX9_mixSample_28 (by decide) ?_
    refine r_aload_n dX9_mixSample_29 rfl ?_
    refine r_iload_n dX9_mixSample_30 rfl ?_
    refine r_iconst (v := nI 5) dX9_mixSample_31 (by decide) ?_
    refine r_callV (As := [.int (nI (k)), .int (nI (5))]) dX9_mixSample_32 (tX9_of hD (by omega)) rfl RM_0 rfl rfl oX9_of rfl kX9_31M nX9_of eX9_of (by unfold fRoom; decide) (Nat.le_of_ble_eq_true rfl) rfl (bc' := 0) (bs' := 0) rfl rfl ?_
    show fR _ _ _ 35 _ (.int (pOf (g) (k) (5)) :: _) _ _ _ _
    refine r_top (y := (nI (pMany g k))) (hM k hk).1 ?_
    refine r_imulN dX9_mixSample_35 ?_
    refine r_icmp_geN (tgt := 59) dX9_mixSample_36 (by decide) (by omega) (by omega) (fun c1 => ?_) (fun c1 => ?_)
    · skip
      have ej : j = (4 * pMany g k) := by omega
      rw [ej]
      exact kk
    · skip
      refine r_aload_n dX9_mixSample_39 rfl ?_
      refine r_aload_n dX9_mixSample_40 rfl ?_
      refine r_iload_n dX9_mixSample_41 rfl ?_
      refine r_bipush (v := nI 6) dX9_mixSample_42 (by decide) ?_
      refine r_iload_n dX9_mixSample_44 rfl ?_
      refine r_iaddN dX9_mixSample_45 ?_
      refine r_callV (As := [.int (nI (k)), .int (nI ((6 + j)))]) dX9_mixSample_46 (tX9_of hD (by omega)) rfl RM_0 rfl rfl oX9_of rfl kX9_31M nX9_of eX9_of (by unfold fRoom; decide) (Nat.le_of_ble_eq_true rfl) rfl (bc' := 0) (bs' := 0) rfl rfl ?_
      show fR _ _ _ 49 _ (.int (pOf (g) (k) ((6 + j))) :: _) _ _ _ _
      refine r_i2l dX9_mixSample_49 ?_
      refine r_callV (As := [.long (((pOf (g) (k) ((6 + j)))).toInt64)]) dX9_mixSample_50 (tX9_mix hD) rfl RM_0 rfl rfl oX9_mix rfl kX9_228M nX9_mix eX9_mix (by unfold fRoom; decide) (Nat.le_of_ble_eq_true rfl) rfl (bc' := 0) (bs' := 0) rfl rfl ?_
      show fR _ _ _ 53 _ _ _ _ _ _
      refine r_iinc (v := (nI (j + 1))) (lv' := [(2, .int (nI (j + 1))), (0, .ref (m)), (1, .int (nI (k)))]) dX9_mixSample_53 rfl (nI_inc _) (by decide) rfl ?_
      refine r_goto (tgt := 27) dX9_mixSample_56 (by decide) ?_
      refine r_lv (lv' := [(2, .int (nI (j + 1))), (0, .ref (m)), (1, .int (nI (k)))]) (by simp) ?_
      exact ih (j + 1) (by omega) (by omega)
theorem lX9_ms2_0 {l : Launch} {κ : KP} {M : Mem} {m sA tA nA : Nat} {th sv kp ln ap pt : Int32} {g tx nu : Nat → Int32} (hD : rDis m sA tA nA) {n dn : Nat} (hI : BI g dn n) {k : Nat} (hk : k < n) {P : FPost} {h0 : Int64} (kk : fR l κ mX9_mixSample 59 [(2, .int (nI ((4 * pMany g k)))), (0, .ref (m)), (1, .int (nI (k)))] [] (RM M m sA tA nA (th) (sv) (kp) (ln) (ap) (pt) (mxs (fun j => pOf g k (6 + j)) ((4 * pMany g k)) h0) (g) (tx) (nu)) 0 0 P) : fR l κ mX9_mixSample 27 [(2, .int (nI (0))), (0, .ref (m)), (1, .int (nI (k)))] [] (RM M m sA tA nA (th) (sv) (kp) (ln) (ap) (pt) (h0) (g) (tx) (nu)) 0 0 P := lX9_ms2 hD hI hk kk ((4 * pMany g k) + 1) 0 (by omega) (by omega)
theorem lX9_ms3 {l : Launch} {κ : KP} {M : Mem} {m sA tA nA : Nat} {th sv kp ln ap pt : Int32} {g tx nu : Nat → Int32} (hD : rDis m sA tA nA) {n dn : Nat} (hI : BI g dn n) {k : Nat} (hk : k < n) {P : FPost} {h0 : Int64} (kk : fR l κ mX9_mixSample 103 [(2, .int (nI (3))), (0, .ref (m)), (1, .int (nI (k)))] [] (RM M m sA tA nA (th) (sv) (kp) (ln) (ap) (pt) (mxs (fun i => pWhyNot g i k) (3) h0) (g) (tx) (nu)) 0 0 P) : ∀ (N i : Nat), 3 < N + i → i ≤ 3 → fR l κ mX9_mixSample 81 [(2, .int (nI (i))), (0, .ref (m)), (1, .int (nI (k)))] [] (RM M m sA tA nA (th) (sv) (kp) (ln) (ap) (pt) (mxs (fun i => pWhyNot g i k) i h0) (g) (tx) (nu)) 0 0 P := by
  intro N
  induction N with
  | zero => intro i h1 h2; omega
  | succ N ih =>
    intro i h1 h2
    have hn := hI.nle
    have hg := hI.n0
    have hdn := hI.dle
    have hg0 := hI.d0
    have hM := hI.mM
    have hB := hI.mB
    have hs0 := hI.s0
    refine r_iload_n dX9_mixSample_81 rfl ?_
    refine r_iconst (v := nI 3) dX9_mixSample_82 (by decide) ?_
    refine r_icmp_geN (tgt := 103) dX9_mixSample_83 (by decide) (by omega) (by omega) (fun c1 => ?_) (fun c1 => ?_)
    · skip
      have ej : i = 3 := by omega
      rw [ej]
      exact kk
    · skip
      refine r_aload_n dX9_mixSample_86 rfl ?_
      refine r_aload_n dX9_mixSample_87 rfl ?_
      refine r_iload_n dX9_mixSample_88 rfl ?_
      refine r_iload_n dX9_mixSample_89 rfl ?_
      refine r_callV (As := [.int (nI (i)), .int (nI (k))]) dX9_mixSample_90 (tX9_whyNot hD (by omega) (by omega) (hM _ (by omega)).1 (hM _ (by omega)).2 (hB _ (by omega))) rfl RM_0 rfl rfl oX9_whyNot rfl kX9_120M nX9_whyNot eX9_whyNot (by unfold fRoom; decide) (Nat.le_of_ble_eq_true rfl) rfl (bc' := 0) (bs' := 0) rfl rfl ?_
      show fR _ _ _ 93 _ (.int (pWhyNot (g) (i) (k)) :: _) _ _ _ _
      refine r_i2l dX9_mixSample_93 ?_
      refine r_callV (As := [.long (((pWhyNot (g) (i) (k))).toInt64)]) dX9_mixSample_94 (tX9_mix hD) rfl RM_0 rfl rfl oX9_mix rfl kX9_228M nX9_mix eX9_mix (by unfold fRoom; decide) (Nat.le_of_ble_eq_true rfl) rfl (bc' := 0) (bs' := 0) rfl rfl ?_
      show fR _ _ _ 97 _ _ _ _ _ _
      refine r_iinc (v := (nI (i + 1))) (lv' := [(2, .int (nI (i + 1))), (0, .ref (m)), (1, .int (nI (k)))]) dX9_mixSample_97 rfl (nI_inc _) (by decide) rfl ?_
      refine r_goto (tgt := 81) dX9_mixSample_100 (by decide) ?_
      refine r_lv (lv' := [(2, .int (nI (i + 1))), (0, .ref (m)), (1, .int (nI (k)))]) (by simp) ?_
      exact ih (i + 1) (by omega) (by omega)
theorem lX9_ms3_0 {l : Launch} {κ : KP} {M : Mem} {m sA tA nA : Nat} {th sv kp ln ap pt : Int32} {g tx nu : Nat → Int32} (hD : rDis m sA tA nA) {n dn : Nat} (hI : BI g dn n) {k : Nat} (hk : k < n) {P : FPost} {h0 : Int64} (kk : fR l κ mX9_mixSample 103 [(2, .int (nI (3))), (0, .ref (m)), (1, .int (nI (k)))] [] (RM M m sA tA nA (th) (sv) (kp) (ln) (ap) (pt) (mxs (fun i => pWhyNot g i k) (3) h0) (g) (tx) (nu)) 0 0 P) : fR l κ mX9_mixSample 81 [(2, .int (nI (0))), (0, .ref (m)), (1, .int (nI (k)))] [] (RM M m sA tA nA (th) (sv) (kp) (ln) (ap) (pt) (h0) (g) (tx) (nu)) 0 0 P := lX9_ms3 hD hI hk kk (3 + 1) 0 (by omega) (by omega)
theorem tX9_mixSample {l : Launch} {κ : KP} {M : Mem} {m sA tA nA : Nat} {th sv kp ln ap pt : Int32} {hs : Int64} {g tx nu : Nat → Int32} (hD : rDis m sA tA nA) {n dn : Nat} (hI : BI g dn n) {k : Nat} (hk : k < n) : fM l κ mX9_mixSample [.ref (m), .int (nI (k))] (RM M m sA tA nA (th) (sv) (kp) (ln) (ap) (pt) (hs) (g) (tx) (nu)) (isR none (RM M m sA tA nA (th) (sv) (kp) (ln) (ap) (pt) (mxSample g n k hs) (g) (tx) (nu))) := by
  refine fM_of rfl (by decide +kernel) (Nat.le_of_ble_eq_true rfl) ?_
  have hn := hI.nle
  have hg := hI.n0
  have hdn := hI.dle
  have hg0 := hI.d0
  have hM := hI.mM
  have hB := hI.mB
  have hs0 := hI.s0
  have hm9 := (hM k hk).2
  show fR l κ mX9_mixSample 0 [(0, .ref (m)), (1, .int (nI (k)))] [] (RM M m sA tA nA (th) (sv) (kp) (ln) (ap) (pt) (hs) (g) (tx) (nu)) 0 0 _
  refine r_iconst (v := nI 0) dX9_mixSample_0 (by decide) ?_
  refine r_istore_n (lv' := [(2, .int (nI (0))), (0, .ref (m)), (1, .int (nI (k)))]) dX9_mixSample_1 (by decide) rfl ?_
  refine r_lv (lv' := [(2, .int (nI 0)), (0, .ref m), (1, .int (nI k))]) (by simp) ?_
  refine lX9_ms1_0 hD hI hk (h0 := hs) ?_
  refine r_iconst (v := nI 0) dX9_mixSample_25 (by decide) ?_
  refine r_istore_n (lv' := [(2, .int (nI (0))), (0, .ref (m)), (1, .int (nI (k)))]) dX9_mixSample_26 (by decide) rfl ?_
  refine r_lv (lv' := [(2, .int (nI 0)), (0, .ref m), (1, .int (nI k))]) (by simp) ?_
  refine lX9_ms2_0 hD hI hk (h0 := mxs (fun w => pOfSample g k w) (9) hs) ?_
  refine r_aload_n dX9_mixSample_59 rfl ?_
  refine r_aload_n dX9_mixSample_60 rfl ?_
  refine r_iload_n dX9_mixSample_61 rfl ?_
  refine r_callV (As := [.int (nI (k))]) dX9_mixSample_62 (tX9_readyNow hD (by omega) (hB _ (by omega))) rfl RM_0 rfl rfl oX9_readyNow rfl kX9_204M nX9_readyNow eX9_readyNow (by unfold fRoom; decide) (Nat.le_of_ble_eq_true rfl) rfl (bc' := 0) (bs' := 0) rfl rfl ?_
  show fR _ _ _ 65 _ (.int (pReadyNow (g) (k)) :: _) _ _ _ _
  refine r_i2l dX9_mixSample_65 ?_
  refine r_callV (As := [.long (((pReadyNow (g) (k))).toInt64)]) dX9_mixSample_66 (tX9_mix hD) rfl RM_0 rfl rfl oX9_mix rfl kX9_228M nX9_mix eX9_mix (by unfold fRoom; decide) (Nat.le_of_ble_eq_true rfl) rfl (bc' := 0) (bs' := 0) rfl rfl ?_
  show fR _ _ _ 69 _ _ _ _ _ _
  refine r_aload_n dX9_mixSample_69 rfl ?_
  refine r_aload_n dX9_mixSample_70 rfl ?_
  refine r_iload_n dX9_mixSample_71 rfl ?_
  refine r_callV (As := [.int (nI (k))]) dX9_mixSample_72 (tX9_best hD hn hg (by omega)) rfl RM_0 rfl rfl oX9_best rfl kX9_207M nX9_best eX9_best (by unfold fRoom; decide) (Nat.le_of_ble_eq_true rfl) rfl (bc' := 0) (bs' := 0) rfl rfl ?_
  show fR _ _ _ 75 _ (.int (pBF (g) n (k) 3) :: _) _ _ _ _
  refine r_i2l dX9_mixSample_75 ?_
  refine r_callV (As := [.long (((pBF (g) n (k) 3)).toInt64)]) dX9_mixSample_76 (tX9_mix hD) rfl RM_0 rfl rfl oX9_mix rfl kX9_228M nX9_mix eX9_mix (by unfold fRoom; decide) (Nat.le_of_ble_eq_true rfl) rfl (bc' := 0) (bs' := 0) rfl rfl ?_
  show fR _ _ _ 79 _ _ _ _ _ _
  refine r_iconst (v := nI 0) dX9_mixSample_79 (by decide) ?_
  refine r_istore_n (lv' := [(2, .int (nI (0))), (0, .ref (m)), (1, .int (nI (k)))]) dX9_mixSample_80 (by decide) rfl ?_
  refine r_lv (lv' := [(2, .int (nI 0)), (0, .ref m), (1, .int (nI k))]) (by simp) ?_
  refine lX9_ms3_0 hD hI hk (h0 := 31 * (31 * (mxs (fun j => pOf g k (6 + j)) ((4 * pMany g k)) (mxs (fun w => pOfSample g k w) (9) hs)) + ((pReadyNow (g) (k))).toInt64) + ((pBF (g) n (k) 3)).toInt64) ?_
  exact fR_vret dX9_mixSample_103 rfl isR_of
theorem lX9_dg3 {l : Launch} {κ : KP} {M : Mem} {m sA tA nA : Nat} {th sv kp ln ap pt : Int32} {g tx nu : Nat → Int32} (hD : rDis m sA tA nA) {n dn : Nat} (hI : BI g dn n) {P : FPost} {h0 : Int64} (kk : fR l κ mX9_digest 112 [(1, .int (nI (n))), (0, .ref (m))] [] (RM M m sA tA nA (th) (sv) (kp) (ln) (ap) (pt) (mxF (fun k => mxSample g n k) (n) h0) (g) (tx) (nu)) 0 0 P) : ∀ (N k : Nat), n < N + k → k ≤ n → fR l κ mX9_digest 91 [(1, .int (nI (k))), (0, .ref (m))] [] (RM M m sA tA nA (th) (sv) (kp) (ln) (ap) (pt) (mxF (fun k => mxSample g n k) k h0) (g) (tx) (nu)) 0 0 P := by
  intro N
  induction N with
  | zero => intro k h1 h2; omega
  | succ N ih =>
    intro k h1 h2
    have hn := hI.nle
    have hg := hI.n0
    have hdn := hI.dle
    have hg0 := hI.d0
    have hM := hI.mM
    have hB := hI.mB
    have hs0 := hI.s0
    refine r_iload_n dX9_digest_91 rfl ?_
    refine r_aload_n dX9_digest_92 rfl ?_
    refine r_get (k := 1) dX9_digest_93 RM_0 rfl rfl (by decide) kX9_7F ?_
    refine r_iconst (v := nI 1) dX9_digest_96 (by decide) ?_
    refine r_ialdN dX9_digest_97 (RM_1 hD) (by omega) (by decide) rfl ?_
    refine r_top (y := (nI (n))) hg ?_
    refine r_icmp_geN (tgt := 112) dX9_digest_98 (by decide) (by omega) (by omega) (fun c1 => ?_) (fun c1 => ?_)
    · skip
      have ej : k = n := by omega
      rw [ej]
      exact kk
    · skip
      refine r_aload_n dX9_digest_101 rfl ?_
      refine r_iload_n dX9_digest_102 rfl ?_
      refine r_callV (As := [.int (nI (k))]) dX9_digest_103 (tX9_mixSample hD hI (by omega)) rfl RM_0 rfl rfl oX9_mixSample rfl kX9_234M nX9_mixSample eX9_mixSample (by unfold fRoom; decide) (Nat.le_of_ble_eq_true rfl) rfl (bc' := 0) (bs' := 0) rfl rfl ?_
      show fR _ _ _ 106 _ _ _ _ _ _
      refine r_iinc (v := (nI (k + 1))) (lv' := [(1, .int (nI (k + 1))), (0, .ref (m))]) dX9_digest_106 rfl (nI_inc _) (by decide) rfl ?_
      refine r_goto (tgt := 91) dX9_digest_109 (by decide) ?_
      refine r_lv (lv' := [(1, .int (nI (k + 1))), (0, .ref (m))]) (by simp) ?_
      exact ih (k + 1) (by omega) (by omega)
theorem lX9_dg3_0 {l : Launch} {κ : KP} {M : Mem} {m sA tA nA : Nat} {th sv kp ln ap pt : Int32} {g tx nu : Nat → Int32} (hD : rDis m sA tA nA) {n dn : Nat} (hI : BI g dn n) {P : FPost} {h0 : Int64} (kk : fR l κ mX9_digest 112 [(1, .int (nI (n))), (0, .ref (m))] [] (RM M m sA tA nA (th) (sv) (kp) (ln) (ap) (pt) (mxF (fun k => mxSample g n k) (n) h0) (g) (tx) (nu)) 0 0 P) : fR l κ mX9_digest 91 [(1, .int (nI (0))), (0, .ref (m))] [] (RM M m sA tA nA (th) (sv) (kp) (ln) (ap) (pt) (h0) (g) (tx) (nu)) 0 0 P := lX9_dg3 hD hI kk (n + 1) 0 (by omega) (by omega)
theorem lX9_dg4 {l : Launch} {κ : KP} {M : Mem} {m sA tA nA : Nat} {th sv kp ln ap pt : Int32} {g tx nu : Nat → Int32} (hD : rDis m sA tA nA) {n dn : Nat} (hI : BI g dn n) {P : FPost} {h0 : Int64} (kk : fR l κ mX9_digest 140 [(1, .int (nI (9))), (0, .ref (m))] [] (RM M m sA tA nA (th) (sv) (kp) (ln) (ap) (pt) (mxs (fun j => g (31 + j)) (9) h0) (g) (tx) (nu)) 0 0 P) : ∀ (N j : Nat), 9 < N + j → j ≤ 9 → fR l κ mX9_digest 114 [(1, .int (nI (j))), (0, .ref (m))] [] (RM M m sA tA nA (th) (sv) (kp) (ln) (ap) (pt) (mxs (fun j => g (31 + j)) j h0) (g) (tx) (nu)) 0 0 P := by
  intro N
  induction N with
  | zero => intro j h1 h2; omega
  | succ N ih =>
    intro j h1 h2
    refine r_iload_n dX9_digest_114 rfl ?_
    refine r_bipush (v := nI 9) dX9_digest_115 (by decide) ?_
    refine r_icmp_geN (tgt := 140) dX9_digest_117 (by decide) (by omega) (by omega) (fun c1 => ?_) (fun c1 => ?_)
    · skip
      have ej : j = 9 := by omega
      rw [ej]
      exact kk
    · skip
      refine r_aload_n dX9_digest_120 rfl ?_
      refine r_aload_n dX9_digest_121 rfl ?_
      refine r_get (k := 1) dX9_digest_122 RM_0 rfl rfl (by decide) kX9_7F ?_
      refine r_bipush (v := nI 31) dX9_digest_125 (by decide) ?_
      refine r_iload_n dX9_digest_127 rfl ?_
      refine r_iaddN dX9_digest_128 ?_
      refine r_ialdN dX9_digest_129 (RM_1 hD) (by omega) (by decide) rfl ?_
      refine r_i2l dX9_digest_130 ?_
      refine r_callV (As := [.long ((((g) ((31 + j)))).toInt64)]) dX9_digest_131 (tX9_mix hD) rfl RM_0 rfl rfl oX9_mix rfl kX9_228M nX9_mix eX9_mix (by unfold fRoom; decide) (Nat.le_of_ble_eq_true rfl) rfl (bc' := 0) (bs' := 0) rfl rfl ?_
      show fR _ _ _ 134 _ _ _ _ _ _
      refine r_iinc (v := (nI (j + 1))) (lv' := [(1, .int (nI (j + 1))), (0, .ref (m))]) dX9_digest_134 rfl (nI_inc _) (by decide) rfl ?_
      refine r_goto (tgt := 114) dX9_digest_137 (by decide) ?_
      refine r_lv (lv' := [(1, .int (nI (j + 1))), (0, .ref (m))]) (by simp) ?_
      exact ih (j + 1) (by omega) (by omega)
theorem lX9_dg4_0 {l : Launch} {κ : KP} {M : Mem} {m sA tA nA : Nat} {th sv kp ln ap pt : Int32} {g tx nu : Nat → Int32} (hD : rDis m sA tA nA) {n dn : Nat} (hI : BI g dn n) {P : FPost} {h0 : Int64} (kk : fR l κ mX9_digest 140 [(1, .int (nI (9))), (0, .ref (m))] [] (RM M m sA tA nA (th) (sv) (kp) (ln) (ap) (pt) (mxs (fun j => g (31 + j)) (9) h0) (g) (tx) (nu)) 0 0 P) : fR l κ mX9_digest 114 [(1, .int (nI (0))), (0, .ref (m))] [] (RM M m sA tA nA (th) (sv) (kp) (ln) (ap) (pt) (h0) (g) (tx) (nu)) 0 0 P := lX9_dg4 hD hI kk (9 + 1) 0 (by omega) (by omega)
theorem lX9_dg5 {l : Launch} {κ : KP} {M : Mem} {m sA tA nA : Nat} {th sv kp ln ap pt : Int32} {g tx nu : Nat → Int32} (hD : rDis m sA tA nA) {n dn : Nat} (hI : BI g dn n) {P : FPost} {h0 : Int64} (kk : fR l κ mX9_digest 169 [(1, .int (nI (9))), (0, .ref (m))] [] (RM M m sA tA nA (th) (sv) (kp) (ln) (ap) (pt) (mxs (fun j => pOfBath g n (j / 3) (j % 3)) (9) h0) (g) (tx) (nu)) 0 0 P) : ∀ (N j : Nat), 9 < N + j → j ≤ 9 → fR l κ mX9_digest 142 [(1, .int (nI (j))), (0, .ref (m))] [] (RM M m sA tA nA (th) (sv) (kp) (ln) (ap) (pt) (mxs (fun j => pOfBath g n (j / 3) (j % 3)) j h0) (g) (tx) (nu)) 0 0 P := by
  intro N
  induction N with
  | zero => intro j h1 h2; omega
  | succ N ih =>
    intro j h1 h2
    have hn := hI.nle
    have hg := hI.n0
    have hdn := hI.dle
    have hg0 := hI.d0
    have hM := hI.mM
    have hB := hI.mB
    have hs0 := hI.s0
    refine r_iload_n dX9_digest_142 rfl ?_
    refine r_bipush (v := nI 9) dX9_digest_143 (by decide) ?_
    refine r_icmp_geN (tgt := 169) dX9_digest_145 (by decide) (by omega) (by omega) (fun c1 => ?_) (fun c1 => ?_)
    · skip
      have ej : j = 9 := by omega
      rw [ej]
      exact kk
    · skip
      refine r_aload_n dX9_digest_148 rfl ?_
      refine r_aload_n dX9_digest_149 rfl ?_
      refine r_iload_n dX9_digest_150 rfl ?_
      refine r_iconst (v := nI 3) dX9_digest_151 (by decide) ?_
      refine r_idivN dX9_digest_152 (by omega) (by omega) (by omega) ?_
      refine r_iload_n dX9_digest_153 rfl ?_
      refine r_iconst (v := nI 3) dX9_digest_154 (by decide) ?_
      refine r_irem dX9_digest_155 (by decide) ?_
      refine r_top (y := nI (j % 3)) (nI_mod3 (by omega)) ?_
      refine r_callV (As := [.int (nI ((j / 3))), .int (nI (j % 3))]) dX9_digest_156 (tX9_ofBath hD hn hg (by omega) (by omega)) rfl RM_0 rfl rfl oX9_ofBath rfl kX9_189M nX9_ofBath eX9_ofBath (by unfold fRoom; decide) (Nat.le_of_ble_eq_true rfl) rfl (bc' := 0) (bs' := 0) rfl rfl ?_
      show fR _ _ _ 159 _ (.int (pOfBath (g) n ((j / 3)) (j % 3)) :: _) _ _ _ _
      refine r_i2l dX9_digest_159 ?_
      refine r_callV (As := [.long (((pOfBath (g) n ((j / 3)) (j % 3))).toInt64)]) dX9_digest_160 (tX9_mix hD) rfl RM_0 rfl rfl oX9_mix rfl kX9_228M nX9_mix eX9_mix (by unfold fRoom; decide) (Nat.le_of_ble_eq_true rfl) rfl (bc' := 0) (bs' := 0) rfl rfl ?_
      show fR _ _ _ 163 _ _ _ _ _ _
      refine r_iinc (v := (nI (j + 1))) (lv' := [(1, .int (nI (j + 1))), (0, .ref (m))]) dX9_digest_163 rfl (nI_inc _) (by decide) rfl ?_
      refine r_goto (tgt := 142) dX9_digest_166 (by decide) ?_
      refine r_lv (lv' := [(1, .int (nI (j + 1))), (0, .ref (m))]) (by simp) ?_
      exact ih (j + 1) (by omega) (by omega)
theorem lX9_dg5_0 {l : Launch} {κ : KP} {M : Mem} {m sA tA nA : Nat} {th sv kp ln ap pt : Int32} {g tx nu : Nat → Int32} (hD : rDis m sA tA nA) {n dn : Nat} (hI : BI g dn n) {P : FPost} {h0 : Int64} (kk : fR l κ mX9_digest 169 [(1, .int (nI (9))), (0, .ref (m))] [] (RM M m sA tA nA (th) (sv) (kp) (ln) (ap) (pt) (mxs (fun j => pOfBath g n (j / 3) (j % 3)) (9) h0) (g) (tx) (nu)) 0 0 P) : fR l κ mX9_digest 142 [(1, .int (nI (0))), (0, .ref (m))] [] (RM M m sA tA nA (th) (sv) (kp) (ln) (ap) (pt) (h0) (g) (tx) (nu)) 0 0 P := lX9_dg5 hD hI kk (9 + 1) 0 (by omega) (by omega)
theorem lX9_dg6 {l : Launch} {κ : KP} {M : Mem} {m sA tA nA : Nat} {th sv kp ap pt : Int32} {g tx nu : Nat → Int32} (hD : rDis m sA tA nA) {L : Nat} (hL : L ≤ 60) {P : FPost} {h0 : Int64} (kk : fR l κ mX9_digest 240 [(1, .int (nI (L))), (0, .ref (m))] [] (RM M m sA tA nA (th) (sv) (kp) (nI (L)) (ap) (pt) (mxs (fun j => tx j) (L) h0) (g) (tx) (nu)) 0 0 P) : ∀ (N j : Nat), L < N + j → j ≤ L → fR l κ mX9_digest 215 [(1, .int (nI (j))), (0, .ref (m))] [] (RM M m sA tA nA (th) (sv) (kp) (nI (L)) (ap) (pt) (mxs (fun j => tx j) j h0) (g) (tx) (nu)) 0 0 P := by
  intro N
  induction N with
  | zero => intro j h1 h2; omega
  | succ N ih =>
    intro j h1 h2
    refine r_iload_n dX9_digest_215 rfl ?_
    refine r_aload_n dX9_digest_216 rfl ?_
    refine r_get (k := 5) dX9_digest_217 RM_0 rfl rfl (by decide) kX9_135F ?_
    refine r_icmp_geN (tgt := 240) dX9_digest_220 (by decide) (by omega) (by omega) (fun c1 => ?_) (fun c1 => ?_)
    · skip
      have ej : j = L := by omega
      rw [ej]
      exact kk
    · skip
      refine r_aload_n dX9_digest_223 rfl ?_
      refine r_aload_n dX9_digest_224 rfl ?_
      refine r_get (k := 4) dX9_digest_225 RM_0 rfl rfl (by decide) kX9_13F ?_
      refine r_iload_n dX9_digest_228 rfl ?_
      refine r_ialdN dX9_digest_229 (RM_2 hD) (by omega) (by decide) rfl ?_
      refine r_i2l dX9_digest_230 ?_
      refine r_callV (As := [.long ((((tx) (j))).toInt64)]) dX9_digest_231 (tX9_mix hD) rfl RM_0 rfl rfl oX9_mix rfl kX9_228M nX9_mix eX9_mix (by unfold fRoom; decide) (Nat.le_of_ble_eq_true rfl) rfl (bc' := 0) (bs' := 0) rfl rfl ?_
      show fR _ _ _ 234 _ _ _ _ _ _
      refine r_iinc (v := (nI (j + 1))) (lv' := [(1, .int (nI (j + 1))), (0, .ref (m))]) dX9_digest_234 rfl (nI_inc _) (by decide) rfl ?_
      refine r_goto (tgt := 215) dX9_digest_237 (by decide) ?_
      refine r_lv (lv' := [(1, .int (nI (j + 1))), (0, .ref (m))]) (by simp) ?_
      exact ih (j + 1) (by omega) (by omega)
theorem lX9_dg6_0 {l : Launch} {κ : KP} {M : Mem} {m sA tA nA : Nat} {th sv kp ap pt : Int32} {g tx nu : Nat → Int32} (hD : rDis m sA tA nA) {L : Nat} (hL : L ≤ 60) {P : FPost} {h0 : Int64} (kk : fR l κ mX9_digest 240 [(1, .int (nI (L))), (0, .ref (m))] [] (RM M m sA tA nA (th) (sv) (kp) (nI (L)) (ap) (pt) (mxs (fun j => tx j) (L) h0) (g) (tx) (nu)) 0 0 P) : fR l κ mX9_digest 215 [(1, .int (nI (0))), (0, .ref (m))] [] (RM M m sA tA nA (th) (sv) (kp) (nI (L)) (ap) (pt) (h0) (g) (tx) (nu)) 0 0 P := lX9_dg6 hD hL kk (L + 1) 0 (by omega) (by omega)
theorem tX9_share {l : Launch} {κ : KP} {M : Mem} {m sA tA nA : Nat} {th sv kp ln ap pt : Int32} {hs : Int64} {g tx nu : Nat → Int32} (hD : rDis m sA tA nA) {n dn : Nat} (hI : BI g dn n) : fM l κ mX9_share [.ref (m)] (RM M m sA tA nA (th) (sv) (kp) (ln) (ap) (pt) (hs) (g) (tx) (nu)) (isR (some (.double (shD (pPend g n) n))) (RM M m sA tA nA (th) (sv) (kp) (ln) (ap) (pt) (hs) (g) (tx) (nu))) := by
  refine fM_of rfl (by decide +kernel) (Nat.le_of_ble_eq_true rfl) ?_
  have hn := hI.nle
  have hg := hI.n0
  have hdn := hI.dle
  have hg0 := hI.d0
  have hM := hI.mM
  have hB := hI.mB
  have hs0 := hI.s0
  show fR l κ mX9_share 0 [(0, .ref (m))] [] (RM M m sA tA nA (th) (sv) (kp) (ln) (ap) (pt) (hs) (g) (tx) (nu)) 0 0 _
  refine r_aload_n dX9_share_0 rfl ?_
  refine r_get (k := 1) dX9_share_1 RM_0 rfl rfl (by decide) kX9_7F ?_
  refine r_iconst (v := nI 1) dX9_share_4 (by decide) ?_
  refine r_ialdN dX9_share_5 (RM_1 hD) (by omega) (by decide) rfl ?_
  refine r_top (y := (nI (n))) hg ?_
  refine r_if_neN (tgt := 13) dX9_share_6 (by decide) (by omega) (fun c1 => ?_) (fun c1 => ?_)
  · skip
    have eS : shD (pPend g n) n = FP.ddiv (FP.i2d (nI (pPend g n))) (FP.i2d (nI n)) := if_neg (by omega)
    refine r_aload_n dX9_share_13 rfl ?_
    refine r_callV (As := []) dX9_share_14 (tX9_penetrated hD hn hg hM) rfl RM_0 rfl rfl oX9_penetrated rfl kX9_195M nX9_penetrated eX9_penetrated (by unfold fRoom; decide) (Nat.le_of_ble_eq_true rfl) rfl (bc' := 0) (bs' := 0) rfl rfl ?_
    show fR _ _ _ 17 _ (.int (nI (pPend g n)) :: _) _ _ _ _
    refine r_i2d dX9_share_17 ?_
    refine r_aload_n dX9_share_18 rfl ?_
    refine r_get (k := 1) dX9_share_19 RM_0 rfl rfl (by decide) kX9_7F ?_
    refine r_iconst (v := nI 1) dX9_share_22 (by decide) ?_
    refine r_ialdN dX9_share_23 (RM_1 hD) (by omega) (by decide) rfl ?_
    refine r_top (y := (nI (n))) hg ?_
    refine r_i2d dX9_share_24 ?_
    refine r_ddiv dX9_share_25 (by rw [← eS]; exact n64_of (shOk_at pPend_le hn).1) ?_
    rw [eS]
    exact fR_dret dX9_share_26 rfl isR_of
  · skip
    refine r_dconst1 dX9_share_9 ?_
    refine r_goto (tgt := 26) dX9_share_10 (by decide) ?_
    rw [show shD (pPend g n) n = FP.dconst1 from if_pos (by omega)]
    exact fR_dret dX9_share_26 rfl isR_of
theorem tX9_readShare_o {l : Launch} {κ : KP} {M : Mem} {m sA tA nA : Nat} {th ap pt : Int32} {hs : Int64} {g tx nu : Nat → Int32} {kp : Bool} {sn ln dn n : Nat} (hD : rDis m sA tA nA) (hI : BI g dn n) (hsn : sn ≤ 6) (hln : ln ≤ 60) : fM l κ mX9_readShare [.ref (m)] (RM M m sA tA nA (th) (nI (sn)) (bI (kp)) (nI (ln)) (ap) (pt) (hs) (g) (tx) (nu)) ((fun o M' => o = .inl (some (.double (shD (pPend g n) n))) ∧ ∃ (ap pt : Int32) (hs : Int64) (nu : Nat → Int32), M' = RM M m sA tA nA (nI 0) (nI sn) (bI kp) (nI ln) ap pt hs g tx nu)) := by
  refine fM_of rfl (by decide +kernel) (Nat.le_of_ble_eq_true rfl) ?_
  have hn := hI.nle
  have hg := hI.n0
  have hdn := hI.dle
  have hg0 := hI.d0
  have hM := hI.mM
  have hB := hI.mB
  have hs0 := hI.s0
  show fR l κ mX9_readShare 0 [(0, .ref (m))] [] (RM M m sA tA nA (th) (nI (sn)) (bI (kp)) (nI (ln)) (ap) (pt) (hs) (g) (tx) (nu)) 0 0 _
  refine r_aload_n dX9_readShare_0 rfl ?_
  refine r_iconst (v := nI 0) dX9_readShare_1 (by decide) ?_
  refine r_put (k := 0) (fs' := [.int (nI (0)), .ref (sA), .int (nI (sn)), .int (bI (kp)), .ref (tA), .int (nI (ln)), .int (ap), .int (pt), .ref (nA), .long (hs)]) dX9_readShare_2 RM_0 rfl (by decide) kX9_19F rfl rfl rfl (Nat.le_of_ble_eq_true rfl) rfl ?_
  refine r_mem RM_put ?_
  refine r_aload_n dX9_readShare_5 rfl ?_
  refine r_callV (As := []) dX9_readShare_6 (tX9_share hD hI) rfl RM_0 rfl rfl oX9_share rfl kX9_210M nX9_share eX9_share (by unfold fRoom; decide) (Nat.le_of_ble_eq_true rfl) rfl (bc' := 0) (bs' := 0) rfl rfl ?_
  show fR _ _ _ 9 _ (.double ((shD (pPend g n) n)) :: _) _ _ _ _
  exact fR_dret dX9_readShare_9 rfl ⟨rfl, ap, pt, hs, nu, rfl⟩
theorem tX9_digest_o {l : Launch} {κ : KP} {M : Mem} {m sA tA nA : Nat} {th ap pt : Int32} {hs : Int64} {g tx nu : Nat → Int32} {kp : Bool} {sn ln dn n : Nat} (hD : rDis m sA tA nA) (hI : BI g dn n) (hsn : sn ≤ 6) (hln : ln ≤ 60) : fM l κ mX9_digest [.ref (m)] (RM M m sA tA nA (th) (nI (sn)) (bI (kp)) (nI (ln)) (ap) (pt) (hs) (g) (tx) (nu)) ((fun o M' => o = .inl (some (.long (pDigest ⟨g, sn, kp, tx, ln⟩ dn n))) ∧ ∃ (ap pt : Int32) (hs : Int64) (nu : Nat → Int32), M' = RM M m sA tA nA (nI 0) (nI sn) (bI kp) (nI ln) ap pt hs g tx nu)) := by
  refine fM_of rfl (by decide +kernel) (Nat.le_of_ble_eq_true rfl) ?_
  have hn := hI.nle
  have hg := hI.n0
  have hdn := hI.dle
  have hg0 := hI.d0
  have hM := hI.mM
  have hB := hI.mB
  have hs0 := hI.s0
  show fR l κ mX9_digest 0 [(0, .ref (m))] [] (RM M m sA tA nA (th) (nI (sn)) (bI (kp)) (nI (ln)) (ap) (pt) (hs) (g) (tx) (nu)) 0 0 _
  refine r_aload_n dX9_digest_0 rfl ?_
  refine r_iconst (v := nI 0) dX9_digest_1 (by decide) ?_
  refine r_put (k := 0) (fs' := [.int (nI (0)), .ref (sA), .int (nI (sn)), .int (bI (kp)), .ref (tA), .int (nI (ln)), .int (ap), .int (pt), .ref (nA), .long (hs)]) dX9_digest_2 RM_0 rfl (by decide) kX9_19F rfl rfl rfl (Nat.le_of_ble_eq_true rfl) rfl ?_
  refine r_mem RM_put ?_
  refine r_aload_n dX9_digest_5 rfl ?_
  refine r_ldc2 dX9_digest_6 kX9_232K ?_
  refine r_put (k := 9) (fs' := [.int (nI (0)), .ref (sA), .int (nI (sn)), .int (bI (kp)), .ref (tA), .int (nI (ln)), .int (ap), .int (pt), .ref (nA), .long (3767)]) dX9_digest_9 RM_0 rfl (by decide) kX9_216F rfl rfl rfl (Nat.le_of_ble_eq_true rfl) rfl ?_
  refine r_mem RM_put ?_
  refine r_iconst (v := nI 0) dX9_digest_12 (by decide) ?_
  refine r_istore_n (lv' := [(1, .int (nI (0))), (0, .ref (m))]) dX9_digest_13 (by decide) rfl ?_
  refine r_lv (lv' := [(1, .int (nI 0)), (0, .ref m)]) (by simp) ?_
  refine lX9_dg1_0 hD hI (h0 := 3767) ?_
  refine r_iconst (v := nI 0) dX9_digest_36 (by decide) ?_
  refine r_istore_n (lv' := [(1, .int (nI (0))), (0, .ref (m))]) dX9_digest_37 (by decide) rfl ?_
  refine r_lv (lv' := [(1, .int (nI 0)), (0, .ref m)]) (by simp) ?_
  refine lX9_dg2_0 hD hI (h0 := mxs (fun w => pCounted g (nI sn) n dn w) (12) 3767) ?_
  refine r_iconst (v := nI 0) dX9_digest_89 (by decide) ?_
  refine r_istore_n (lv' := [(1, .int (nI (0))), (0, .ref (m))]) dX9_digest_90 (by decide) rfl ?_
  refine r_lv (lv' := [(1, .int (nI 0)), (0, .ref m)]) (by simp) ?_
  refine lX9_dg3_0 hD hI (h0 := mxF (fun d => mxDrum g n d) (dn) (mxs (fun w => pCounted g (nI sn) n dn w) (12) 3767)) ?_
  refine r_iconst (v := nI 0) dX9_digest_112 (by decide) ?_
  refine r_istore_n (lv' := [(1, .int (nI (0))), (0, .ref (m))]) dX9_digest_113 (by decide) rfl ?_
  refine r_lv (lv' := [(1, .int (nI 0)), (0, .ref m)]) (by simp) ?_
  refine lX9_dg4_0 hD hI (h0 := mxF (fun k => mxSample g n k) (n) (mxF (fun d => mxDrum g n d) (dn) (mxs (fun w => pCounted g (nI sn) n dn w) (12) 3767))) ?_
  refine r_iconst (v := nI 0) dX9_digest_140 (by decide) ?_
  refine r_istore_n (lv' := [(1, .int (nI (0))), (0, .ref (m))]) dX9_digest_141 (by decide) rfl ?_
  refine r_lv (lv' := [(1, .int (nI 0)), (0, .ref m)]) (by simp) ?_
  refine lX9_dg5_0 hD hI (h0 := mxs (fun j => g (31 + j)) (9) (mxF (fun k => mxSample g n k) (n) (mxF (fun d => mxDrum g n d) (dn) (mxs (fun w => pCounted g (nI sn) n dn w) (12) 3767)))) ?_
  refine r_aload_n dX9_digest_169 rfl ?_
  refine r_aload_n dX9_digest_170 rfl ?_
  refine r_get (k := 1) dX9_digest_171 RM_0 rfl rfl (by decide) kX9_7F ?_
  refine r_bipush (v := nI 8) dX9_digest_174 (by decide) ?_
  refine r_ialdN dX9_digest_176 (RM_1 hD) (by omega) (by decide) rfl ?_
  refine r_i2l dX9_digest_177 ?_
  refine r_callV (As := [.long ((((g) (8))).toInt64)]) dX9_digest_178 (tX9_mix hD) rfl RM_0 rfl rfl oX9_mix rfl kX9_228M nX9_mix eX9_mix (by unfold fRoom; decide) (Nat.le_of_ble_eq_true rfl) rfl (bc' := 0) (bs' := 0) rfl rfl ?_
  show fR _ _ _ 181 _ _ _ _ _ _
  refine r_aload_n dX9_digest_181 rfl ?_
  refine r_aload_n dX9_digest_182 rfl ?_
  refine r_get (k := 1) dX9_digest_183 RM_0 rfl rfl (by decide) kX9_7F ?_
  refine r_bipush (v := nI 9) dX9_digest_186 (by decide) ?_
  refine r_ialdN dX9_digest_188 (RM_1 hD) (by omega) (by decide) rfl ?_
  refine r_i2l dX9_digest_189 ?_
  refine r_callV (As := [.long ((((g) (9))).toInt64)]) dX9_digest_190 (tX9_mix hD) rfl RM_0 rfl rfl oX9_mix rfl kX9_228M nX9_mix eX9_mix (by unfold fRoom; decide) (Nat.le_of_ble_eq_true rfl) rfl (bc' := 0) (bs' := 0) rfl rfl ?_
  show fR _ _ _ 193 _ _ _ _ _ _
  refine r_aload_n dX9_digest_193 rfl ?_
  refine r_aload_n dX9_digest_194 rfl ?_
  refine r_callV (As := []) dX9_digest_195 (tX9_share hD hI) rfl RM_0 rfl rfl oX9_share rfl kX9_210M nX9_share eX9_share (by unfold fRoom; decide) (Nat.le_of_ble_eq_true rfl) rfl (bc' := 0) (bs' := 0) rfl rfl ?_
  show fR _ _ _ 198 _ (.double ((shD (pPend g n) n)) :: _) _ _ _ _
  refine r_callS (As := [.double ((shD (pPend g n) n))]) dX9_digest_198 (tX9_bits (shOk_at pPend_le hn).2.2.2.1) rfl oX9_bits rfl kX9_238M sX9_bits (by unfold fRoom; decide) (Nat.le_of_ble_eq_true rfl) rfl (bc' := 0) (bs' := 0) rfl rfl ?_
  show fR _ _ _ 201 _ (.long ((bR (shD (pPend g n) n))) :: _) _ _ _ _
  refine r_callV (As := [.long ((bR (shD (pPend g n) n)))]) dX9_digest_201 (tX9_mix hD) rfl RM_0 rfl rfl oX9_mix rfl kX9_228M nX9_mix eX9_mix (by unfold fRoom; decide) (Nat.le_of_ble_eq_true rfl) rfl (bc' := 0) (bs' := 0) rfl rfl ?_
  show fR _ _ _ 204 _ _ _ _ _ _
  refine r_aload_n dX9_digest_204 rfl ?_
  refine r_aload_n dX9_digest_205 rfl ?_
  refine r_get (k := 5) dX9_digest_206 RM_0 rfl rfl (by decide) kX9_135F ?_
  refine r_i2l dX9_digest_209 ?_
  refine r_callV (As := [.long (((nI (ln))).toInt64)]) dX9_digest_210 (tX9_mix hD) rfl RM_0 rfl rfl oX9_mix rfl kX9_228M nX9_mix eX9_mix (by unfold fRoom; decide) (Nat.le_of_ble_eq_true rfl) rfl (bc' := 0) (bs' := 0) rfl rfl ?_
  show fR _ _ _ 213 _ _ _ _ _ _
  refine r_iconst (v := nI 0) dX9_digest_213 (by decide) ?_
  refine r_istore_n (lv' := [(1, .int (nI (0))), (0, .ref (m))]) dX9_digest_214 (by decide) rfl ?_
  refine r_lv (lv' := [(1, .int (nI 0)), (0, .ref m)]) (by simp) ?_
  refine lX9_dg6_0 hD hln (h0 := 31 * (31 * (31 * (31 * (mxs (fun j => pOfBath g n (j / 3) (j % 3)) (9) (mxs (fun j => g (31 + j)) (9) (mxF (fun k => mxSample g n k) (n) (mxF (fun d => mxDrum g n d) (dn) (mxs (fun w => pCounted g (nI sn) n dn w) (12) 3767))))) + (((g) (8))).toInt64) + (((g) (9))).toInt64) + (bR (shD (pPend g n) n))) + ((nI (ln))).toInt64) ?_
  refine r_aload_n dX9_digest_240 rfl ?_
  refine r_get (k := 9) dX9_digest_241 RM_0 rfl rfl (by decide) kX9_216F ?_
  have eP : pDigest ⟨g, sn, kp, tx, ln⟩ dn n = mxs (fun j => tx j) (ln) (31 * (31 * (31 * (31 * (mxs (fun j => pOfBath g n (j / 3) (j % 3)) (9) (mxs (fun j => g (31 + j)) (9) (mxF (fun k => mxSample g n k) (n) (mxF (fun d => mxDrum g n d) (dn) (mxs (fun w => pCounted g (nI sn) n dn w) (12) 3767))))) + (((g) (8))).toInt64) + (((g) (9))).toInt64) + (bR (shD (pPend g n) n))) + ((nI (ln))).toInt64) := by unfold pDigest mxC mxB mxA; simp only [mx]
  rw [← eP]
  exact fR_lret dX9_digest_244 rfl ⟨rfl, ap, pt, _, nu, rfl⟩
