theorem bJ_t {b : Bool} (h : b = true) : nI 1 = bI b := by rw [h]; rfl
theorem bJ_f {b : Bool} (h : b = false) : nI 0 = bI b := by rw [h]; rfl
def pMany (f : Nat → Int32) (k : Nat) : Nat := (pOf f k 5).toNatClampNeg
def pLat (f : Nat → Int32) (k ago w : Nat) : Int32 := pOf f k (6 + 4 * (pMany f k - 1 - ago) + w)
def pRdy (near bath : Int32) : Nat → Nat → Int32 → Int32
  | 0, _, _ => -1
  | N + 1, n, deg => if pAbs (deg - bath) ≤ near then nI n else pRdy near bath N (n + 1) (pWarm deg bath)
def pReady (f : Nat → Int32) (k b : Nat) : Int32 := pRdy (f 5) (f (28 + b)) 201 0 (pOf f k 2)
theorem bne_of {b : Bool} (h : b = false) : ¬ b = true := by rw [h]; exact Bool.false_ne_true
def pShr (deg : Int32) : Int32 := if nI 100 + pDiv (deg - nI 250) (nI 5) < nI 10 then nI 10 else nI 100 + pDiv (deg - nI 250) (nI 5)
def pDeep (hard deg wear w s : Int32) : Int32 := w * s / (hard + nI 1) * pShr deg / nI 100 - wear
def pDepth (hard deg wear w s : Int32) : Int32 := if pDeep hard deg wear w s < 0 then nI 0 else if nI 400 < pDeep hard deg wear w s then nI 400 else pDeep hard deg wear w s
def pDep (f : Nat → Int32) (nd k : Nat) (w s : Int32) : Int32 := pDepth (pOf f k 1) (pOf f k 2) (f (31 + 3 * nd + 0)) w s
def pWhyNot (f : Nat → Int32) (nd k : Nat) : Int32 :=
  if f (31 + 3 * nd + 1) = nI 1 then nI 1 else if pOf f k 3 = -1 then nI 2 else if pAbs (pOf f k 2 - f (28 + (pOf f k 3).toNatClampNeg)) ≤ f 5 then (if pMany f k = 9 then nI 4 else nI 0) else nI 3
def pAre (f : Nat → Int32) (k : Nat) : Nat → Bool
  | 0 => true
  | a + 1 => pAre f k a && (decide (pLat f k a 2 = nI 100) && decide (pLat f k a 3 = nI 5))
theorem pAre_0 {f : Nat → Int32} {k : Nat} : pAre f k 0 = true := rfl
def pLeast (f : Nat → Int32) (k : Nat) : Nat → Int32
  | 0 => nI 400
  | a + 1 => if pLat f k a 1 < pLeast f k a then pLat f k a 1 else pLeast f k a
def pMost (f : Nat → Int32) (k : Nat) : Nat → Int32
  | 0 => nI 0
  | a + 1 => if pMost f k a < pLat f k a 1 then pLat f k a 1 else pMost f k a
def pWhy (f : Nat → Int32) (k : Nat) : Int32 := if pMany f k < 3 then nI 5 else if pAre f k 3 = true then (if f 6 < pMost f k 3 - pLeast f k 3 then nI 7 else nI 0) else nI 6
theorem pWhy_many {f : Nat → Int32} {k : Nat} (h : pWhy f k ≤ 0) : 3 ≤ pMany f k := by
  rcases Nat.lt_or_ge (pMany f k) 3 with q | q
  · unfold pWhy at h; rw [if_pos q] at h; exact absurd h (by decide)
  · exact q
def pPen (f : Nat → Int32) (k : Nat) : Int32 := if 0 < pWhy f k then -1 else (pLat f k 0 1 + pLat f k 1 1 + pLat f k 2 1) / nI 3
def pMask (f : Nat → Int32) (k : Nat) : Nat → Int32
  | 0 => nI 0
  | a + 1 => pMask f k a ||| (nI 1 <<< (pLat f k a 0 &&& 31))
def pNeed (f : Nat → Int32) (k : Nat) : Int32 := pMask f k (min 3 (pMany f k))
def pTold (f : Nat → Int32) (k : Nat) (q : Bool) : Int32 := if q = true then pPen f k else pOf f k 4
abbrev pIs (f : Nat → Int32) (d : Nat) (q : Bool) (k : Nat) : Prop := pOf f k 0 = nI d ∧ ¬ pTold f k q = -1
def pSum (f : Nat → Int32) (d : Nat) (q : Bool) : Nat → Int32
  | 0 => nI 0
  | k + 1 => pSum f d q k + (if pIs f d q k then pTold f k q else nI 0)
def pNum (f : Nat → Int32) (d : Nat) (q : Bool) (n : Nat) : Nat := pCnt (fun k => pIs f d q k) n
def pMean (f : Nat → Int32) (n d : Nat) (q : Bool) : Int32 := if pNum f d q n = 0 then -1 else pSum f d q n / nI (pNum f d q n)
def pIndex (f : Nat → Int32) (n d : Nat) : Int32 := if pMean f n d true = -1 then -1 else if pMean f n d false = -1 then -1 else nI 1000 + pMean f n d true / nI 10 + pDiv (pMean f n d false - nI 450) (nI 10) - f 7
def pDMask (f : Nat → Int32) (d : Nat) : Nat → Int32
  | 0 => nI 0
  | k + 1 => pDMask f d k ||| (if pIs f d true k then pNeed f k else nI 0)
def pWhyS (f : Nat → Int32) (n d : Nat) : Int32 :=
  if ¬ f (10 + 3 * d + 2) = -1 then nI 15 else if pNum f d true n < 2 then nI 9 else if pDMask f d n = nI 1 then nI 10 else if pDMask f d n = nI 2 then nI 10 else if pDMask f d n = nI 4 then nI 10
  else if pMean f n d false = -1 then nI 11 else if pIn (pIndex f n d) (nI 980) (nI 1020) = true then nI 0 else nI 12
def pSamplesOf (f : Nat → Int32) (d n : Nat) : Nat := pCnt (fun k => pOf f k 0 = nI d) n
def pHard (f : Nat → Int32) (d : Nat) : Int32 := nI 1000 / f (10 + 3 * d + 0) + f (10 + 3 * d + 1) / nI 10
theorem lX9_ready {l : Launch} {κ : KP} {M : Mem} {m sA tA nA : Nat} {th sv kp ln ap pt : Int32} {hs : Int64} {g tx nu : Nat → Int32} (hD : rDis m sA tA nA) {k b : Nat} (hk : k < 8) (hb : b < 3) : ∀ (N n : Nat) (deg : Int32), N + n = 201 → fR l κ mX9_ready 10 [(4, .int (nI (n))), (3, .int (deg)), (0, .ref (m)), (1, .int (nI (k))), (2, .int (nI (b)))] [] (RM M m sA tA nA (th) (sv) (kp) (ln) (ap) (pt) (hs) (g) (tx) (nu)) 0 0 (isI (pRdy (g 5) (g (28 + b)) N n deg) (RM M m sA tA nA (th) (sv) (kp) (ln) (ap) (pt) (hs) (g) (tx) (nu))) := by
  intro N
  induction N using Nat.strongRecOn with
  | ind N ih =>
  intro n deg h1
  refine r_iload dX9_ready_10 rfl ?_
  refine r_sipush (v := nI 200) dX9_ready_12 (by decide) ?_
  refine r_icmp_gtN (tgt := 64) dX9_ready_15 (by decide) (by omega) (by omega) (fun c1 => ?_) (fun c1 => ?_)
  · have e : N = 0 := by omega
    subst e
    refine r_iconst (v := (-1)) dX9_ready_64 (by decide) ?_
    exact fR_iret dX9_ready_65 rfl (isI_of (by first | rfl | (unfold pRdy; rw [if_pos (Int32.not_lt.mp c2)])))
  · skip
    obtain ⟨N, rfl⟩ : ∃ N', N = N' + 1 := ⟨N - 1, by omega⟩
    refine r_iload_n dX9_ready_18 rfl ?_
    refine r_aload_n dX9_ready_19 rfl ?_
    refine r_get (k := 1) dX9_ready_20 RM_0 rfl rfl (by decide) kX9_7F ?_
    refine r_bipush (v := nI 28) dX9_ready_23 (by decide) ?_
    refine r_iload_n dX9_ready_25 rfl ?_
    refine r_iaddN dX9_ready_26 ?_
    refine r_ialdN dX9_ready_27 (RM_1 hD) (by omega) (by decide) rfl ?_
    refine r_isub dX9_ready_28 ?_
    refine r_callS (As := [.int (((deg) - ((g) ((28 + b)))))]) dX9_ready_29 tX9_size rfl oX9_size rfl kX9_45M sX9_size (by unfold fRoom; decide) (Nat.le_of_ble_eq_true rfl) rfl (bc' := 0) (bs' := 0) rfl rfl ?_
    show fR _ _ _ 32 _ (.int (pAbs (((deg) - ((g) ((28 + b)))))) :: _) _ _ _ _
    refine r_aload_n dX9_ready_32 rfl ?_
    refine r_get (k := 1) dX9_ready_33 RM_0 rfl rfl (by decide) kX9_7F ?_
    refine r_iconst (v := nI 5) dX9_ready_36 (by decide) ?_
    refine r_ialdN dX9_ready_37 (RM_1 hD) (by omega) (by decide) rfl ?_
    refine r_icmp_gt (tgt := 44) dX9_ready_38 (by decide) (fun c2 => ?_) (fun c2 => ?_)
    · skip
      refine r_iload_n dX9_ready_44 rfl ?_
      refine r_aload_n dX9_ready_45 rfl ?_
      refine r_get (k := 1) dX9_ready_46 RM_0 rfl rfl (by decide) kX9_7F ?_
      refine r_bipush (v := nI 28) dX9_ready_49 (by decide) ?_
      refine r_iload_n dX9_ready_51 rfl ?_
      refine r_iaddN dX9_ready_52 ?_
      refine r_ialdN dX9_ready_53 (RM_1 hD) (by omega) (by decide) rfl ?_
      refine r_callS (As := [.int (deg), .int ((g) ((28 + b)))]) dX9_ready_54 tX9_warmed rfl oX9_warmed rfl kX9_38M sX9_warmed (by unfold fRoom; decide) (Nat.le_of_ble_eq_true rfl) rfl (bc' := 0) (bs' := 0) rfl rfl ?_
      show fR _ _ _ 57 _ (.int (pWarm (deg) ((g) ((28 + b)))) :: _) _ _ _ _
      refine r_istore_n (lv' := [(3, .int (pWarm (deg) ((g) ((28 + b))))), (4, .int (nI (n))), (0, .ref (m)), (1, .int (nI (k))), (2, .int (nI (b)))]) dX9_ready_57 (by decide) rfl ?_
      refine r_iinc (v := (nI (n + 1))) (lv' := [(4, .int (nI (n + 1))), (3, .int (pWarm (deg) ((g) ((28 + b))))), (0, .ref (m)), (1, .int (nI (k))), (2, .int (nI (b)))]) dX9_ready_58 rfl (nI_inc _) (by decide) rfl ?_
      refine r_goto (tgt := 10) dX9_ready_61 (by decide) ?_
      unfold pRdy
      rw [if_neg (Int32.not_le.mpr c2)]
      exact ih N (by omega) (n + 1) _ (by omega)
    · skip
      refine r_iload dX9_ready_41 rfl ?_
      exact fR_iret dX9_ready_43 rfl (isI_of (by first | rfl | (unfold pRdy; rw [if_pos (Int32.not_lt.mp c2)])))
theorem tX9_ready {l : Launch} {κ : KP} {M : Mem} {m sA tA nA : Nat} {th sv kp ln ap pt : Int32} {hs : Int64} {g tx nu : Nat → Int32} (hD : rDis m sA tA nA) {k b : Nat} (hk : k < 8) (hb : b < 3) : fM l κ mX9_ready [.ref (m), .int (nI (k)), .int (nI (b))] (RM M m sA tA nA (th) (sv) (kp) (ln) (ap) (pt) (hs) (g) (tx) (nu)) (isI (pReady g k b) (RM M m sA tA nA (th) (sv) (kp) (ln) (ap) (pt) (hs) (g) (tx) (nu))) := by
  refine fM_of rfl (by decide +kernel) (Nat.le_of_ble_eq_true rfl) ?_
  show fR l κ mX9_ready 0 [(0, .ref (m)), (1, .int (nI (k))), (2, .int (nI (b)))] [] (RM M m sA tA nA (th) (sv) (kp) (ln) (ap) (pt) (hs) (g) (tx) (nu)) 0 0 _
  refine r_aload_n dX9_ready_0 rfl ?_
  refine r_iload_n dX9_ready_1 rfl ?_
  refine r_iconst (v := nI 2) dX9_ready_2 (by decide) ?_
  refine r_callV (As := [.int (nI (k)), .int (nI (2))]) dX9_ready_3 (tX9_of hD (by omega)) rfl RM_0 rfl rfl oX9_of rfl kX9_31M nX9_of eX9_of (by unfold fRoom; decide) (Nat.le_of_ble_eq_true rfl) rfl (bc' := 0) (bs' := 0) rfl rfl ?_
  show fR _ _ _ 6 _ (.int (pOf (g) (k) (2)) :: _) _ _ _ _
  refine r_istore_n (lv' := [(3, .int (pOf (g) (k) (2))), (0, .ref (m)), (1, .int (nI (k))), (2, .int (nI (b)))]) dX9_ready_6 (by decide) rfl ?_
  refine r_iconst (v := nI 0) dX9_ready_7 (by decide) ?_
  refine r_istore (lv' := [(4, .int (nI (0))), (3, .int (pOf (g) (k) (2))), (0, .ref (m)), (1, .int (nI (k))), (2, .int (nI (b)))]) dX9_ready_8 (by decide) rfl ?_
  exact lX9_ready hD hk hb 201 0 _ (by omega)
theorem tX9_depth {l : Launch} {κ : KP} {M : Mem} {m sA tA nA : Nat} {th sv kp ln ap pt : Int32} {hs : Int64} {g tx nu : Nat → Int32} (hD : rDis m sA tA nA) {nd k : Nat} {w s : Int32} (hk : k < 8) (hnd : nd < 3) (hh : ¬ pOf g k 1 + nI 1 = 0) : fM l κ mX9_depth [.ref (m), .int (nI (nd)), .int (nI (k)), .int (w), .int (s)] (RM M m sA tA nA (th) (sv) (kp) (ln) (ap) (pt) (hs) (g) (tx) (nu)) (isI (pDep g nd k w s) (RM M m sA tA nA (th) (sv) (kp) (ln) (ap) (pt) (hs) (g) (tx) (nu))) := by
  refine fM_of rfl (by decide +kernel) (Nat.le_of_ble_eq_true rfl) ?_
  show fR l κ mX9_depth 0 [(0, .ref (m)), (1, .int (nI (nd))), (2, .int (nI (k))), (3, .int (w)), (4, .int (s))] [] (RM M m sA tA nA (th) (sv) (kp) (ln) (ap) (pt) (hs) (g) (tx) (nu)) 0 0 _
  refine r_bipush (v := nI 100) dX9_depth_0 (by decide) ?_
  refine r_aload_n dX9_depth_2 rfl ?_
  refine r_iload_n dX9_depth_3 rfl ?_
  refine r_iconst (v := nI 2) dX9_depth_4 (by decide) ?_
  refine r_callV (As := [.int (nI (k)), .int (nI (2))]) dX9_depth_5 (tX9_of hD (by omega)) rfl RM_0 rfl rfl oX9_of rfl kX9_31M nX9_of eX9_of (by unfold fRoom; decide) (Nat.le_of_ble_eq_true rfl) rfl (bc' := 0) (bs' := 0) rfl rfl ?_
  show fR _ _ _ 8 _ (.int (pOf (g) (k) (2)) :: _) _ _ _ _
  refine r_sipush (v := nI 250) dX9_depth_8 (by decide) ?_
  refine r_isub dX9_depth_11 ?_
  refine r_iconst (v := nI 5) dX9_depth_12 (by decide) ?_
  refine r_callS (As := [.int (((pOf (g) (k) (2)) - (nI (250)))), .int (nI (5))]) dX9_depth_13 (tX9_div (by decide)) rfl oX9_div rfl kX9_27M sX9_div (by unfold fRoom; decide) (Nat.le_of_ble_eq_true rfl) rfl (bc' := 0) (bs' := 0) rfl rfl ?_
  show fR _ _ _ 16 _ (.int (pDiv (((pOf (g) (k) (2)) - (nI (250)))) (nI (5))) :: _) _ _ _ _
  refine r_iadd dX9_depth_16 ?_
  refine r_istore (lv' := [(5, .int (((nI (100)) + (pDiv (((pOf (g) (k) (2)) - (nI (250)))) (nI (5)))))), (0, .ref (m)), (1, .int (nI (nd))), (2, .int (nI (k))), (3, .int (w)), (4, .int (s))]) dX9_depth_17 (by decide) rfl ?_
  refine r_iload_n dX9_depth_19 rfl ?_
  refine r_iload dX9_depth_20 rfl ?_
  refine r_imul dX9_depth_22 ?_
  refine r_aload_n dX9_depth_23 rfl ?_
  refine r_iload_n dX9_depth_24 rfl ?_
  refine r_iconst (v := nI 1) dX9_depth_25 (by decide) ?_
  refine r_callV (As := [.int (nI (k)), .int (nI (1))]) dX9_depth_26 (tX9_of hD (by omega)) rfl RM_0 rfl rfl oX9_of rfl kX9_31M nX9_of eX9_of (by unfold fRoom; decide) (Nat.le_of_ble_eq_true rfl) rfl (bc' := 0) (bs' := 0) rfl rfl ?_
  show fR _ _ _ 29 _ (.int (pOf (g) (k) (1)) :: _) _ _ _ _
  refine r_iconst (v := nI 1) dX9_depth_29 (by decide) ?_
  refine r_iadd dX9_depth_30 ?_
  refine r_idiv dX9_depth_31 hh ?_
  have hJ1 : fR l κ mX9_depth 46 [(5, .int (((nI (100)) + (pDiv (((pOf (g) (k) (2)) - (nI (250)))) (nI (5)))))), (0, .ref (m)), (1, .int (nI (nd))), (2, .int (nI (k))), (3, .int (w)), (4, .int (s))] [.int ((pShr (pOf g k 2))), .int (((((w) * (s))) / (((pOf (g) (k) (1)) + (nI (1))))))] (RM M m sA tA nA (th) (sv) (kp) (ln) (ap) (pt) (hs) (g) (tx) (nu)) 0 0 (isI (pDep g nd k w s) (RM M m sA tA nA (th) (sv) (kp) (ln) (ap) (pt) (hs) (g) (tx) (nu))) := by
    refine r_imul dX9_depth_46 ?_
    refine r_bipush (v := nI 100) dX9_depth_47 (by decide) ?_
    refine r_idiv dX9_depth_49 (by decide) ?_
    refine r_aload_n dX9_depth_50 rfl ?_
    refine r_iload_n dX9_depth_51 rfl ?_
    refine r_iconst (v := nI 0) dX9_depth_52 (by decide) ?_
    refine r_callV (As := [.int (nI (nd)), .int (nI (0))]) dX9_depth_53 (tX9_needleAt hD (by omega)) rfl RM_0 rfl rfl oX9_needleAt rfl kX9_48M nX9_needleAt eX9_needleAt (by unfold fRoom; decide) (Nat.le_of_ble_eq_true rfl) rfl (bc' := 0) (bs' := 0) rfl rfl ?_
    show fR _ _ _ 56 _ (.int ((g) (31 + 3 * nd + 0)) :: _) _ _ _ _
    refine r_isub dX9_depth_56 ?_
    refine r_istore (lv' := [(6, .int (((((((((((w) * (s))) / (((pOf (g) (k) (1)) + (nI (1)))))) * ((pShr (pOf g k 2))))) / (nI (100)))) - ((g) (31 + 3 * nd + 0))))), (5, .int (((nI (100)) + (pDiv (((pOf (g) (k) (2)) - (nI (250)))) (nI (5)))))), (0, .ref (m)), (1, .int (nI (nd))), (2, .int (nI (k))), (3, .int (w)), (4, .int (s))]) dX9_depth_57 (by decide) rfl ?_
    refine r_iload dX9_depth_59 rfl ?_
    refine r_if_ge (tgt := 68) dX9_depth_61 (by decide) (fun c2 => ?_) (fun c2 => ?_)
    · skip
      refine r_iload dX9_depth_68 rfl ?_
      refine r_sipush (v := nI 400) dX9_depth_70 (by decide) ?_
      refine r_icmp_le (tgt := 82) dX9_depth_73 (by decide) (fun c3 => ?_) (fun c3 => ?_)
      · skip
        refine r_iload dX9_depth_82 rfl ?_
        exact fR_iret dX9_depth_84 rfl (isI_of (by unfold pDep pDepth pDeep; (repeat (first | rw [if_pos (by first | assumption | exact Int32.not_le.mp (by assumption) | exact Int32.not_lt.mp (by assumption) | omega)] | rw [if_neg (by first | assumption | exact Int32.not_lt.mpr (by assumption) | exact Int32.not_le.mpr (by assumption) | exact bne_of (by assumption) | exact not_not_intro (by assumption) | omega)])); first | done | rfl))
      · skip
        refine r_sipush (v := nI 400) dX9_depth_76 (by decide) ?_
        refine r_goto (tgt := 84) dX9_depth_79 (by decide) ?_
        exact fR_iret dX9_depth_84 rfl (isI_of (by unfold pDep pDepth pDeep; (repeat (first | rw [if_pos (by first | assumption | exact Int32.not_le.mp (by assumption) | exact Int32.not_lt.mp (by assumption) | omega)] | rw [if_neg (by first | assumption | exact Int32.not_lt.mpr (by assumption) | exact Int32.not_le.mpr (by assumption) | exact bne_of (by assumption) | exact not_not_intro (by assumption) | omega)])); first | done | rfl))
    · skip
      refine r_iconst (v := nI 0) dX9_depth_64 (by decide) ?_
      refine r_goto (tgt := 84) dX9_depth_65 (by decide) ?_
      exact fR_iret dX9_depth_84 rfl (isI_of (by unfold pDep pDepth pDeep; (repeat (first | rw [if_pos (by first | assumption | exact Int32.not_le.mp (by assumption) | exact Int32.not_lt.mp (by assumption) | omega)] | rw [if_neg (by first | assumption | exact Int32.not_lt.mpr (by assumption) | exact Int32.not_le.mpr (by assumption) | exact bne_of (by assumption) | exact not_not_intro (by assumption) | omega)])); first | done | rfl))
  refine r_iload dX9_depth_32 rfl ?_
  refine r_bipush (v := nI 10) dX9_depth_34 (by decide) ?_
  refine r_icmp_ge (tgt := 44) dX9_depth_36 (by decide) (fun c4 => ?_) (fun c4 => ?_)
  · skip
    refine r_iload dX9_depth_44 rfl ?_
    exact r_top (by unfold pShr; (repeat (first | rw [if_pos (by first | assumption | exact Int32.not_le.mp (by assumption) | exact Int32.not_lt.mp (by assumption) | omega)] | rw [if_neg (by first | assumption | exact Int32.not_lt.mpr (by assumption) | exact Int32.not_le.mpr (by assumption) | exact bne_of (by assumption) | exact not_not_intro (by assumption) | omega)])); first | done | rfl) hJ1
  · skip
    refine r_bipush (v := nI 10) dX9_depth_39 (by decide) ?_
    refine r_goto (tgt := 46) dX9_depth_41 (by decide) ?_
    exact r_top (by unfold pShr; (repeat (first | rw [if_pos (by first | assumption | exact Int32.not_le.mp (by assumption) | exact Int32.not_lt.mp (by assumption) | omega)] | rw [if_neg (by first | assumption | exact Int32.not_lt.mpr (by assumption) | exact Int32.not_le.mpr (by assumption) | exact bne_of (by assumption) | exact not_not_intro (by assumption) | omega)])); first | done | rfl) hJ1
theorem tX9_latest {l : Launch} {κ : KP} {M : Mem} {m sA tA nA : Nat} {th sv kp ln ap pt : Int32} {hs : Int64} {g tx nu : Nat → Int32} (hD : rDis m sA tA nA) {k a w : Nat} (hk : k < 8) (hm : pOf g k 5 = nI (pMany g k)) (hm9 : pMany g k ≤ 9) (ha : a < pMany g k) (hw : w < 4) : fM l κ mX9_latest [.ref (m), .int (nI (k)), .int (nI (a)), .int (nI (w))] (RM M m sA tA nA (th) (sv) (kp) (ln) (ap) (pt) (hs) (g) (tx) (nu)) (isI (pLat g k a w) (RM M m sA tA nA (th) (sv) (kp) (ln) (ap) (pt) (hs) (g) (tx) (nu))) := by
  refine fM_of rfl (by decide +kernel) (Nat.le_of_ble_eq_true rfl) ?_
  show fR l κ mX9_latest 0 [(0, .ref (m)), (1, .int (nI (k))), (2, .int (nI (a))), (3, .int (nI (w)))] [] (RM M m sA tA nA (th) (sv) (kp) (ln) (ap) (pt) (hs) (g) (tx) (nu)) 0 0 _
  refine r_aload_n dX9_latest_0 rfl ?_
  refine r_iload_n dX9_latest_1 rfl ?_
  refine r_bipush (v := nI 6) dX9_latest_2 (by decide) ?_
  refine r_iconst (v := nI 4) dX9_latest_4 (by decide) ?_
  refine r_aload_n dX9_latest_5 rfl ?_
  refine r_iload_n dX9_latest_6 rfl ?_
  refine r_iconst (v := nI 5) dX9_latest_7 (by decide) ?_
  refine r_callV (As := [.int (nI (k)), .int (nI (5))]) dX9_latest_8 (tX9_of hD (by omega)) rfl RM_0 rfl rfl oX9_of rfl kX9_31M nX9_of eX9_of (by unfold fRoom; decide) (Nat.le_of_ble_eq_true rfl) rfl (bc' := 0) (bs' := 0) rfl rfl ?_
  show fR _ _ _ 11 _ (.int (pOf (g) (k) (5)) :: _) _ _ _ _
  refine r_top hm ?_
  refine r_iconst (v := nI 1) dX9_latest_11 (by decide) ?_
  refine r_isubN dX9_latest_12 (by omega) ?_
  refine r_iload_n dX9_latest_13 rfl ?_
  refine r_isubN dX9_latest_14 (by omega) ?_
  refine r_imulN dX9_latest_15 ?_
  refine r_iaddN dX9_latest_16 ?_
  refine r_iload_n dX9_latest_17 rfl ?_
  refine r_iaddN dX9_latest_18 ?_
  refine r_callV (As := [.int (nI (k)), .int (nI (((6 + (4 * ((pMany g k - 1) - a))) + w)))]) dX9_latest_19 (tX9_of hD (by omega)) rfl RM_0 rfl rfl oX9_of rfl kX9_31M nX9_of eX9_of (by unfold fRoom; decide) (Nat.le_of_ble_eq_true rfl) rfl (bc' := 0) (bs' := 0) rfl rfl ?_
  show fR _ _ _ 22 _ (.int (pOf (g) (k) (((6 + (4 * ((pMany g k - 1) - a))) + w))) :: _) _ _ _ _
  exact fR_iret dX9_latest_22 rfl (isI_of (by rfl))
theorem tX9_whyNot {l : Launch} {κ : KP} {M : Mem} {m sA tA nA : Nat} {th sv kp ln ap pt : Int32} {hs : Int64} {g tx nu : Nat → Int32} (hD : rDis m sA tA nA) {nd k : Nat} (hk : k < 8) (hnd : nd < 3) (hm : pOf g k 5 = nI (pMany g k)) (hm9 : pMany g k ≤ 9) (hB : ¬ pOf g k 3 = -1 → ∃ b, b < 3 ∧ pOf g k 3 = nI b) : fM l κ mX9_whyNot [.ref (m), .int (nI (nd)), .int (nI (k))] (RM M m sA tA nA (th) (sv) (kp) (ln) (ap) (pt) (hs) (g) (tx) (nu)) (isI (pWhyNot g nd k) (RM M m sA tA nA (th) (sv) (kp) (ln) (ap) (pt) (hs) (g) (tx) (nu))) := by
  refine fM_of rfl (by decide +kernel) (Nat.le_of_ble_eq_true rfl) ?_
  show fR l κ mX9_whyNot 0 [(0, .ref (m)), (1, .int (nI (nd))), (2, .int (nI (k)))] [] (RM M m sA tA nA (th) (sv) (kp) (ln) (ap) (pt) (hs) (g) (tx) (nu)) 0 0 _
  refine r_aload_n dX9_whyNot_0 rfl ?_
  refine r_iload_n dX9_whyNot_1 rfl ?_
  refine r_iconst (v := nI 1) dX9_whyNot_2 (by decide) ?_
  refine r_callV (As := [.int (nI (nd)), .int (nI (1))]) dX9_whyNot_3 (tX9_needleAt hD (by omega)) rfl RM_0 rfl rfl oX9_needleAt rfl kX9_48M nX9_needleAt eX9_needleAt (by unfold fRoom; decide) (Nat.le_of_ble_eq_true rfl) rfl (bc' := 0) (bs' := 0) rfl rfl ?_
  show fR _ _ _ 6 _ (.int ((g) (31 + 3 * nd + 1)) :: _) _ _ _ _
  refine r_iconst (v := nI 1) dX9_whyNot_6 (by decide) ?_
  refine r_icmp_ne (tgt := 12) dX9_whyNot_7 (by decide) (fun c1 => ?_) (fun c1 => ?_)
  · skip
    refine r_aload_n dX9_whyNot_12 rfl ?_
    refine r_iload_n dX9_whyNot_13 rfl ?_
    refine r_iconst (v := nI 3) dX9_whyNot_14 (by decide) ?_
    refine r_callV (As := [.int (nI (k)), .int (nI (3))]) dX9_whyNot_15 (tX9_of hD (by omega)) rfl RM_0 rfl rfl oX9_of rfl kX9_31M nX9_of eX9_of (by unfold fRoom; decide) (Nat.le_of_ble_eq_true rfl) rfl (bc' := 0) (bs' := 0) rfl rfl ?_
    show fR _ _ _ 18 _ (.int (pOf (g) (k) (3)) :: _) _ _ _ _
    refine r_iconst (v := (-1)) dX9_whyNot_18 (by decide) ?_
    refine r_icmp_ne (tgt := 24) dX9_whyNot_19 (by decide) (fun c2 => ?_) (fun c2 => ?_)
    · skip
      obtain ⟨bb, hbb, ebb⟩ := hB c2
      have hJ3 : fR l κ mX9_whyNot 62 [(0, .ref (m)), (1, .int (nI (nd))), (2, .int (nI (k)))] [.int (bI (decide (pAbs (pOf g k 2 - g (28 + bb)) ≤ g 5)))] (RM M m sA tA nA (th) (sv) (kp) (ln) (ap) (pt) (hs) (g) (tx) (nu)) 0 0 (isI (pWhyNot g nd k) (RM M m sA tA nA (th) (sv) (kp) (ln) (ap) (pt) (hs) (g) (tx) (nu))) := by
        refine r_istore_n (lv' := [(3, .int (bI (decide (pAbs (pOf g k 2 - g (28 + bb)) ≤ g 5)))), (0, .ref (m)), (1, .int (nI (nd))), (2, .int (nI (k)))]) dX9_whyNot_62 (by decide) rfl ?_
        refine r_iload_n dX9_whyNot_63 rfl ?_
        refine r_if_neB (tgt := 71) dX9_whyNot_64 (by decide) (fun c4 => ?_) (fun c4 => ?_)
        · skip
          refine r_aload_n dX9_whyNot_71 rfl ?_
          refine r_iload_n dX9_whyNot_72 rfl ?_
          refine r_iconst (v := nI 5) dX9_whyNot_73 (by decide) ?_
          refine r_callV (As := [.int (nI (k)), .int (nI (5))]) dX9_whyNot_74 (tX9_of hD (by omega)) rfl RM_0 rfl rfl oX9_of rfl kX9_31M nX9_of eX9_of (by unfold fRoom; decide) (Nat.le_of_ble_eq_true rfl) rfl (bc' := 0) (bs' := 0) rfl rfl ?_
          show fR _ _ _ 77 _ (.int (pOf (g) (k) (5)) :: _) _ _ _ _
          refine r_top hm ?_
          refine r_bipush (v := nI 9) dX9_whyNot_77 (by decide) ?_
          refine r_icmp_neN (tgt := 86) dX9_whyNot_79 (by decide) (by omega) (by omega) (fun c5 => ?_) (fun c5 => ?_)
          · skip
            refine r_iconst (v := nI 0) dX9_whyNot_86 (by decide) ?_
            exact fR_iret dX9_whyNot_87 rfl (isI_of (by unfold pWhyNot; first | (rw [if_pos c1]; done) | (rw [if_neg c1, if_pos c2]; done) | (rw [if_neg c1, if_neg c2, ebb, nI_clamp (by omega)]; (try (have hd := of_decide_eq_true c4)); (try (have hd := of_decide_eq_false c4)); (repeat (first | rw [if_pos (by first | assumption | exact Int32.not_le.mp (by assumption) | exact Int32.not_lt.mp (by assumption) | omega)] | rw [if_neg (by first | assumption | exact Int32.not_lt.mpr (by assumption) | exact Int32.not_le.mpr (by assumption) | exact bne_of (by assumption) | exact not_not_intro (by assumption) | omega)])); first | done | rfl)))
          · skip
            refine r_iconst (v := nI 4) dX9_whyNot_82 (by decide) ?_
            refine r_goto (tgt := 87) dX9_whyNot_83 (by decide) ?_
            exact fR_iret dX9_whyNot_87 rfl (isI_of (by unfold pWhyNot; first | (rw [if_pos c1]; done) | (rw [if_neg c1, if_pos c2]; done) | (rw [if_neg c1, if_neg c2, ebb, nI_clamp (by omega)]; (try (have hd := of_decide_eq_true c4)); (try (have hd := of_decide_eq_false c4)); (repeat (first | rw [if_pos (by first | assumption | exact Int32.not_le.mp (by assumption) | exact Int32.not_lt.mp (by assumption) | omega)] | rw [if_neg (by first | assumption | exact Int32.not_lt.mpr (by assumption) | exact Int32.not_le.mpr (by assumption) | exact bne_of (by assumption) | exact not_not_intro (by assumption) | omega)])); first | done | rfl)))
        · skip
          refine r_iconst (v := nI 3) dX9_whyNot_67 (by decide) ?_
          refine r_goto (tgt := 87) dX9_whyNot_68 (by decide) ?_
          exact fR_iret dX9_whyNot_87 rfl (isI_of (by unfold pWhyNot; first | (rw [if_pos c1]; done) | (rw [if_neg c1, if_pos c2]; done) | (rw [if_neg c1, if_neg c2, ebb, nI_clamp (by omega)]; (try (have hd := of_decide_eq_true c4)); (try (have hd := of_decide_eq_false c4)); (repeat (first | rw [if_pos (by first | assumption | exact Int32.not_le.mp (by assumption) | exact Int32.not_lt.mp (by assumption) | omega)] | rw [if_neg (by first | assumption | exact Int32.not_lt.mpr (by assumption) | exact Int32.not_le.mpr (by assumption) | exact bne_of (by assumption) | exact not_not_intro (by assumption) | omega)])); first | done | rfl)))
      refine r_aload_n dX9_whyNot_24 rfl ?_
      refine r_iload_n dX9_whyNot_25 rfl ?_
      refine r_iconst (v := nI 2) dX9_whyNot_26 (by decide) ?_
      refine r_callV (As := [.int (nI (k)), .int (nI (2))]) dX9_whyNot_27 (tX9_of hD (by omega)) rfl RM_0 rfl rfl oX9_of rfl kX9_31M nX9_of eX9_of (by unfold fRoom; decide) (Nat.le_of_ble_eq_true rfl) rfl (bc' := 0) (bs' := 0) rfl rfl ?_
      show fR _ _ _ 30 _ (.int (pOf (g) (k) (2)) :: _) _ _ _ _
      refine r_aload_n dX9_whyNot_30 rfl ?_
      refine r_get (k := 1) dX9_whyNot_31 RM_0 rfl rfl (by decide) kX9_7F ?_
      refine r_bipush (v := nI 28) dX9_whyNot_34 (by decide) ?_
      refine r_aload_n dX9_whyNot_36 rfl ?_
      refine r_iload_n dX9_whyNot_37 rfl ?_
      refine r_iconst (v := nI 3) dX9_whyNot_38 (by decide) ?_
      refine r_callV (As := [.int (nI (k)), .int (nI (3))]) dX9_whyNot_39 (tX9_of hD (by omega)) rfl RM_0 rfl rfl oX9_of rfl kX9_31M nX9_of eX9_of (by unfold fRoom; decide) (Nat.le_of_ble_eq_true rfl) rfl (bc' := 0) (bs' := 0) rfl rfl ?_
      show fR _ _ _ 42 _ (.int (pOf (g) (k) (3)) :: _) _ _ _ _
      refine r_top ebb ?_
      refine r_iaddN dX9_whyNot_42 ?_
      refine r_ialdN dX9_whyNot_43 (RM_1 hD) (by omega) (by decide) rfl ?_
      refine r_isub dX9_whyNot_44 ?_
      refine r_callS (As := [.int (((pOf (g) (k) (2)) - ((g) ((28 + bb)))))]) dX9_whyNot_45 tX9_size rfl oX9_size rfl kX9_45M sX9_size (by unfold fRoom; decide) (Nat.le_of_ble_eq_true rfl) rfl (bc' := 0) (bs' := 0) rfl rfl ?_
      show fR _ _ _ 48 _ (.int (pAbs (((pOf (g) (k) (2)) - ((g) ((28 + bb)))))) :: _) _ _ _ _
      refine r_aload_n dX9_whyNot_48 rfl ?_
      refine r_get (k := 1) dX9_whyNot_49 RM_0 rfl rfl (by decide) kX9_7F ?_
      refine r_iconst (v := nI 5) dX9_whyNot_52 (by decide) ?_
      refine r_ialdN dX9_whyNot_53 (RM_1 hD) (by omega) (by decide) rfl ?_
      refine r_icmp_gt (tgt := 61) dX9_whyNot_54 (by decide) (fun c6 => ?_) (fun c6 => ?_)
      · skip
        refine r_iconst (v := nI 0) dX9_whyNot_61 (by decide) ?_
        exact r_top (bJ_f (by first | exact decide_eq_true (Int32.not_lt.mp (by assumption)) | exact decide_eq_false (Int32.not_le.mpr (by assumption)))) hJ3
      · skip
        refine r_iconst (v := nI 1) dX9_whyNot_57 (by decide) ?_
        refine r_goto (tgt := 62) dX9_whyNot_58 (by decide) ?_
        exact r_top (bJ_t (by first | exact decide_eq_true (Int32.not_lt.mp (by assumption)) | exact decide_eq_false (Int32.not_le.mpr (by assumption)))) hJ3
    · skip
      refine r_iconst (v := nI 2) dX9_whyNot_22 (by decide) ?_
      exact fR_iret dX9_whyNot_23 rfl (isI_of (by unfold pWhyNot; first | (rw [if_pos c1]; done) | (rw [if_neg c1, if_pos c2]; done) | (rw [if_neg c1, if_neg c2, ebb, nI_clamp (by omega)]; (try (have hd := of_decide_eq_true c4)); (try (have hd := of_decide_eq_false c4)); (repeat (first | rw [if_pos (by first | assumption | exact Int32.not_le.mp (by assumption) | exact Int32.not_lt.mp (by assumption) | omega)] | rw [if_neg (by first | assumption | exact Int32.not_lt.mpr (by assumption) | exact Int32.not_le.mpr (by assumption) | exact bne_of (by assumption) | exact not_not_intro (by assumption) | omega)])); first | done | rfl)))
  · skip
    refine r_iconst (v := nI 1) dX9_whyNot_10 (by decide) ?_
    exact fR_iret dX9_whyNot_11 rfl (isI_of (by unfold pWhyNot; first | (rw [if_pos c1]; done) | (rw [if_neg c1, if_pos c2]; done) | (rw [if_neg c1, if_neg c2, ebb, nI_clamp (by omega)]; (try (have hd := of_decide_eq_true c4)); (try (have hd := of_decide_eq_false c4)); (repeat (first | rw [if_pos (by first | assumption | exact Int32.not_le.mp (by assumption) | exact Int32.not_lt.mp (by assumption) | omega)] | rw [if_neg (by first | assumption | exact Int32.not_lt.mpr (by assumption) | exact Int32.not_le.mpr (by assumption) | exact bne_of (by assumption) | exact not_not_intro (by assumption) | omega)])); first | done | rfl)))
theorem tX9_whyNone {l : Launch} {κ : KP} {M : Mem} {m sA tA nA : Nat} {th sv kp ln ap pt : Int32} {hs : Int64} {g tx nu : Nat → Int32} (hD : rDis m sA tA nA) {k : Nat} (hk : k < 8) (hm : pOf g k 5 = nI (pMany g k)) (hm9 : pMany g k ≤ 9) : fM l κ mX9_whyNone [.ref (m), .int (nI (k))] (RM M m sA tA nA (th) (sv) (kp) (ln) (ap) (pt) (hs) (g) (tx) (nu)) (isI (pWhy g k) (RM M m sA tA nA (th) (sv) (kp) (ln) (ap) (pt) (hs) (g) (tx) (nu))) := by
  refine fM_of rfl (by decide +kernel) (Nat.le_of_ble_eq_true rfl) ?_
  show fR l κ mX9_whyNone 0 [(0, .ref (m)), (1, .int (nI (k)))] [] (RM M m sA tA nA (th) (sv) (kp) (ln) (ap) (pt) (hs) (g) (tx) (nu)) 0 0 _
  refine r_aload_n dX9_whyNone_0 rfl ?_
  refine r_iload_n dX9_whyNone_1 rfl ?_
  refine r_iconst (v := nI 5) dX9_whyNone_2 (by decide) ?_
  refine r_callV (As := [.int (nI (k)), .int (nI (5))]) dX9_whyNone_3 (tX9_of hD (by omega)) rfl RM_0 rfl rfl oX9_of rfl kX9_31M nX9_of eX9_of (by unfold fRoom; decide) (Nat.le_of_ble_eq_true rfl) rfl (bc' := 0) (bs' := 0) rfl rfl ?_
  show fR _ _ _ 6 _ (.int (pOf (g) (k) (5)) :: _) _ _ _ _
  refine r_top hm ?_
  refine r_iconst (v := nI 3) dX9_whyNone_6 (by decide) ?_
  refine r_icmp_geN (tgt := 12) dX9_whyNone_7 (by decide) (by omega) (by omega) (fun c1 => ?_) (fun c1 => ?_)
  · skip
    refine r_sipush (v := nI 400) dX9_whyNone_12 (by decide) ?_
    refine r_istore_n (lv' := [(2, .int (nI (400))), (0, .ref (m)), (1, .int (nI (k)))]) dX9_whyNone_15 (by decide) rfl ?_
    refine r_iconst (v := nI 0) dX9_whyNone_16 (by decide) ?_
    refine r_istore_n (lv' := [(3, .int (nI (0))), (2, .int (nI (400))), (0, .ref (m)), (1, .int (nI (k)))]) dX9_whyNone_17 (by decide) rfl ?_
    refine r_iconst (v := nI 1) dX9_whyNone_18 (by decide) ?_
    refine r_istore (lv' := [(4, .int (nI (1))), (3, .int (nI (0))), (2, .int (nI (400))), (0, .ref (m)), (1, .int (nI (k)))]) dX9_whyNone_19 (by decide) rfl ?_
    refine r_iconst (v := nI 0) dX9_whyNone_21 (by decide) ?_
    refine r_istore (lv' := [(5, .int (nI (0))), (4, .int (nI (1))), (3, .int (nI (0))), (2, .int (nI (400))), (0, .ref (m)), (1, .int (nI (k)))]) dX9_whyNone_22 (by decide) rfl ?_
    refine r_iload dX9_whyNone_24 rfl ?_
    refine r_iconst (v := nI 3) dX9_whyNone_26 (by decide) ?_
    refine r_icmp_geN (tgt := 109) dX9_whyNone_27 (by decide) (by omega) (by omega) (fun c2 => absurd c2 (by omega)) (fun c2 => ?_)
    refine r_aload_n dX9_whyNone_30 rfl ?_
    refine r_iload_n dX9_whyNone_31 rfl ?_
    refine r_iload dX9_whyNone_32 rfl ?_
    refine r_iconst (v := nI 1) dX9_whyNone_34 (by decide) ?_
    refine r_callV (As := [.int (nI (k)), .int (nI (0)), .int (nI (1))]) dX9_whyNone_35 (tX9_latest hD (by omega) hm hm9 (by omega) (by omega)) rfl RM_0 rfl rfl oX9_latest rfl kX9_55M nX9_latest eX9_latest (by unfold fRoom; decide) (Nat.le_of_ble_eq_true rfl) rfl (bc' := 0) (bs' := 0) rfl rfl ?_
    show fR _ _ _ 38 _ (.int (pLat (g) (k) (0) (1)) :: _) _ _ _ _
    refine r_istore (lv' := [(6, .int (pLat (g) (k) (0) (1))), (5, .int (nI (0))), (4, .int (nI (1))), (3, .int (nI (0))), (2, .int (nI (400))), (0, .ref (m)), (1, .int (nI (k)))]) dX9_whyNone_38 (by decide) rfl ?_
    have hJ3 : fR l κ mX9_whyNone 75 [(6, .int (pLat (g) (k) (0) (1))), (5, .int (nI (0))), (4, .int (nI (1))), (3, .int (nI (0))), (2, .int (nI (400))), (0, .ref (m)), (1, .int (nI (k)))] [.int (bI (pAre g k 1))] (RM M m sA tA nA (th) (sv) (kp) (ln) (ap) (pt) (hs) (g) (tx) (nu)) 0 0 (isI (pWhy g k) (RM M m sA tA nA (th) (sv) (kp) (ln) (ap) (pt) (hs) (g) (tx) (nu))) := by
      refine r_istore (lv' := [(4, .int (bI (pAre g k 1))), (6, .int (pLat (g) (k) (0) (1))), (5, .int (nI (0))), (3, .int (nI (0))), (2, .int (nI (400))), (0, .ref (m)), (1, .int (nI (k)))]) dX9_whyNone_75 (by decide) rfl ?_
      have hJ4 : fR l κ mX9_whyNone 89 [(4, .int (bI (pAre g k 1))), (6, .int (pLat (g) (k) (0) (1))), (5, .int (nI (0))), (3, .int (nI (0))), (2, .int (nI (400))), (0, .ref (m)), (1, .int (nI (k)))] [.int ((pLeast g k 1))] (RM M m sA tA nA (th) (sv) (kp) (ln) (ap) (pt) (hs) (g) (tx) (nu)) 0 0 (isI (pWhy g k) (RM M m sA tA nA (th) (sv) (kp) (ln) (ap) (pt) (hs) (g) (tx) (nu))) := by
        refine r_istore_n (lv' := [(2, .int ((pLeast g k 1))), (4, .int (bI (pAre g k 1))), (6, .int (pLat (g) (k) (0) (1))), (5, .int (nI (0))), (3, .int (nI (0))), (0, .ref (m)), (1, .int (nI (k)))]) dX9_whyNone_89 (by decide) rfl ?_
        have hJ5 : fR l κ mX9_whyNone 102 [(2, .int ((pLeast g k 1))), (4, .int (bI (pAre g k 1))), (6, .int (pLat (g) (k) (0) (1))), (5, .int (nI (0))), (3, .int (nI (0))), (0, .ref (m)), (1, .int (nI (k)))] [.int ((pMost g k 1))] (RM M m sA tA nA (th) (sv) (kp) (ln) (ap) (pt) (hs) (g) (tx) (nu)) 0 0 (isI (pWhy g k) (RM M m sA tA nA (th) (sv) (kp) (ln) (ap) (pt) (hs) (g) (tx) (nu))) := by
          refine r_istore_n (lv' := [(3, .int ((pMost g k 1))), (2, .int ((pLeast g k 1))), (4, .int (bI (pAre g k 1))), (6, .int (pLat (g) (k) (0) (1))), (5, .int (nI (0))), (0, .ref (m)), (1, .int (nI (k)))]) dX9_whyNone_102 (by decide) rfl ?_
          refine r_iinc (v := (nI (0 + 1))) (lv' := [(5, .int (nI (0 + 1))), (3, .int ((pMost g k 1))), (2, .int ((pLeast g k 1))), (4, .int (bI (pAre g k 1))), (6, .int (pLat (g) (k) (0) (1))), (0, .ref (m)), (1, .int (nI (k)))]) dX9_whyNone_103 rfl (nI_inc _) (by decide) rfl ?_
          refine r_goto (tgt := 24) dX9_whyNone_106 (by decide) ?_
          refine r_iload dX9_whyNone_24 rfl ?_
          refine r_iconst (v := nI 3) dX9_whyNone_26 (by decide) ?_
          refine r_icmp_geN (tgt := 109) dX9_whyNone_27 (by decide) (by omega) (by omega) (fun c6 => absurd c6 (by omega)) (fun c6 => ?_)
          refine r_aload_n dX9_whyNone_30 rfl ?_
          refine r_iload_n dX9_whyNone_31 rfl ?_
          refine r_iload dX9_whyNone_32 rfl ?_
          refine r_iconst (v := nI 1) dX9_whyNone_34 (by decide) ?_
          refine r_callV (As := [.int (nI (k)), .int (nI (0 + 1)), .int (nI (1))]) dX9_whyNone_35 (tX9_latest hD (by omega) hm hm9 (by omega) (by omega)) rfl RM_0 rfl rfl oX9_latest rfl kX9_55M nX9_latest eX9_latest (by unfold fRoom; decide) (Nat.le_of_ble_eq_true rfl) rfl (bc' := 0) (bs' := 0) rfl rfl ?_
          show fR _ _ _ 38 _ (.int (pLat (g) (k) (1) (1)) :: _) _ _ _ _
          refine r_istore (lv' := [(6, .int (pLat (g) (k) (1) (1))), (5, .int (nI (0 + 1))), (3, .int ((pMost g k 1))), (2, .int ((pLeast g k 1))), (4, .int (bI (pAre g k 1))), (0, .ref (m)), (1, .int (nI (k)))]) dX9_whyNone_38 (by decide) rfl ?_
          have hJ7 : fR l κ mX9_whyNone 75 [(6, .int (pLat (g) (k) (1) (1))), (5, .int (nI (0 + 1))), (3, .int ((pMost g k 1))), (2, .int ((pLeast g k 1))), (4, .int (bI (pAre g k 1))), (0, .ref (m)), (1, .int (nI (k)))] [.int (bI (pAre g k 2))] (RM M m sA tA nA (th) (sv) (kp) (ln) (ap) (pt) (hs) (g) (tx) (nu)) 0 0 (isI (pWhy g k) (RM M m sA tA nA (th) (sv) (kp) (ln) (ap) (pt) (hs) (g) (tx) (nu))) := by
            refine r_istore (lv' := [(4, .int (bI (pAre g k 2))), (6, .int (pLat (g) (k) (1) (1))), (5, .int (nI (0 + 1))), (3, .int ((pMost g k 1))), (2, .int ((pLeast g k 1))), (0, .ref (m)), (1, .int (nI (k)))]) dX9_whyNone_75 (by decide) rfl ?_
            have hJ8 : fR l κ mX9_whyNone 89 [(4, .int (bI (pAre g k 2))), (6, .int (pLat (g) (k) (1) (1))), (5, .int (nI (0 + 1))), (3, .int ((pMost g k 1))), (2, .int ((pLeast g k 1))), (0, .ref (m)), (1, .int (nI (k)))] [.int ((pLeast g k 2))] (RM M m sA tA nA (th) (sv) (kp) (ln) (ap) (pt) (hs) (g) (tx) (nu)) 0 0 (isI (pWhy g k) (RM M m sA tA nA (th) (sv) (kp) (ln) (ap) (pt) (hs) (g) (tx) (nu))) := by
              refine r_istore_n (lv' := [(2, .int ((pLeast g k 2))), (4, .int (bI (pAre g k 2))), (6, .int (pLat (g) (k) (1) (1))), (5, .int (nI (0 + 1))), (3, .int ((pMost g k 1))), (0, .ref (m)), (1, .int (nI (k)))]) dX9_whyNone_89 (by decide) rfl ?_
              have hJ9 : fR l κ mX9_whyNone 102 [(2, .int ((pLeast g k 2))), (4, .int (bI (pAre g k 2))), (6, .int (pLat (g) (k) (1) (1))), (5, .int (nI (0 + 1))), (3, .int ((pMost g k 1))), (0, .ref (m)), (1, .int (nI (k)))] [.int ((pMost g k 2))] (RM M m sA tA nA (th) (sv) (kp) (ln) (ap) (pt) (hs) (g) (tx) (nu)) 0 0 (isI (pWhy g k) (RM M m sA tA nA (th) (sv) (kp) (ln) (ap) (pt) (hs) (g) (tx) (nu))) := by
                refine r_istore_n (lv' := [(3, .int ((pMost g k 2))), (2, .int ((pLeast g k 2))), (4, .int (bI (pAre g k 2))), (6, .int (pLat (g) (k) (1) (1))), (5, .int (nI (0 + 1))), (0, .ref (m)), (1, .int (nI (k)))]) dX9_whyNone_102 (by decide) rfl ?_
                refine r_iinc (v := (nI (0 + 1 + 1))) (lv' := [(5, .int (nI (0 + 1 + 1))), (3, .int ((pMost g k 2))), (2, .int ((pLeast g k 2))), (4, .int (bI (pAre g k 2))), (6, .int (pLat (g) (k) (1) (1))), (0, .ref (m)), (1, .int (nI (k)))]) dX9_whyNone_103 rfl (nI_inc _) (by decide) rfl ?_
                refine r_goto (tgt := 24) dX9_whyNone_106 (by decide) ?_
                refine r_iload dX9_whyNone_24 rfl ?_
                refine r_iconst (v := nI 3) dX9_whyNone_26 (by decide) ?_
                refine r_icmp_geN (tgt := 109) dX9_whyNone_27 (by decide) (by omega) (by omega) (fun c10 => absurd c10 (by omega)) (fun c10 => ?_)
                refine r_aload_n dX9_whyNone_30 rfl ?_
                refine r_iload_n dX9_whyNone_31 rfl ?_
                refine r_iload dX9_whyNone_32 rfl ?_
                refine r_iconst (v := nI 1) dX9_whyNone_34 (by decide) ?_
                refine r_callV (As := [.int (nI (k)), .int (nI (0 + 1 + 1)), .int (nI (1))]) dX9_whyNone_35 (tX9_latest hD (by omega) hm hm9 (by omega) (by omega)) rfl RM_0 rfl rfl oX9_latest rfl kX9_55M nX9_latest eX9_latest (by unfold fRoom; decide) (Nat.le_of_ble_eq_true rfl) rfl (bc' := 0) (bs' := 0) rfl rfl ?_
                show fR _ _ _ 38 _ (.int (pLat (g) (k) (2) (1)) :: _) _ _ _ _
                refine r_istore (lv' := [(6, .int (pLat (g) (k) (2) (1))), (5, .int (nI (0 + 1 + 1))), (3, .int ((pMost g k 2))), (2, .int ((pLeast g k 2))), (4, .int (bI (pAre g k 2))), (0, .ref (m)), (1, .int (nI (k)))]) dX9_whyNone_38 (by decide) rfl ?_
                have hJ11 : fR l κ mX9_whyNone 75 [(6, .int (pLat (g) (k) (2) (1))), (5, .int (nI (0 + 1 + 1))), (3, .int ((pMost g k 2))), (2, .int ((pLeast g k 2))), (4, .int (bI (pAre g k 2))), (0, .ref (m)), (1, .int (nI (k)))] [.int (bI (pAre g k 3))] (RM M m sA tA nA (th) (sv) (kp) (ln) (ap) (pt) (hs) (g) (tx) (nu)) 0 0 (isI (pWhy g k) (RM M m sA tA nA (th) (sv) (kp) (ln) (ap) (pt) (hs) (g) (tx) (nu))) := by
                  refine r_istore (lv' := [(4, .int (bI (pAre g k 3))), (6, .int (pLat (g) (k) (2) (1))), (5, .int (nI (0 + 1 + 1))), (3, .int ((pMost g k 2))), (2, .int ((pLeast g k 2))), (0, .ref (m)), (1, .int (nI (k)))]) dX9_whyNone_75 (by decide) rfl ?_
                  have hJ12 : fR l κ mX9_whyNone 89 [(4, .int (bI (pAre g k 3))), (6, .int (pLat (g) (k) (2) (1))), (5, .int (nI (0 + 1 + 1))), (3, .int ((pMost g k 2))), (2, .int ((pLeast g k 2))), (0, .ref (m)), (1, .int (nI (k)))] [.int ((pLeast g k 3))] (RM M m sA tA nA (th) (sv) (kp) (ln) (ap) (pt) (hs) (g) (tx) (nu)) 0 0 (isI (pWhy g k) (RM M m sA tA nA (th) (sv) (kp) (ln) (ap) (pt) (hs) (g) (tx) (nu))) := by
                    refine r_istore_n (lv' := [(2, .int ((pLeast g k 3))), (4, .int (bI (pAre g k 3))), (6, .int (pLat (g) (k) (2) (1))), (5, .int (nI (0 + 1 + 1))), (3, .int ((pMost g k 2))), (0, .ref (m)), (1, .int (nI (k)))]) dX9_whyNone_89 (by decide) rfl ?_
                    have hJ13 : fR l κ mX9_whyNone 102 [(2, .int ((pLeast g k 3))), (4, .int (bI (pAre g k 3))), (6, .int (pLat (g) (k) (2) (1))), (5, .int (nI (0 + 1 + 1))), (3, .int ((pMost g k 2))), (0, .ref (m)), (1, .int (nI (k)))] [.int ((pMost g k 3))] (RM M m sA tA nA (th) (sv) (kp) (ln) (ap) (pt) (hs) (g) (tx) (nu)) 0 0 (isI (pWhy g k) (RM M m sA tA nA (th) (sv) (kp) (ln) (ap) (pt) (hs) (g) (tx) (nu))) := by
                      refine r_istore_n (lv' := [(3, .int ((pMost g k 3))), (2, .int ((pLeast g k 3))), (4, .int (bI (pAre g k 3))), (6, .int (pLat (g) (k) (2) (1))), (5, .int (nI (0 + 1 + 1))), (0, .ref (m)), (1, .int (nI (k)))]) dX9_whyNone_102 (by decide) rfl ?_
                      refine r_iinc (v := (nI (0 + 1 + 1 + 1))) (lv' := [(5, .int (nI (0 + 1 + 1 + 1))), (3, .int ((pMost g k 3))), (2, .int ((pLeast g k 3))), (4, .int (bI (pAre g k 3))), (6, .int (pLat (g) (k) (2) (1))), (0, .ref (m)), (1, .int (nI (k)))]) dX9_whyNone_103 rfl (nI_inc _) (by decide) rfl ?_
                      refine r_goto (tgt := 24) dX9_whyNone_106 (by decide) ?_
                      refine r_iload dX9_whyNone_24 rfl ?_
                      refine r_iconst (v := nI 3) dX9_whyNone_26 (by decide) ?_
                      refine r_icmp_geN (tgt := 109) dX9_whyNone_27 (by decide) (by omega) (by omega) (fun c14 => ?_) (fun c14 => absurd c14 (by omega))
                      refine r_iload dX9_whyNone_109 rfl ?_
                      refine r_if_neB (tgt := 119) dX9_whyNone_111 (by decide) (fun c15 => ?_) (fun c15 => ?_)
                      · skip
                        refine r_iload_n dX9_whyNone_119 rfl ?_
                        refine r_iload_n dX9_whyNone_120 rfl ?_
                        refine r_isub dX9_whyNone_121 ?_
                        refine r_aload_n dX9_whyNone_122 rfl ?_
                        refine r_get (k := 1) dX9_whyNone_123 RM_0 rfl rfl (by decide) kX9_7F ?_
                        refine r_bipush (v := nI 6) dX9_whyNone_126 (by decide) ?_
                        refine r_ialdN dX9_whyNone_128 (RM_1 hD) (by omega) (by decide) rfl ?_
                        refine r_icmp_le (tgt := 137) dX9_whyNone_129 (by decide) (fun c16 => ?_) (fun c16 => ?_)
                        · skip
                          refine r_iconst (v := nI 0) dX9_whyNone_137 (by decide) ?_
                          exact fR_iret dX9_whyNone_138 rfl (isI_of (by unfold pWhy; (repeat (first | rw [if_pos (by first | assumption | exact Int32.not_le.mp (by assumption) | exact Int32.not_lt.mp (by assumption) | omega)] | rw [if_neg (by first | assumption | exact Int32.not_lt.mpr (by assumption) | exact Int32.not_le.mpr (by assumption) | exact bne_of (by assumption) | exact not_not_intro (by assumption) | omega)])); first | done | rfl))
                        · skip
                          refine r_bipush (v := nI 7) dX9_whyNone_132 (by decide) ?_
                          refine r_goto (tgt := 138) dX9_whyNone_134 (by decide) ?_
                          exact fR_iret dX9_whyNone_138 rfl (isI_of (by unfold pWhy; (repeat (first | rw [if_pos (by first | assumption | exact Int32.not_le.mp (by assumption) | exact Int32.not_lt.mp (by assumption) | omega)] | rw [if_neg (by first | assumption | exact Int32.not_lt.mpr (by assumption) | exact Int32.not_le.mpr (by assumption) | exact bne_of (by assumption) | exact not_not_intro (by assumption) | omega)])); first | done | rfl))
                      · skip
                        refine r_bipush (v := nI 6) dX9_whyNone_114 (by decide) ?_
                        refine r_goto (tgt := 138) dX9_whyNone_116 (by decide) ?_
                        exact fR_iret dX9_whyNone_138 rfl (isI_of (by unfold pWhy; (repeat (first | rw [if_pos (by first | assumption | exact Int32.not_le.mp (by assumption) | exact Int32.not_lt.mp (by assumption) | omega)] | rw [if_neg (by first | assumption | exact Int32.not_lt.mpr (by assumption) | exact Int32.not_le.mpr (by assumption) | exact bne_of (by assumption) | exact not_not_intro (by assumption) | omega)])); first | done | rfl))
                    refine r_iload dX9_whyNone_90 rfl ?_
                    refine r_iload_n dX9_whyNone_92 rfl ?_
                    refine r_icmp_le (tgt := 101) dX9_whyNone_93 (by decide) (fun c17 => ?_) (fun c17 => ?_)
                    · skip
                      refine r_iload_n dX9_whyNone_101 rfl ?_
                      exact r_top (by (show _ = if _ < _ then _ else _); (repeat (first | rw [if_pos (by first | assumption | exact Int32.not_le.mp (by assumption) | exact Int32.not_lt.mp (by assumption) | omega)] | rw [if_neg (by first | assumption | exact Int32.not_lt.mpr (by assumption) | exact Int32.not_le.mpr (by assumption) | exact bne_of (by assumption) | exact not_not_intro (by assumption) | omega)])); first | done | rfl) hJ13
                    · skip
                      refine r_iload dX9_whyNone_96 rfl ?_
                      refine r_goto (tgt := 102) dX9_whyNone_98 (by decide) ?_
                      exact r_top (by (show _ = if _ < _ then _ else _); (repeat (first | rw [if_pos (by first | assumption | exact Int32.not_le.mp (by assumption) | exact Int32.not_lt.mp (by assumption) | omega)] | rw [if_neg (by first | assumption | exact Int32.not_lt.mpr (by assumption) | exact Int32.not_le.mpr (by assumption) | exact bne_of (by assumption) | exact not_not_intro (by assumption) | omega)])); first | done | rfl) hJ13
                  refine r_iload dX9_whyNone_77 rfl ?_
                  refine r_iload_n dX9_whyNone_79 rfl ?_
                  refine r_icmp_ge (tgt := 88) dX9_whyNone_80 (by decide) (fun c18 => ?_) (fun c18 => ?_)
                  · skip
                    refine r_iload_n dX9_whyNone_88 rfl ?_
                    exact r_top (by (show _ = if _ < _ then _ else _); (repeat (first | rw [if_pos (by first | assumption | exact Int32.not_le.mp (by assumption) | exact Int32.not_lt.mp (by assumption) | omega)] | rw [if_neg (by first | assumption | exact Int32.not_lt.mpr (by assumption) | exact Int32.not_le.mpr (by assumption) | exact bne_of (by assumption) | exact not_not_intro (by assumption) | omega)])); first | done | rfl) hJ12
                  · skip
                    refine r_iload dX9_whyNone_83 rfl ?_
                    refine r_goto (tgt := 89) dX9_whyNone_85 (by decide) ?_
                    exact r_top (by (show _ = if _ < _ then _ else _); (repeat (first | rw [if_pos (by first | assumption | exact Int32.not_le.mp (by assumption) | exact Int32.not_lt.mp (by assumption) | omega)] | rw [if_neg (by first | assumption | exact Int32.not_lt.mpr (by assumption) | exact Int32.not_le.mpr (by assumption) | exact bne_of (by assumption) | exact not_not_intro (by assumption) | omega)])); first | done | rfl) hJ12
                refine r_iload dX9_whyNone_40 rfl ?_
                refine r_if_eqB (tgt := 74) dX9_whyNone_42 (by decide) (fun c19 => ?_) (fun c19 => ?_)
                · skip
                  refine r_iconst (v := nI 0) dX9_whyNone_74 (by decide) ?_
                  exact r_top (bJ_f (by (show (pAre g k 2 && (decide (pLat g k 2 2 = nI 100) && decide (pLat g k 2 3 = nI 5))) = _); simp [*, pAre_0])) hJ11
                · skip
                  refine r_aload_n dX9_whyNone_45 rfl ?_
                  refine r_iload_n dX9_whyNone_46 rfl ?_
                  refine r_iload dX9_whyNone_47 rfl ?_
                  refine r_iconst (v := nI 2) dX9_whyNone_49 (by decide) ?_
                  refine r_callV (As := [.int (nI (k)), .int (nI (0 + 1 + 1)), .int (nI (2))]) dX9_whyNone_50 (tX9_latest hD (by omega) hm hm9 (by omega) (by omega)) rfl RM_0 rfl rfl oX9_latest rfl kX9_55M nX9_latest eX9_latest (by unfold fRoom; decide) (Nat.le_of_ble_eq_true rfl) rfl (bc' := 0) (bs' := 0) rfl rfl ?_
                  show fR _ _ _ 53 _ (.int (pLat (g) (k) (2) (2)) :: _) _ _ _ _
                  refine r_bipush (v := nI 100) dX9_whyNone_53 (by decide) ?_
                  refine r_icmp_ne (tgt := 74) dX9_whyNone_55 (by decide) (fun c20 => ?_) (fun c20 => ?_)
                  · skip
                    refine r_iconst (v := nI 0) dX9_whyNone_74 (by decide) ?_
                    exact r_top (bJ_f (by (show (pAre g k 2 && (decide (pLat g k 2 2 = nI 100) && decide (pLat g k 2 3 = nI 5))) = _); simp [*, pAre_0])) hJ11
                  · skip
                    refine r_aload_n dX9_whyNone_58 rfl ?_
                    refine r_iload_n dX9_whyNone_59 rfl ?_
                    refine r_iload dX9_whyNone_60 rfl ?_
                    refine r_iconst (v := nI 3) dX9_whyNone_62 (by decide) ?_
                    refine r_callV (As := [.int (nI (k)), .int (nI (0 + 1 + 1)), .int (nI (3))]) dX9_whyNone_63 (tX9_latest hD (by omega) hm hm9 (by omega) (by omega)) rfl RM_0 rfl rfl oX9_latest rfl kX9_55M nX9_latest eX9_latest (by unfold fRoom; decide) (Nat.le_of_ble_eq_true rfl) rfl (bc' := 0) (bs' := 0) rfl rfl ?_
                    show fR _ _ _ 66 _ (.int (pLat (g) (k) (2) (3)) :: _) _ _ _ _
                    refine r_iconst (v := nI 5) dX9_whyNone_66 (by decide) ?_
                    refine r_icmp_ne (tgt := 74) dX9_whyNone_67 (by decide) (fun c21 => ?_) (fun c21 => ?_)
                    · skip
                      refine r_iconst (v := nI 0) dX9_whyNone_74 (by decide) ?_
                      exact r_top (bJ_f (by (show (pAre g k 2 && (decide (pLat g k 2 2 = nI 100) && decide (pLat g k 2 3 = nI 5))) = _); simp [*, pAre_0])) hJ11
                    · skip
                      refine r_iconst (v := nI 1) dX9_whyNone_70 (by decide) ?_
                      refine r_goto (tgt := 75) dX9_whyNone_71 (by decide) ?_
                      exact r_top (bJ_t (by (show (pAre g k 2 && (decide (pLat g k 2 2 = nI 100) && decide (pLat g k 2 3 = nI 5))) = _); simp [*, pAre_0])) hJ11
              refine r_iload dX9_whyNone_90 rfl ?_
              refine r_iload_n dX9_whyNone_92 rfl ?_
              refine r_icmp_le (tgt := 101) dX9_whyNone_93 (by decide) (fun c22 => ?_) (fun c22 => ?_)
              · skip
                refine r_iload_n dX9_whyNone_101 rfl ?_
                exact r_top (by (show _ = if _ < _ then _ else _); (repeat (first | rw [if_pos (by first | assumption | exact Int32.not_le.mp (by assumption) | exact Int32.not_lt.mp (by assumption) | omega)] | rw [if_neg (by first | assumption | exact Int32.not_lt.mpr (by assumption) | exact Int32.not_le.mpr (by assumption) | exact bne_of (by assumption) | exact not_not_intro (by assumption) | omega)])); first | done | rfl) hJ9
              · skip
                refine r_iload dX9_whyNone_96 rfl ?_
                refine r_goto (tgt := 102) dX9_whyNone_98 (by decide) ?_
                exact r_top (by (show _ = if _ < _ then _ else _); (repeat (first | rw [if_pos (by first | assumption | exact Int32.not_le.mp (by assumption) | exact Int32.not_lt.mp (by assumption) | omega)] | rw [if_neg (by first | assumption | exact Int32.not_lt.mpr (by assumption) | exact Int32.not_le.mpr (by assumption) | exact bne_of (by assumption) | exact not_not_intro (by assumption) | omega)])); first | done | rfl) hJ9
            refine r_iload dX9_whyNone_77 rfl ?_
            refine r_iload_n dX9_whyNone_79 rfl ?_
            refine r_icmp_ge (tgt := 88) dX9_whyNone_80 (by decide) (fun c23 => ?_) (fun c23 => ?_)
            · skip
              refine r_iload_n dX9_whyNone_88 rfl ?_
              exact r_top (by (show _ = if _ < _ then _ else _); (repeat (first | rw [if_pos (by first | assumption | exact Int32.not_le.mp (by assumption) | exact Int32.not_lt.mp (by assumption) | omega)] | rw [if_neg (by first | assumption | exact Int32.not_lt.mpr (by assumption) | exact Int32.not_le.mpr (by assumption) | exact bne_of (by assumption) | exact not_not_intro (by assumption) | omega)])); first | done | rfl) hJ8
            · skip
              refine r_iload dX9_whyNone_83 rfl ?_
              refine r_goto (tgt := 89) dX9_whyNone_85 (by decide) ?_
              exact r_top (by (show _ = if _ < _ then _ else _); (repeat (first | rw [if_pos (by first | assumption | exact Int32.not_le.mp (by assumption) | exact Int32.not_lt.mp (by assumption) | omega)] | rw [if_neg (by first | assumption | exact Int32.not_lt.mpr (by assumption) | exact Int32.not_le.mpr (by assumption) | exact bne_of (by assumption) | exact not_not_intro (by assumption) | omega)])); first | done | rfl) hJ8
          refine r_iload dX9_whyNone_40 rfl ?_
          refine r_if_eqB (tgt := 74) dX9_whyNone_42 (by decide) (fun c24 => ?_) (fun c24 => ?_)
          · skip
            refine r_iconst (v := nI 0) dX9_whyNone_74 (by decide) ?_
            exact r_top (bJ_f (by (show (pAre g k 1 && (decide (pLat g k 1 2 = nI 100) && decide (pLat g k 1 3 = nI 5))) = _); simp [*, pAre_0])) hJ7
          · skip
            refine r_aload_n dX9_whyNone_45 rfl ?_
            refine r_iload_n dX9_whyNone_46 rfl ?_
            refine r_iload dX9_whyNone_47 rfl ?_
            refine r_iconst (v := nI 2) dX9_whyNone_49 (by decide) ?_
            refine r_callV (As := [.int (nI (k)), .int (nI (0 + 1)), .int (nI (2))]) dX9_whyNone_50 (tX9_latest hD (by omega) hm hm9 (by omega) (by omega)) rfl RM_0 rfl rfl oX9_latest rfl kX9_55M nX9_latest eX9_latest (by unfold fRoom; decide) (Nat.le_of_ble_eq_true rfl) rfl (bc' := 0) (bs' := 0) rfl rfl ?_
            show fR _ _ _ 53 _ (.int (pLat (g) (k) (1) (2)) :: _) _ _ _ _
            refine r_bipush (v := nI 100) dX9_whyNone_53 (by decide) ?_
            refine r_icmp_ne (tgt := 74) dX9_whyNone_55 (by decide) (fun c25 => ?_) (fun c25 => ?_)
            · skip
              refine r_iconst (v := nI 0) dX9_whyNone_74 (by decide) ?_
              exact r_top (bJ_f (by (show (pAre g k 1 && (decide (pLat g k 1 2 = nI 100) && decide (pLat g k 1 3 = nI 5))) = _); simp [*, pAre_0])) hJ7
            · skip
              refine r_aload_n dX9_whyNone_58 rfl ?_
              refine r_iload_n dX9_whyNone_59 rfl ?_
              refine r_iload dX9_whyNone_60 rfl ?_
              refine r_iconst (v := nI 3) dX9_whyNone_62 (by decide) ?_
              refine r_callV (As := [.int (nI (k)), .int (nI (0 + 1)), .int (nI (3))]) dX9_whyNone_63 (tX9_latest hD (by omega) hm hm9 (by omega) (by omega)) rfl RM_0 rfl rfl oX9_latest rfl kX9_55M nX9_latest eX9_latest (by unfold fRoom; decide) (Nat.le_of_ble_eq_true rfl) rfl (bc' := 0) (bs' := 0) rfl rfl ?_
              show fR _ _ _ 66 _ (.int (pLat (g) (k) (1) (3)) :: _) _ _ _ _
              refine r_iconst (v := nI 5) dX9_whyNone_66 (by decide) ?_
              refine r_icmp_ne (tgt := 74) dX9_whyNone_67 (by decide) (fun c26 => ?_) (fun c26 => ?_)
              · skip
                refine r_iconst (v := nI 0) dX9_whyNone_74 (by decide) ?_
                exact r_top (bJ_f (by (show (pAre g k 1 && (decide (pLat g k 1 2 = nI 100) && decide (pLat g k 1 3 = nI 5))) = _); simp [*, pAre_0])) hJ7
              · skip
                refine r_iconst (v := nI 1) dX9_whyNone_70 (by decide) ?_
                refine r_goto (tgt := 75) dX9_whyNone_71 (by decide) ?_
                exact r_top (bJ_t (by (show (pAre g k 1 && (decide (pLat g k 1 2 = nI 100) && decide (pLat g k 1 3 = nI 5))) = _); simp [*, pAre_0])) hJ7
        refine r_iload dX9_whyNone_90 rfl ?_
        refine r_iload_n dX9_whyNone_92 rfl ?_
        refine r_icmp_le (tgt := 101) dX9_whyNone_93 (by decide) (fun c27 => ?_) (fun c27 => ?_)
        · skip
          refine r_iload_n dX9_whyNone_101 rfl ?_
          exact r_top (by (show _ = if _ < _ then _ else _); (repeat (first | rw [if_pos (by first | assumption | exact Int32.not_le.mp (by assumption) | exact Int32.not_lt.mp (by assumption) | omega)] | rw [if_neg (by first | assumption | exact Int32.not_lt.mpr (by assumption) | exact Int32.not_le.mpr (by assumption) | exact bne_of (by assumption) | exact not_not_intro (by assumption) | omega)])); first | done | rfl) hJ5
        · skip
          refine r_iload dX9_whyNone_96 rfl ?_
          refine r_goto (tgt := 102) dX9_whyNone_98 (by decide) ?_
          exact r_top (by (show _ = if _ < _ then _ else _); (repeat (first | rw [if_pos (by first | assumption | exact Int32.not_le.mp (by assumption) | exact Int32.not_lt.mp (by assumption) | omega)] | rw [if_neg (by first | assumption | exact Int32.not_lt.mpr (by assumption) | exact Int32.not_le.mpr (by assumption) | exact bne_of (by assumption) | exact not_not_intro (by assumption) | omega)])); first | done | rfl) hJ5
      refine r_iload dX9_whyNone_77 rfl ?_
      refine r_iload_n dX9_whyNone_79 rfl ?_
      refine r_icmp_ge (tgt := 88) dX9_whyNone_80 (by decide) (fun c28 => ?_) (fun c28 => ?_)
      · skip
        refine r_iload_n dX9_whyNone_88 rfl ?_
        exact r_top (by (show _ = if _ < _ then _ else _); (repeat (first | rw [if_pos (by first | assumption | exact Int32.not_le.mp (by assumption) | exact Int32.not_lt.mp (by assumption) | omega)] | rw [if_neg (by first | assumption | exact Int32.not_lt.mpr (by assumption) | exact Int32.not_le.mpr (by assumption) | exact bne_of (by assumption) | exact not_not_intro (by assumption) | omega)])); first | done | rfl) hJ4
      · skip
        refine r_iload dX9_whyNone_83 rfl ?_
        refine r_goto (tgt := 89) dX9_whyNone_85 (by decide) ?_
        exact r_top (by (show _ = if _ < _ then _ else _); (repeat (first | rw [if_pos (by first | assumption | exact Int32.not_le.mp (by assumption) | exact Int32.not_lt.mp (by assumption) | omega)] | rw [if_neg (by first | assumption | exact Int32.not_lt.mpr (by assumption) | exact Int32.not_le.mpr (by assumption) | exact bne_of (by assumption) | exact not_not_intro (by assumption) | omega)])); first | done | rfl) hJ4
    refine r_iload dX9_whyNone_40 rfl ?_
    refine r_if_eqN (tgt := 74) dX9_whyNone_42 (by decide) (by omega) (fun c29 => absurd c29 (by omega)) (fun c29 => ?_)
    refine r_aload_n dX9_whyNone_45 rfl ?_
    refine r_iload_n dX9_whyNone_46 rfl ?_
    refine r_iload dX9_whyNone_47 rfl ?_
    refine r_iconst (v := nI 2) dX9_whyNone_49 (by decide) ?_
    refine r_callV (As := [.int (nI (k)), .int (nI (0)), .int (nI (2))]) dX9_whyNone_50 (tX9_latest hD (by omega) hm hm9 (by omega) (by omega)) rfl RM_0 rfl rfl oX9_latest rfl kX9_55M nX9_latest eX9_latest (by unfold fRoom; decide) (Nat.le_of_ble_eq_true rfl) rfl (bc' := 0) (bs' := 0) rfl rfl ?_
    show fR _ _ _ 53 _ (.int (pLat (g) (k) (0) (2)) :: _) _ _ _ _
    refine r_bipush (v := nI 100) dX9_whyNone_53 (by decide) ?_
    refine r_icmp_ne (tgt := 74) dX9_whyNone_55 (by decide) (fun c30 => ?_) (fun c30 => ?_)
    · skip
      refine r_iconst (v := nI 0) dX9_whyNone_74 (by decide) ?_
      exact r_top (bJ_f (by (show (pAre g k 0 && (decide (pLat g k 0 2 = nI 100) && decide (pLat g k 0 3 = nI 5))) = _); simp [*, pAre_0])) hJ3
    · skip
      refine r_aload_n dX9_whyNone_58 rfl ?_
      refine r_iload_n dX9_whyNone_59 rfl ?_
      refine r_iload dX9_whyNone_60 rfl ?_
      refine r_iconst (v := nI 3) dX9_whyNone_62 (by decide) ?_
      refine r_callV (As := [.int (nI (k)), .int (nI (0)), .int (nI (3))]) dX9_whyNone_63 (tX9_latest hD (by omega) hm hm9 (by omega) (by omega)) rfl RM_0 rfl rfl oX9_latest rfl kX9_55M nX9_latest eX9_latest (by unfold fRoom; decide) (Nat.le_of_ble_eq_true rfl) rfl (bc' := 0) (bs' := 0) rfl rfl ?_
      show fR _ _ _ 66 _ (.int (pLat (g) (k) (0) (3)) :: _) _ _ _ _
      refine r_iconst (v := nI 5) dX9_whyNone_66 (by decide) ?_
      refine r_icmp_ne (tgt := 74) dX9_whyNone_67 (by decide) (fun c31 => ?_) (fun c31 => ?_)
      · skip
        refine r_iconst (v := nI 0) dX9_whyNone_74 (by decide) ?_
        exact r_top (bJ_f (by (show (pAre g k 0 && (decide (pLat g k 0 2 = nI 100) && decide (pLat g k 0 3 = nI 5))) = _); simp [*, pAre_0])) hJ3
      · skip
        refine r_iconst (v := nI 1) dX9_whyNone_70 (by decide) ?_
        refine r_goto (tgt := 75) dX9_whyNone_71 (by decide) ?_
        exact r_top (bJ_t (by (show (pAre g k 0 && (decide (pLat g k 0 2 = nI 100) && decide (pLat g k 0 3 = nI 5))) = _); simp [*, pAre_0])) hJ3
  · skip
    refine r_iconst (v := nI 5) dX9_whyNone_10 (by decide) ?_
    exact fR_iret dX9_whyNone_11 rfl (isI_of (by unfold pWhy; (repeat (first | rw [if_pos (by first | assumption | exact Int32.not_le.mp (by assumption) | exact Int32.not_lt.mp (by assumption) | omega)] | rw [if_neg (by first | assumption | exact Int32.not_lt.mpr (by assumption) | exact Int32.not_le.mpr (by assumption) | exact bne_of (by assumption) | exact not_not_intro (by assumption) | omega)])); first | done | rfl))
theorem tX9_penetration {l : Launch} {κ : KP} {M : Mem} {m sA tA nA : Nat} {th sv kp ln ap pt : Int32} {hs : Int64} {g tx nu : Nat → Int32} (hD : rDis m sA tA nA) {k : Nat} (hk : k < 8) (hm : pOf g k 5 = nI (pMany g k)) (hm9 : pMany g k ≤ 9) : fM l κ mX9_penetration [.ref (m), .int (nI (k))] (RM M m sA tA nA (th) (sv) (kp) (ln) (ap) (pt) (hs) (g) (tx) (nu)) (isI (pPen g k) (RM M m sA tA nA (th) (sv) (kp) (ln) (ap) (pt) (hs) (g) (tx) (nu))) := by
  refine fM_of rfl (by decide +kernel) (Nat.le_of_ble_eq_true rfl) ?_
  show fR l κ mX9_penetration 0 [(0, .ref (m)), (1, .int (nI (k)))] [] (RM M m sA tA nA (th) (sv) (kp) (ln) (ap) (pt) (hs) (g) (tx) (nu)) 0 0 _
  refine r_aload_n dX9_penetration_0 rfl ?_
  refine r_iload_n dX9_penetration_1 rfl ?_
  refine r_callV (As := [.int (nI (k))]) dX9_penetration_2 (tX9_whyNone hD (by omega) hm hm9) rfl RM_0 rfl rfl oX9_whyNone rfl kX9_59M nX9_whyNone eX9_whyNone (by unfold fRoom; decide) (Nat.le_of_ble_eq_true rfl) rfl (bc' := 0) (bs' := 0) rfl rfl ?_
  show fR _ _ _ 5 _ (.int (pWhy (g) (k)) :: _) _ _ _ _
  refine r_if_le (tgt := 12) dX9_penetration_5 (by decide) (fun c1 => ?_) (fun c1 => ?_)
  · skip
    have h3 := pWhy_many c1
    refine r_aload_n dX9_penetration_12 rfl ?_
    refine r_iload_n dX9_penetration_13 rfl ?_
    refine r_iconst (v := nI 0) dX9_penetration_14 (by decide) ?_
    refine r_iconst (v := nI 1) dX9_penetration_15 (by decide) ?_
    refine r_callV (As := [.int (nI (k)), .int (nI (0)), .int (nI (1))]) dX9_penetration_16 (tX9_latest hD (by omega) hm hm9 (by omega) (by omega)) rfl RM_0 rfl rfl oX9_latest rfl kX9_55M nX9_latest eX9_latest (by unfold fRoom; decide) (Nat.le_of_ble_eq_true rfl) rfl (bc' := 0) (bs' := 0) rfl rfl ?_
    show fR _ _ _ 19 _ (.int (pLat (g) (k) (0) (1)) :: _) _ _ _ _
    refine r_aload_n dX9_penetration_19 rfl ?_
    refine r_iload_n dX9_penetration_20 rfl ?_
    refine r_iconst (v := nI 1) dX9_penetration_21 (by decide) ?_
    refine r_iconst (v := nI 1) dX9_penetration_22 (by decide) ?_
    refine r_callV (As := [.int (nI (k)), .int (nI (1)), .int (nI (1))]) dX9_penetration_23 (tX9_latest hD (by omega) hm hm9 (by omega) (by omega)) rfl RM_0 rfl rfl oX9_latest rfl kX9_55M nX9_latest eX9_latest (by unfold fRoom; decide) (Nat.le_of_ble_eq_true rfl) rfl (bc' := 0) (bs' := 0) rfl rfl ?_
    show fR _ _ _ 26 _ (.int (pLat (g) (k) (1) (1)) :: _) _ _ _ _
    refine r_iadd dX9_penetration_26 ?_
    refine r_aload_n dX9_penetration_27 rfl ?_
    refine r_iload_n dX9_penetration_28 rfl ?_
    refine r_iconst (v := nI 2) dX9_penetration_29 (by decide) ?_
    refine r_iconst (v := nI 1) dX9_penetration_30 (by decide) ?_
    refine r_callV (As := [.int (nI (k)), .int (nI (2)), .int (nI (1))]) dX9_penetration_31 (tX9_latest hD (by omega) hm hm9 (by omega) (by omega)) rfl RM_0 rfl rfl oX9_latest rfl kX9_55M nX9_latest eX9_latest (by unfold fRoom; decide) (Nat.le_of_ble_eq_true rfl) rfl (bc' := 0) (bs' := 0) rfl rfl ?_
    show fR _ _ _ 34 _ (.int (pLat (g) (k) (2) (1)) :: _) _ _ _ _
    refine r_iadd dX9_penetration_34 ?_
    refine r_iconst (v := nI 3) dX9_penetration_35 (by decide) ?_
    refine r_idiv dX9_penetration_36 (by decide) ?_
    exact fR_iret dX9_penetration_37 rfl (isI_of (by unfold pPen; first | (rw [if_neg (Int32.not_lt.mpr c1)]) | (rw [if_pos (Int32.not_le.mp c1)])))
  · skip
    refine r_iconst (v := (-1)) dX9_penetration_8 (by decide) ?_
    refine r_goto (tgt := 37) dX9_penetration_9 (by decide) ?_
    exact fR_iret dX9_penetration_37 rfl (isI_of (by unfold pPen; first | (rw [if_neg (Int32.not_lt.mpr c1)]) | (rw [if_pos (Int32.not_le.mp c1)])))
theorem tX9_needles {l : Launch} {κ : KP} {M : Mem} {m sA tA nA : Nat} {th sv kp ln ap pt : Int32} {hs : Int64} {g tx nu : Nat → Int32} (hD : rDis m sA tA nA) {k : Nat} (hk : k < 8) (hm : pOf g k 5 = nI (pMany g k)) (hm9 : pMany g k ≤ 9) : fM l κ mX9_needles [.ref (m), .int (nI (k))] (RM M m sA tA nA (th) (sv) (kp) (ln) (ap) (pt) (hs) (g) (tx) (nu)) (isI (pNeed g k) (RM M m sA tA nA (th) (sv) (kp) (ln) (ap) (pt) (hs) (g) (tx) (nu))) := by
  refine fM_of rfl (by decide +kernel) (Nat.le_of_ble_eq_true rfl) ?_
  show fR l κ mX9_needles 0 [(0, .ref (m)), (1, .int (nI (k)))] [] (RM M m sA tA nA (th) (sv) (kp) (ln) (ap) (pt) (hs) (g) (tx) (nu)) 0 0 _
  refine r_iconst (v := nI 0) dX9_needles_0 (by decide) ?_
  refine r_istore_n (lv' := [(2, .int (nI (0))), (0, .ref (m)), (1, .int (nI (k)))]) dX9_needles_1 (by decide) rfl ?_
  refine r_iconst (v := nI 0) dX9_needles_2 (by decide) ?_
  refine r_istore_n (lv' := [(3, .int (nI (0))), (2, .int (nI (0))), (0, .ref (m)), (1, .int (nI (k)))]) dX9_needles_3 (by decide) rfl ?_
  refine r_iload_n dX9_needles_4 rfl ?_
  refine r_iconst (v := nI 3) dX9_needles_5 (by decide) ?_
  refine r_icmp_geN (tgt := 37) dX9_needles_6 (by decide) (by omega) (by omega) (fun c1 => absurd c1 (by omega)) (fun c1 => ?_)
  refine r_iload_n dX9_needles_9 rfl ?_
  refine r_aload_n dX9_needles_10 rfl ?_
  refine r_iload_n dX9_needles_11 rfl ?_
  refine r_iconst (v := nI 5) dX9_needles_12 (by decide) ?_
  refine r_callV (As := [.int (nI (k)), .int (nI (5))]) dX9_needles_13 (tX9_of hD (by omega)) rfl RM_0 rfl rfl oX9_of rfl kX9_31M nX9_of eX9_of (by unfold fRoom; decide) (Nat.le_of_ble_eq_true rfl) rfl (bc' := 0) (bs' := 0) rfl rfl ?_
  show fR _ _ _ 16 _ (.int (pOf (g) (k) (5)) :: _) _ _ _ _
  refine r_top hm ?_
  refine r_icmp_geN (tgt := 37) dX9_needles_16 (by decide) (by omega) (by omega) (fun c2 => ?_) (fun c2 => ?_)
  · skip
    refine r_iload_n dX9_needles_37 rfl ?_
    exact fR_iret dX9_needles_38 rfl (isI_of (by first | (rw [pNeed, show min 3 (pMany g k) = 0 by omega]; rfl) | (rw [pNeed, show min 3 (pMany g k) = 1 by omega]; rfl) | (rw [pNeed, show min 3 (pMany g k) = 2 by omega]; rfl) | (rw [pNeed, show min 3 (pMany g k) = 3 by omega]; rfl)))
  · skip
    refine r_iload_n dX9_needles_19 rfl ?_
    refine r_iconst (v := nI 1) dX9_needles_20 (by decide) ?_
    refine r_aload_n dX9_needles_21 rfl ?_
    refine r_iload_n dX9_needles_22 rfl ?_
    refine r_iload_n dX9_needles_23 rfl ?_
    refine r_iconst (v := nI 0) dX9_needles_24 (by decide) ?_
    refine r_callV (As := [.int (nI (k)), .int (nI (0)), .int (nI (0))]) dX9_needles_25 (tX9_latest hD (by omega) hm hm9 (by omega) (by omega)) rfl RM_0 rfl rfl oX9_latest rfl kX9_55M nX9_latest eX9_latest (by unfold fRoom; decide) (Nat.le_of_ble_eq_true rfl) rfl (bc' := 0) (bs' := 0) rfl rfl ?_
    show fR _ _ _ 28 _ (.int (pLat (g) (k) (0) (0)) :: _) _ _ _ _
    refine r_ishl dX9_needles_28 ?_
    refine r_ior dX9_needles_29 ?_
    refine r_istore_n (lv' := [(2, .int (((nI (0)) ||| (((nI (1)) <<< ((pLat (g) (k) (0) (0)) &&& 31)))))), (3, .int (nI (0))), (0, .ref (m)), (1, .int (nI (k)))]) dX9_needles_30 (by decide) rfl ?_
    refine r_iinc (v := (nI (0 + 1))) (lv' := [(3, .int (nI (0 + 1))), (2, .int (((nI (0)) ||| (((nI (1)) <<< ((pLat (g) (k) (0) (0)) &&& 31)))))), (0, .ref (m)), (1, .int (nI (k)))]) dX9_needles_31 rfl (nI_inc _) (by decide) rfl ?_
    refine r_goto (tgt := 4) dX9_needles_34 (by decide) ?_
    refine r_iload_n dX9_needles_4 rfl ?_
    refine r_iconst (v := nI 3) dX9_needles_5 (by decide) ?_
    refine r_icmp_geN (tgt := 37) dX9_needles_6 (by decide) (by omega) (by omega) (fun c3 => absurd c3 (by omega)) (fun c3 => ?_)
    refine r_iload_n dX9_needles_9 rfl ?_
    refine r_aload_n dX9_needles_10 rfl ?_
    refine r_iload_n dX9_needles_11 rfl ?_
    refine r_iconst (v := nI 5) dX9_needles_12 (by decide) ?_
    refine r_callV (As := [.int (nI (k)), .int (nI (5))]) dX9_needles_13 (tX9_of hD (by omega)) rfl RM_0 rfl rfl oX9_of rfl kX9_31M nX9_of eX9_of (by unfold fRoom; decide) (Nat.le_of_ble_eq_true rfl) rfl (bc' := 0) (bs' := 0) rfl rfl ?_
    show fR _ _ _ 16 _ (.int (pOf (g) (k) (5)) :: _) _ _ _ _
    refine r_top hm ?_
    refine r_icmp_geN (tgt := 37) dX9_needles_16 (by decide) (by omega) (by omega) (fun c4 => ?_) (fun c4 => ?_)
    · skip
      refine r_iload_n dX9_needles_37 rfl ?_
      exact fR_iret dX9_needles_38 rfl (isI_of (by first | (rw [pNeed, show min 3 (pMany g k) = 0 by omega]; rfl) | (rw [pNeed, show min 3 (pMany g k) = 1 by omega]; rfl) | (rw [pNeed, show min 3 (pMany g k) = 2 by omega]; rfl) | (rw [pNeed, show min 3 (pMany g k) = 3 by omega]; rfl)))
    · skip
      refine r_iload_n dX9_needles_19 rfl ?_
      refine r_iconst (v := nI 1) dX9_needles_20 (by decide) ?_
      refine r_aload_n dX9_needles_21 rfl ?_
      refine r_iload_n dX9_needles_22 rfl ?_
      refine r_iload_n dX9_needles_23 rfl ?_
      refine r_iconst (v := nI 0) dX9_needles_24 (by decide) ?_
      refine r_callV (As := [.int (nI (k)), .int (nI (0 + 1)), .int (nI (0))]) dX9_needles_25 (tX9_latest hD (by omega) hm hm9 (by omega) (by omega)) rfl RM_0 rfl rfl oX9_latest rfl kX9_55M nX9_latest eX9_latest (by unfold fRoom; decide) (Nat.le_of_ble_eq_true rfl) rfl (bc' := 0) (bs' := 0) rfl rfl ?_
      show fR _ _ _ 28 _ (.int (pLat (g) (k) (1) (0)) :: _) _ _ _ _
      refine r_ishl dX9_needles_28 ?_
      refine r_ior dX9_needles_29 ?_
      refine r_istore_n (lv' := [(2, .int (((((nI (0)) ||| (((nI (1)) <<< ((pLat (g) (k) (0) (0)) &&& 31))))) ||| (((nI (1)) <<< ((pLat (g) (k) (1) (0)) &&& 31)))))), (3, .int (nI (0 + 1))), (0, .ref (m)), (1, .int (nI (k)))]) dX9_needles_30 (by decide) rfl ?_
      refine r_iinc (v := (nI (0 + 1 + 1))) (lv' := [(3, .int (nI (0 + 1 + 1))), (2, .int (((((nI (0)) ||| (((nI (1)) <<< ((pLat (g) (k) (0) (0)) &&& 31))))) ||| (((nI (1)) <<< ((pLat (g) (k) (1) (0)) &&& 31)))))), (0, .ref (m)), (1, .int (nI (k)))]) dX9_needles_31 rfl (nI_inc _) (by decide) rfl ?_
      refine r_goto (tgt := 4) dX9_needles_34 (by decide) ?_
      refine r_iload_n dX9_needles_4 rfl ?_
      refine r_iconst (v := nI 3) dX9_needles_5 (by decide) ?_
      refine r_icmp_geN (tgt := 37) dX9_needles_6 (by decide) (by omega) (by omega) (fun c5 => absurd c5 (by omega)) (fun c5 => ?_)
      refine r_iload_n dX9_needles_9 rfl ?_
      refine r_aload_n dX9_needles_10 rfl ?_
      refine r_iload_n dX9_needles_11 rfl ?_
      refine r_iconst (v := nI 5) dX9_needles_12 (by decide) ?_
      refine r_callV (As := [.int (nI (k)), .int (nI (5))]) dX9_needles_13 (tX9_of hD (by omega)) rfl RM_0 rfl rfl oX9_of rfl kX9_31M nX9_of eX9_of (by unfold fRoom; decide) (Nat.le_of_ble_eq_true rfl) rfl (bc' := 0) (bs' := 0) rfl rfl ?_
      show fR _ _ _ 16 _ (.int (pOf (g) (k) (5)) :: _) _ _ _ _
      refine r_top hm ?_
      refine r_icmp_geN (tgt := 37) dX9_needles_16 (by decide) (by omega) (by omega) (fun c6 => ?_) (fun c6 => ?_)
      · skip
        refine r_iload_n dX9_needles_37 rfl ?_
        exact fR_iret dX9_needles_38 rfl (isI_of (by first | (rw [pNeed, show min 3 (pMany g k) = 0 by omega]; rfl) | (rw [pNeed, show min 3 (pMany g k) = 1 by omega]; rfl) | (rw [pNeed, show min 3 (pMany g k) = 2 by omega]; rfl) | (rw [pNeed, show min 3 (pMany g k) = 3 by omega]; rfl)))
      · skip
        refine r_iload_n dX9_needles_19 rfl ?_
        refine r_iconst (v := nI 1) dX9_needles_20 (by decide) ?_
        refine r_aload_n dX9_needles_21 rfl ?_
        refine r_iload_n dX9_needles_22 rfl ?_
        refine r_iload_n dX9_needles_23 rfl ?_
        refine r_iconst (v := nI 0) dX9_needles_24 (by decide) ?_
        refine r_callV (As := [.int (nI (k)), .int (nI (0 + 1 + 1)), .int (nI (0))]) dX9_needles_25 (tX9_latest hD (by omega) hm hm9 (by omega) (by omega)) rfl RM_0 rfl rfl oX9_latest rfl kX9_55M nX9_latest eX9_latest (by unfold fRoom; decide) (Nat.le_of_ble_eq_true rfl) rfl (bc' := 0) (bs' := 0) rfl rfl ?_
        show fR _ _ _ 28 _ (.int (pLat (g) (k) (2) (0)) :: _) _ _ _ _
        refine r_ishl dX9_needles_28 ?_
        refine r_ior dX9_needles_29 ?_
        refine r_istore_n (lv' := [(2, .int (((((((nI (0)) ||| (((nI (1)) <<< ((pLat (g) (k) (0) (0)) &&& 31))))) ||| (((nI (1)) <<< ((pLat (g) (k) (1) (0)) &&& 31))))) ||| (((nI (1)) <<< ((pLat (g) (k) (2) (0)) &&& 31)))))), (3, .int (nI (0 + 1 + 1))), (0, .ref (m)), (1, .int (nI (k)))]) dX9_needles_30 (by decide) rfl ?_
        refine r_iinc (v := (nI (0 + 1 + 1 + 1))) (lv' := [(3, .int (nI (0 + 1 + 1 + 1))), (2, .int (((((((nI (0)) ||| (((nI (1)) <<< ((pLat (g) (k) (0) (0)) &&& 31))))) ||| (((nI (1)) <<< ((pLat (g) (k) (1) (0)) &&& 31))))) ||| (((nI (1)) <<< ((pLat (g) (k) (2) (0)) &&& 31)))))), (0, .ref (m)), (1, .int (nI (k)))]) dX9_needles_31 rfl (nI_inc _) (by decide) rfl ?_
        refine r_goto (tgt := 4) dX9_needles_34 (by decide) ?_
        refine r_iload_n dX9_needles_4 rfl ?_
        refine r_iconst (v := nI 3) dX9_needles_5 (by decide) ?_
        refine r_icmp_geN (tgt := 37) dX9_needles_6 (by decide) (by omega) (by omega) (fun c7 => ?_) (fun c7 => absurd c7 (by omega))
        refine r_iload_n dX9_needles_37 rfl ?_
        exact fR_iret dX9_needles_38 rfl (isI_of (by first | (rw [pNeed, show min 3 (pMany g k) = 0 by omega]; rfl) | (rw [pNeed, show min 3 (pMany g k) = 1 by omega]; rfl) | (rw [pNeed, show min 3 (pMany g k) = 2 by omega]; rfl) | (rw [pNeed, show min 3 (pMany g k) = 3 by omega]; rfl)))
theorem tX9_told {l : Launch} {κ : KP} {M : Mem} {m sA tA nA : Nat} {th sv kp ln ap pt : Int32} {hs : Int64} {g tx nu : Nat → Int32} (hD : rDis m sA tA nA) {k : Nat} {q : Bool} (hk : k < 8) (hm : pOf g k 5 = nI (pMany g k)) (hm9 : pMany g k ≤ 9) : fM l κ mX9_told [.ref (m), .int (nI (k)), .int (bI (q))] (RM M m sA tA nA (th) (sv) (kp) (ln) (ap) (pt) (hs) (g) (tx) (nu)) (isI (pTold g k q) (RM M m sA tA nA (th) (sv) (kp) (ln) (ap) (pt) (hs) (g) (tx) (nu))) := by
  refine fM_of rfl (by decide +kernel) (Nat.le_of_ble_eq_true rfl) ?_
  show fR l κ mX9_told 0 [(0, .ref (m)), (1, .int (nI (k))), (2, .int (bI (q)))] [] (RM M m sA tA nA (th) (sv) (kp) (ln) (ap) (pt) (hs) (g) (tx) (nu)) 0 0 _
  refine r_iload_n dX9_told_0 rfl ?_
  refine r_if_eqB (tgt := 12) dX9_told_1 (by decide) (fun c1 => ?_) (fun c1 => ?_)
  · skip
    refine r_aload_n dX9_told_12 rfl ?_
    refine r_iload_n dX9_told_13 rfl ?_
    refine r_iconst (v := nI 4) dX9_told_14 (by decide) ?_
    refine r_callV (As := [.int (nI (k)), .int (nI (4))]) dX9_told_15 (tX9_of hD (by omega)) rfl RM_0 rfl rfl oX9_of rfl kX9_31M nX9_of eX9_of (by unfold fRoom; decide) (Nat.le_of_ble_eq_true rfl) rfl (bc' := 0) (bs' := 0) rfl rfl ?_
    show fR _ _ _ 18 _ (.int (pOf (g) (k) (4)) :: _) _ _ _ _
    exact fR_iret dX9_told_18 rfl (isI_of (by unfold pTold; rw [c1]; rfl))
  · skip
    refine r_aload_n dX9_told_4 rfl ?_
    refine r_iload_n dX9_told_5 rfl ?_
    refine r_callV (As := [.int (nI (k))]) dX9_told_6 (tX9_penetration hD (by omega) hm hm9) rfl RM_0 rfl rfl oX9_penetration rfl kX9_65M nX9_penetration eX9_penetration (by unfold fRoom; decide) (Nat.le_of_ble_eq_true rfl) rfl (bc' := 0) (bs' := 0) rfl rfl ?_
    show fR _ _ _ 9 _ (.int (pPen (g) (k)) :: _) _ _ _ _
    refine r_goto (tgt := 18) dX9_told_9 (by decide) ?_
    exact fR_iret dX9_told_18 rfl (isI_of (by unfold pTold; rw [c1]; rfl))
theorem tX9_hardness {l : Launch} {κ : KP} {M : Mem} {m sA tA nA : Nat} {th sv kp ln ap pt : Int32} {hs : Int64} {g tx nu : Nat → Int32} (hD : rDis m sA tA nA) {d : Nat} (hd : d < 6) (h0 : ¬ g (10 + 3 * d + 0) = 0) : fM l κ mX9_hardness [.ref (m), .int (nI (d))] (RM M m sA tA nA (th) (sv) (kp) (ln) (ap) (pt) (hs) (g) (tx) (nu)) (isI (pHard g d) (RM M m sA tA nA (th) (sv) (kp) (ln) (ap) (pt) (hs) (g) (tx) (nu))) := by
  refine fM_of rfl (by decide +kernel) (Nat.le_of_ble_eq_true rfl) ?_
  show fR l κ mX9_hardness 0 [(0, .ref (m)), (1, .int (nI (d)))] [] (RM M m sA tA nA (th) (sv) (kp) (ln) (ap) (pt) (hs) (g) (tx) (nu)) 0 0 _
  refine r_sipush (v := nI 1000) dX9_hardness_0 (by decide) ?_
  refine r_aload_n dX9_hardness_3 rfl ?_
  refine r_iload_n dX9_hardness_4 rfl ?_
  refine r_iconst (v := nI 0) dX9_hardness_5 (by decide) ?_
  refine r_callV (As := [.int (nI (d)), .int (nI (0))]) dX9_hardness_6 (tX9_drumAt hD (by omega)) rfl RM_0 rfl rfl oX9_drumAt rfl kX9_62M nX9_drumAt eX9_drumAt (by unfold fRoom; decide) (Nat.le_of_ble_eq_true rfl) rfl (bc' := 0) (bs' := 0) rfl rfl ?_
  show fR _ _ _ 9 _ (.int ((g) (10 + 3 * d + 0)) :: _) _ _ _ _
  refine r_idiv dX9_hardness_9 h0 ?_
  refine r_aload_n dX9_hardness_10 rfl ?_
  refine r_iload_n dX9_hardness_11 rfl ?_
  refine r_iconst (v := nI 1) dX9_hardness_12 (by decide) ?_
  refine r_callV (As := [.int (nI (d)), .int (nI (1))]) dX9_hardness_13 (tX9_drumAt hD (by omega)) rfl RM_0 rfl rfl oX9_drumAt rfl kX9_62M nX9_drumAt eX9_drumAt (by unfold fRoom; decide) (Nat.le_of_ble_eq_true rfl) rfl (bc' := 0) (bs' := 0) rfl rfl ?_
  show fR _ _ _ 16 _ (.int ((g) (10 + 3 * d + 1)) :: _) _ _ _ _
  refine r_bipush (v := nI 10) dX9_hardness_16 (by decide) ?_
  refine r_idiv dX9_hardness_18 (by decide) ?_
  refine r_iadd dX9_hardness_19 ?_
  exact fR_iret dX9_hardness_20 rfl (isI_of (by rfl))
theorem lX9_samplesOf {l : Launch} {κ : KP} {M : Mem} {m sA tA nA : Nat} {th sv kp ln ap pt : Int32} {hs : Int64} {g tx nu : Nat → Int32} (hD : rDis m sA tA nA) {n : Nat} (hn : n ≤ 8) (hg : g 1 = nI n) {d : Nat} (hd : d < 6) : ∀ (N k : Nat), n < N + k → k ≤ n → fR l κ mX9_samplesOf 4 [(3, .int (nI (k))), (2, .int (nI (pSamplesOf g d k))), (0, .ref (m)), (1, .int (nI (d)))] [] (RM M m sA tA nA (th) (sv) (kp) (ln) (ap) (pt) (hs) (g) (tx) (nu)) 0 0 (isI (nI (pSamplesOf g d n)) (RM M m sA tA nA (th) (sv) (kp) (ln) (ap) (pt) (hs) (g) (tx) (nu))) := by
  intro N
  induction N with
  | zero => intro k h1 h2; omega
  | succ N ih =>
    intro k h1 h2
    refine r_iload_n dX9_samplesOf_4 rfl ?_
    refine r_aload_n dX9_samplesOf_5 rfl ?_
    refine r_get (k := 1) dX9_samplesOf_6 RM_0 rfl rfl (by decide) kX9_7F ?_
    refine r_iconst (v := nI 1) dX9_samplesOf_9 (by decide) ?_
    refine r_ialdN dX9_samplesOf_10 (RM_1 hD) (by omega) (by decide) rfl ?_
    refine r_top hg ?_
    refine r_icmp_geN (tgt := 38) dX9_samplesOf_11 (by decide) (by omega) (by omega) (fun c1 => ?_) (fun c1 => ?_)
    · have e : k = n := by omega
      subst e
      refine r_iload_n dX9_samplesOf_38 rfl ?_
      exact fR_iret dX9_samplesOf_39 rfl (isI_of (by rfl))
    · skip
      refine r_iload_n dX9_samplesOf_14 rfl ?_
      refine r_aload_n dX9_samplesOf_15 rfl ?_
      refine r_iload_n dX9_samplesOf_16 rfl ?_
      refine r_iconst (v := nI 0) dX9_samplesOf_17 (by decide) ?_
      refine r_callV (As := [.int (nI (k)), .int (nI (0))]) dX9_samplesOf_18 (tX9_of hD (by omega)) rfl RM_0 rfl rfl oX9_of rfl kX9_31M nX9_of eX9_of (by unfold fRoom; decide) (Nat.le_of_ble_eq_true rfl) rfl (bc' := 0) (bs' := 0) rfl rfl ?_
      show fR _ _ _ 21 _ (.int (pOf (g) (k) (0)) :: _) _ _ _ _
      refine r_iload_n dX9_samplesOf_21 rfl ?_
      refine r_icmp_ne (tgt := 29) dX9_samplesOf_22 (by decide) (fun c2 => ?_) (fun c2 => ?_)
      · skip
        refine r_iconst (v := nI 0) dX9_samplesOf_29 (by decide) ?_
        refine r_iaddN dX9_samplesOf_30 ?_
        refine r_istore_n (lv' := [(2, .int (nI ((pSamplesOf g d k + 0)))), (3, .int (nI (k))), (0, .ref (m)), (1, .int (nI (d)))]) dX9_samplesOf_31 (by decide) rfl ?_
        refine r_iinc (v := (nI (k + 1))) (lv' := [(3, .int (nI (k + 1))), (2, .int (nI ((pSamplesOf g d k + 0)))), (0, .ref (m)), (1, .int (nI (d)))]) dX9_samplesOf_32 rfl (nI_inc _) (by decide) rfl ?_
        refine r_goto (tgt := 4) dX9_samplesOf_35 (by decide) ?_
        first | rw [show pSamplesOf g d k + 1 = pSamplesOf g d (k + 1) from pCnt_t c2] | rw [show pSamplesOf g d k + 0 = pSamplesOf g d (k + 1) from pCnt_f c2]
        exact ih (k + 1) (by omega) (by omega)
      · skip
        refine r_iconst (v := nI 1) dX9_samplesOf_25 (by decide) ?_
        refine r_goto (tgt := 30) dX9_samplesOf_26 (by decide) ?_
        refine r_iaddN dX9_samplesOf_30 ?_
        refine r_istore_n (lv' := [(2, .int (nI ((pSamplesOf g d k + 1)))), (3, .int (nI (k))), (0, .ref (m)), (1, .int (nI (d)))]) dX9_samplesOf_31 (by decide) rfl ?_
        refine r_iinc (v := (nI (k + 1))) (lv' := [(3, .int (nI (k + 1))), (2, .int (nI ((pSamplesOf g d k + 1)))), (0, .ref (m)), (1, .int (nI (d)))]) dX9_samplesOf_32 rfl (nI_inc _) (by decide) rfl ?_
        refine r_goto (tgt := 4) dX9_samplesOf_35 (by decide) ?_
        first | rw [show pSamplesOf g d k + 1 = pSamplesOf g d (k + 1) from pCnt_t c2] | rw [show pSamplesOf g d k + 0 = pSamplesOf g d (k + 1) from pCnt_f c2]
        exact ih (k + 1) (by omega) (by omega)
theorem tX9_samplesOf {l : Launch} {κ : KP} {M : Mem} {m sA tA nA : Nat} {th sv kp ln ap pt : Int32} {hs : Int64} {g tx nu : Nat → Int32} (hD : rDis m sA tA nA) {n : Nat} (hn : n ≤ 8) (hg : g 1 = nI n) {d : Nat} (hd : d < 6) : fM l κ mX9_samplesOf [.ref (m), .int (nI (d))] (RM M m sA tA nA (th) (sv) (kp) (ln) (ap) (pt) (hs) (g) (tx) (nu)) (isI (nI (pSamplesOf g d n)) (RM M m sA tA nA (th) (sv) (kp) (ln) (ap) (pt) (hs) (g) (tx) (nu))) := by
  refine fM_of rfl (by decide +kernel) (Nat.le_of_ble_eq_true rfl) ?_
  show fR l κ mX9_samplesOf 0 [(0, .ref (m)), (1, .int (nI (d)))] [] (RM M m sA tA nA (th) (sv) (kp) (ln) (ap) (pt) (hs) (g) (tx) (nu)) 0 0 _
  refine r_iconst (v := nI 0) dX9_samplesOf_0 (by decide) ?_
  refine r_istore_n (lv' := [(2, .int (nI (0))), (0, .ref (m)), (1, .int (nI (d)))]) dX9_samplesOf_1 (by decide) rfl ?_
  refine r_iconst (v := nI 0) dX9_samplesOf_2 (by decide) ?_
  refine r_istore_n (lv' := [(3, .int (nI (0))), (2, .int (nI (0))), (0, .ref (m)), (1, .int (nI (d)))]) dX9_samplesOf_3 (by decide) rfl ?_
  exact lX9_samplesOf hD hn hg hd (n + 1) 0 (by omega) (by omega)
theorem lX9_mean {l : Launch} {κ : KP} {M : Mem} {m sA tA nA : Nat} {th sv kp ln ap pt : Int32} {hs : Int64} {g tx nu : Nat → Int32} (hD : rDis m sA tA nA) {n : Nat} (hn : n ≤ 8) (hg : g 1 = nI n) (hM : ∀ k, k < n → pOf g k 5 = nI (pMany g k) ∧ pMany g k ≤ 9) {d : Nat} {q : Bool} (hd : d < 6) : ∀ (N k : Nat), n < N + k → k ≤ n → fR l κ mX9_mean 8 [(5, .int (nI (k))), (4, .int (nI (pNum g d q k))), (3, .int (pSum g d q k)), (0, .ref (m)), (1, .int (nI (d))), (2, .int (bI (q)))] [] (RM M m sA tA nA (th) (sv) (kp) (ln) (ap) (pt) (hs) (g) (tx) (nu)) 0 0 (isI (pMean g n d q) (RM M m sA tA nA (th) (sv) (kp) (ln) (ap) (pt) (hs) (g) (tx) (nu))) := by
  intro N
  induction N with
  | zero => intro k h1 h2; omega
  | succ N ih =>
    intro k h1 h2
    have hle : pNum g d q k ≤ k := pCnt_le _ k
    refine r_iload dX9_mean_8 rfl ?_
    refine r_aload_n dX9_mean_10 rfl ?_
    refine r_get (k := 1) dX9_mean_11 RM_0 rfl rfl (by decide) kX9_7F ?_
    refine r_iconst (v := nI 1) dX9_mean_14 (by decide) ?_
    refine r_ialdN dX9_mean_15 (RM_1 hD) (by omega) (by decide) rfl ?_
    refine r_top hg ?_
    refine r_icmp_geN (tgt := 88) dX9_mean_16 (by decide) (by omega) (by omega) (fun c1 => ?_) (fun c1 => ?_)
    · have e : k = n := by omega
      subst e
      refine r_iload dX9_mean_88 rfl ?_
      refine r_if_neN (tgt := 97) dX9_mean_90 (by decide) (by omega) (fun c2 => ?_) (fun c2 => ?_)
      · skip
        refine r_iload_n dX9_mean_97 rfl ?_
        refine r_iload dX9_mean_98 rfl ?_
        refine r_idiv dX9_mean_100 (nI_ne0 (by omega) (by omega)) ?_
        exact fR_iret dX9_mean_101 rfl (isI_of (by unfold pMean; (repeat (first | rw [if_pos (by first | assumption | exact Int32.not_le.mp (by assumption) | exact Int32.not_lt.mp (by assumption) | omega)] | rw [if_neg (by first | assumption | exact Int32.not_lt.mpr (by assumption) | exact Int32.not_le.mpr (by assumption) | exact bne_of (by assumption) | exact not_not_intro (by assumption) | omega)])); first | done | rfl))
      · skip
        refine r_iconst (v := (-1)) dX9_mean_93 (by decide) ?_
        refine r_goto (tgt := 101) dX9_mean_94 (by decide) ?_
        exact fR_iret dX9_mean_101 rfl (isI_of (by unfold pMean; (repeat (first | rw [if_pos (by first | assumption | exact Int32.not_le.mp (by assumption) | exact Int32.not_lt.mp (by assumption) | omega)] | rw [if_neg (by first | assumption | exact Int32.not_lt.mpr (by assumption) | exact Int32.not_le.mpr (by assumption) | exact bne_of (by assumption) | exact not_not_intro (by assumption) | omega)])); first | done | rfl))
    · skip
      have hJ3 : fR l κ mX9_mean 46 [(5, .int (nI (k))), (4, .int (nI (pNum g d q k))), (3, .int (pSum g d q k)), (0, .ref (m)), (1, .int (nI (d))), (2, .int (bI (q)))] [.int (bI (decide (pIs g d q k)))] (RM M m sA tA nA (th) (sv) (kp) (ln) (ap) (pt) (hs) (g) (tx) (nu)) 0 0 (isI (pMean g n d q) (RM M m sA tA nA (th) (sv) (kp) (ln) (ap) (pt) (hs) (g) (tx) (nu))) := by
        refine r_istore (lv' := [(6, .int (bI (decide (pIs g d q k)))), (5, .int (nI (k))), (4, .int (nI (pNum g d q k))), (3, .int (pSum g d q k)), (0, .ref (m)), (1, .int (nI (d))), (2, .int (bI (q)))]) dX9_mean_46 (by decide) rfl ?_
        have hJ4 : fR l κ mX9_mean 66 [(6, .int (bI (decide (pIs g d q k)))), (5, .int (nI (k))), (4, .int (nI (pNum g d q k))), (3, .int (pSum g d q k)), (0, .ref (m)), (1, .int (nI (d))), (2, .int (bI (q)))] [.int ((pSum g d q (k + 1)))] (RM M m sA tA nA (th) (sv) (kp) (ln) (ap) (pt) (hs) (g) (tx) (nu)) 0 0 (isI (pMean g n d q) (RM M m sA tA nA (th) (sv) (kp) (ln) (ap) (pt) (hs) (g) (tx) (nu))) := by
          refine r_istore_n (lv' := [(3, .int ((pSum g d q (k + 1)))), (6, .int (bI (decide (pIs g d q k)))), (5, .int (nI (k))), (4, .int (nI (pNum g d q k))), (0, .ref (m)), (1, .int (nI (d))), (2, .int (bI (q)))]) dX9_mean_66 (by decide) rfl ?_
          have hJ5 : fR l κ mX9_mean 80 [(3, .int ((pSum g d q (k + 1)))), (6, .int (bI (decide (pIs g d q k)))), (5, .int (nI (k))), (4, .int (nI (pNum g d q k))), (0, .ref (m)), (1, .int (nI (d))), (2, .int (bI (q)))] [.int (nI (pNum g d q (k + 1)))] (RM M m sA tA nA (th) (sv) (kp) (ln) (ap) (pt) (hs) (g) (tx) (nu)) 0 0 (isI (pMean g n d q) (RM M m sA tA nA (th) (sv) (kp) (ln) (ap) (pt) (hs) (g) (tx) (nu))) := by
            refine r_istore (lv' := [(4, .int (nI (pNum g d q (k + 1)))), (3, .int ((pSum g d q (k + 1)))), (6, .int (bI (decide (pIs g d q k)))), (5, .int (nI (k))), (0, .ref (m)), (1, .int (nI (d))), (2, .int (bI (q)))]) dX9_mean_80 (by decide) rfl ?_
            refine r_iinc (v := (nI (k + 1))) (lv' := [(5, .int (nI (k + 1))), (4, .int (nI (pNum g d q (k + 1)))), (3, .int ((pSum g d q (k + 1)))), (6, .int (bI (decide (pIs g d q k)))), (0, .ref (m)), (1, .int (nI (d))), (2, .int (bI (q)))]) dX9_mean_82 rfl (nI_inc _) (by decide) rfl ?_
            refine r_goto (tgt := 8) dX9_mean_85 (by decide) ?_
            refine r_lv (lv' := [(5, .int (nI (k + 1))), (4, .int (nI (pNum g d q (k + 1)))), (3, .int ((pSum g d q (k + 1)))), (0, .ref (m)), (1, .int (nI (d))), (2, .int (bI (q)))]) (by simp) ?_
            exact ih (k + 1) (by omega) (by omega)
          refine r_iload dX9_mean_67 rfl ?_
          refine r_iload dX9_mean_69 rfl ?_
          refine r_if_eqB (tgt := 78) dX9_mean_71 (by decide) (fun c6 => ?_) (fun c6 => ?_)
          · skip
            refine r_iconst (v := nI 0) dX9_mean_78 (by decide) ?_
            refine r_iaddN dX9_mean_79 ?_
            exact r_top (by first | exact congrArg nI (pCnt_t (of_decide_eq_true (by assumption))) | exact congrArg nI (pCnt_f (of_decide_eq_false (by assumption)))) hJ5
          · skip
            refine r_iconst (v := nI 1) dX9_mean_74 (by decide) ?_
            refine r_goto (tgt := 79) dX9_mean_75 (by decide) ?_
            refine r_iaddN dX9_mean_79 ?_
            exact r_top (by first | exact congrArg nI (pCnt_t (of_decide_eq_true (by assumption))) | exact congrArg nI (pCnt_f (of_decide_eq_false (by assumption)))) hJ5
        refine r_iload_n dX9_mean_48 rfl ?_
        refine r_iload dX9_mean_49 rfl ?_
        refine r_if_eqB (tgt := 64) dX9_mean_51 (by decide) (fun c7 => ?_) (fun c7 => ?_)
        · skip
          refine r_iconst (v := nI 0) dX9_mean_64 (by decide) ?_
          refine r_iadd dX9_mean_65 ?_
          exact r_top (by (show _ = pSum g d q k + if _ then _ else _); first | rw [if_pos (of_decide_eq_true (by assumption))] | rw [if_neg (of_decide_eq_false (by assumption))]) hJ4
        · skip
          refine r_aload_n dX9_mean_54 rfl ?_
          refine r_iload dX9_mean_55 rfl ?_
          refine r_iload_n dX9_mean_57 rfl ?_
          have hm := (hM k (by omega)).1
          have hm9 := (hM k (by omega)).2
          refine r_callV (As := [.int (nI (k)), .int (bI (q))]) dX9_mean_58 (tX9_told hD (by omega) hm hm9) rfl RM_0 rfl rfl oX9_told rfl kX9_68M nX9_told eX9_told (by unfold fRoom; decide) (Nat.le_of_ble_eq_true rfl) rfl (bc' := 0) (bs' := 0) rfl rfl ?_
          show fR _ _ _ 61 _ (.int (pTold (g) (k) q) :: _) _ _ _ _
          refine r_goto (tgt := 65) dX9_mean_61 (by decide) ?_
          refine r_iadd dX9_mean_65 ?_
          exact r_top (by (show _ = pSum g d q k + if _ then _ else _); first | rw [if_pos (of_decide_eq_true (by assumption))] | rw [if_neg (of_decide_eq_false (by assumption))]) hJ4
      refine r_aload_n dX9_mean_19 rfl ?_
      refine r_iload dX9_mean_20 rfl ?_
      refine r_iconst (v := nI 0) dX9_mean_22 (by decide) ?_
      refine r_callV (As := [.int (nI (k)), .int (nI (0))]) dX9_mean_23 (tX9_of hD (by omega)) rfl RM_0 rfl rfl oX9_of rfl kX9_31M nX9_of eX9_of (by unfold fRoom; decide) (Nat.le_of_ble_eq_true rfl) rfl (bc' := 0) (bs' := 0) rfl rfl ?_
      show fR _ _ _ 26 _ (.int (pOf (g) (k) (0)) :: _) _ _ _ _
      refine r_iload_n dX9_mean_26 rfl ?_
      refine r_icmp_ne (tgt := 45) dX9_mean_27 (by decide) (fun c8 => ?_) (fun c8 => ?_)
      · skip
        refine r_iconst (v := nI 0) dX9_mean_45 (by decide) ?_
        exact r_top (bJ_f (by first | exact decide_eq_true ⟨by assumption, by assumption⟩ | exact decide_eq_false (fun h => absurd h.1 (by assumption)) | exact decide_eq_false (fun h => absurd (by assumption) h.2))) hJ3
      · skip
        refine r_aload_n dX9_mean_30 rfl ?_
        refine r_iload dX9_mean_31 rfl ?_
        refine r_iload_n dX9_mean_33 rfl ?_
        have hm := (hM k (by omega)).1
        have hm9 := (hM k (by omega)).2
        refine r_callV (As := [.int (nI (k)), .int (bI (q))]) dX9_mean_34 (tX9_told hD (by omega) hm hm9) rfl RM_0 rfl rfl oX9_told rfl kX9_68M nX9_told eX9_told (by unfold fRoom; decide) (Nat.le_of_ble_eq_true rfl) rfl (bc' := 0) (bs' := 0) rfl rfl ?_
        show fR _ _ _ 37 _ (.int (pTold (g) (k) q) :: _) _ _ _ _
        refine r_iconst (v := (-1)) dX9_mean_37 (by decide) ?_
        refine r_icmp_eq (tgt := 45) dX9_mean_38 (by decide) (fun c9 => ?_) (fun c9 => ?_)
        · skip
          refine r_iconst (v := nI 0) dX9_mean_45 (by decide) ?_
          exact r_top (bJ_f (by first | exact decide_eq_true ⟨by assumption, by assumption⟩ | exact decide_eq_false (fun h => absurd h.1 (by assumption)) | exact decide_eq_false (fun h => absurd (by assumption) h.2))) hJ3
        · skip
          refine r_iconst (v := nI 1) dX9_mean_41 (by decide) ?_
          refine r_goto (tgt := 46) dX9_mean_42 (by decide) ?_
          exact r_top (bJ_t (by first | exact decide_eq_true ⟨by assumption, by assumption⟩ | exact decide_eq_false (fun h => absurd h.1 (by assumption)) | exact decide_eq_false (fun h => absurd (by assumption) h.2))) hJ3
