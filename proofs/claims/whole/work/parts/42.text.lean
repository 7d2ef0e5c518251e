/-! TEXTS: what the reference reads -/
def TX (tx : Nat → Int32) (ln : Nat) (ch : Nat → Nat) : Prop := ln ≤ 60 ∧ (∀ i, i < ln → tx i = nI (ch i) ∧ 33 ≤ ch i) ∧ (∀ i, ln ≤ i → ch i = 0) ∧ (∀ i, ch i ≤ 126)
theorem pIn_n {a b c : Nat} (ha : a < 2 ^ 31) (hb : b < 2 ^ 31) (hc : c < 2 ^ 31) : pIn (nI c) (nI a) (nI b) = decide (a ≤ c ∧ c ≤ b) := by
  unfold pIn
  by_cases h1 : a ≤ c
  · rw [decide_eq_true ((nI_leI ha hc).mpr h1)]
    by_cases h2 : c ≤ b
    · rw [decide_eq_true ((nI_leI hc hb).mpr h2), decide_eq_true ⟨h1, h2⟩]; rfl
    · rw [decide_eq_false (fun h => h2 ((nI_leI hc hb).mp h)), decide_eq_false (fun h => h2 h.2)]; rfl
  · have e : decide (a ≤ c ∧ c ≤ b) = false := decide_eq_false (fun h => h1 h.1)
    rw [decide_eq_false (fun h => h1 ((nI_leI ha hc).mp h)), e]; rfl
abbrev pDg (ch : Nat → Nat) (most i : Nat) : Prop := 48 ≤ ch i ∧ ch i ≤ 48 + most
/-- whether figures begin a number of a range -/
def begN (least most : Nat) : Nat → Nat → Nat → Bool → Bool
  | 0, _, _, is => is
  | N + 1, low, high, is => if 0 < low then (if low ≤ most then begN least most N (10 * low) (10 * high + 9) (is || decide (least ≤ high)) else is) else is
def beg (v least most : Nat) : Bool := begN least most 4 v v false
def rn (ch : Nat → Nat) (least most : Nat) : Nat → Nat → Nat → Nat × Nat
  | 0, v, i => (v, i)
  | N + 1, v, i => if 48 ≤ ch i ∧ ch i ≤ 57 then (if beg (10 * v + ch i - 48) least most = true then rn ch least most N (10 * v + ch i - 48) (i + 1) else (v, i)) else (v, i)
def rnum (ch : Nat → Nat) (least most i : Nat) : Nat × Nat := rn ch least most 61 0 i
def dgN (nu : Nat → Int32) (ch : Nat → Nat) (p i : Nat) : Nat → Int32 := upd nu p (nI (ch i - 48))
def rDig (ch : Nat → Nat) (nu : Nat → Int32) (p most i : Nat) : Bool × Nat × (Nat → Int32) := if pDg ch most i then (true, i + 1, dgN nu ch p i) else (false, i, upd nu p (-1))
def rNum (ch : Nat → Nat) (nu : Nat → Int32) (p least most i : Nat) : Bool × Nat × (Nat → Int32) := (decide (least ≤ (rnum ch least most i).1), (rnum ch least most i).2, upd nu p (nI (rnum ch least most i).1))
def rBath (ch : Nat → Nat) (nu : Nat → Int32) (i : Nat) : Bool × Nat × (Nat → Int32) :=
  if pDg ch 7 i then (if pDg ch 2 (i + 1) then (true, i + 1 + 1, dgN (dgN nu ch 0 i) ch 1 (i + 1)) else if ch (i + 1) = 45 then (true, i + 1 + 1, upd (dgN nu ch 0 i) 1 (-1)) else (false, i + 1, upd (dgN nu ch 0 i) 1 (-1))) else (false, i, upd nu 0 (-1))
def rLoad (ch : Nat → Nat) (nu : Nat → Int32) (i : Nat) : Bool × Nat × (Nat → Int32) :=
  if 50 ≤ (rnum ch 50 200 i).1 then (if ch (rnum ch 50 200 i).2 = 47 then rNum ch (upd nu 2 (nI (rnum ch 50 200 i).1)) 3 1 60 ((rnum ch 50 200 i).2 + 1) else (false, (rnum ch 50 200 i).2, upd nu 2 (nI (rnum ch 50 200 i).1))) else (false, (rnum ch 50 200 i).2, upd nu 2 (nI (rnum ch 50 200 i).1))
def rSink (ch : Nat → Nat) (nu : Nat → Int32) (i : Nat) : Bool × Nat × (Nat → Int32) :=
  if pDg ch 2 i then (if pDg ch 7 (i + 1) then (if ch (i + 1 + 1) = 42 then rLoad ch (dgN (dgN nu ch 0 i) ch 1 (i + 1)) (i + 1 + 1 + 1) else (false, i + 1 + 1, dgN (dgN nu ch 0 i) ch 1 (i + 1))) else (false, i + 1, upd (dgN nu ch 0 i) 1 (-1))) else (false, i, upd nu 0 (-1))
def rPart (ch : Nat → Nat) (nu : Nat → Int32) (i : Nat) : Bool × Nat × (Nat → Int32) :=
  if ch i = 36 then rDig ch nu 0 5 (i + 1) else if ch i = 43 then rNum ch nu 0 1 99 (i + 1) else if ch i = 98 then rBath ch nu (i + 1) else if ch i = 110 then rSink ch nu (i + 1) else if ch i = 111 then rDig ch nu 0 7 (i + 1) else if ch i = 115 then rDig ch nu 0 5 (i + 1) else (false, i, nu)
def rAll (ch : Nat → Nat) (ln : Nat) : Nat → (Nat → Int32) → Nat → (Bool × Nat × (Nat → Int32)) × Nat
  | 0, nu, i => ((false, i, nu), 0)
  | N + 1, nu, i => if (rPart ch nu i).1 = true then (if (rPart ch nu i).2.1 = ln then (rPart ch nu i, ch i) else if ch (rPart ch nu i).2.1 = 59 then rAll ch ln N (rPart ch nu i).2.2 ((rPart ch nu i).2.1 + 1) else ((false, (rPart ch nu i).2), ch i)) else (rPart ch nu i, ch i)
theorem rn_le {ch : Nat → Nat} {least most ln : Nat} (h0 : ∀ i, ln ≤ i → ch i = 0) : ∀ N v i, i ≤ ln → i ≤ (rn ch least most N v i).2 ∧ (rn ch least most N v i).2 ≤ ln
  | 0, v, i, h => ⟨Nat.le_refl _, h⟩
  | N + 1, v, i, h => by
    unfold rn
    split
    · rename_i hd
      split
      · have hi : i < ln := by
          by_cases hc : ln ≤ i
          · have := h0 i hc; omega
          · omega
        have := rn_le (least := least) (most := most) h0 N (10 * v + ch i - 48) (i + 1) (by omega)
        omega
      · exact ⟨Nat.le_refl _, h⟩
    · exact ⟨Nat.le_refl _, h⟩
theorem TX.lt {tx : Nat → Int32} {ln : Nat} {ch : Nat → Nat} (h : TX tx ln ch) (i : Nat) : ch i < 127 := by have := h.2.2.2 i; omega
theorem tX9_sign {l : Launch} {κ : KP} {M : Mem} {m sA tA nA : Nat} {th sv kp pt : Int32} {hs : Int64} {g tx nu : Nat → Int32} {ch : Nat → Nat} {ln i : Nat} (hD : rDis m sA tA nA) (hT : TX tx ln ch) (hi : i ≤ ln) : fM l κ mX9_sign [.ref (m)] (RM M m sA tA nA (th) (sv) (kp) (nI (ln)) (nI (i)) (pt) (hs) (g) (tx) (nu)) (isI (nI (ch i)) (RM M m sA tA nA (th) (sv) (kp) (nI (ln)) (nI (i)) (pt) (hs) (g) (tx) (nu))) := by
  refine fM_of rfl (by decide +kernel) (Nat.le_of_ble_eq_true rfl) ?_
  have hl := hT.1
  show fR l κ mX9_sign 0 [(0, .ref (m))] [] (RM M m sA tA nA (th) (sv) (kp) (nI (ln)) (nI (i)) (pt) (hs) (g) (tx) (nu)) 0 0 _
  refine r_aload_n dX9_sign_0 rfl ?_
  refine r_get (k := 6) dX9_sign_1 RM_0 rfl rfl (by decide) kX9_138F ?_
  refine r_aload_n dX9_sign_4 rfl ?_
  refine r_get (k := 5) dX9_sign_5 RM_0 rfl rfl (by decide) kX9_135F ?_
  refine r_icmp_geN (tgt := 23) dX9_sign_8 (by decide) (by omega) (by omega) (fun c1 => ?_) (fun c1 => ?_)
  · skip
    refine r_iconst (v := nI 0) dX9_sign_23 (by decide) ?_
    exact fR_iret dX9_sign_24 rfl (isI_of (by first | rfl | (rw [hT.2.2.1 i (by omega)]; done)))
  · skip
    refine r_aload_n dX9_sign_11 rfl ?_
    refine r_get (k := 4) dX9_sign_12 RM_0 rfl rfl (by decide) kX9_13F ?_
    refine r_aload_n dX9_sign_15 rfl ?_
    refine r_get (k := 6) dX9_sign_16 RM_0 rfl rfl (by decide) kX9_138F ?_
    refine r_ialdN dX9_sign_19 (RM_2 hD) (by omega) (by decide) rfl ?_
    refine r_top (y := (nI (ch i))) (hT.2.1 i (by omega)).1 ?_
    refine r_goto (tgt := 24) dX9_sign_20 (by decide) ?_
    exact fR_iret dX9_sign_24 rfl (isI_of (by first | rfl | (rw [hT.2.2.1 i (by omega)]; done)))
theorem tX9_takesSign_t {l : Launch} {κ : KP} {M : Mem} {m sA tA nA : Nat} {th sv kp pt : Int32} {hs : Int64} {g tx nu : Nat → Int32} {ch : Nat → Nat} {ln i : Nat} (hD : rDis m sA tA nA) (hT : TX tx ln ch) {c : Nat} (hi : i ≤ ln) (hcb : c < 127) (hc : ch i = c) : fM l κ mX9_takesSign [.ref (m), .int (nI (c))] (RM M m sA tA nA (th) (sv) (kp) (nI (ln)) (nI (i)) (pt) (hs) (g) (tx) (nu)) (isI (bI true) (RM M m sA tA nA (th) (sv) (kp) (nI (ln)) (nI (i + 1)) (pt) (hs) (g) (tx) (nu))) := by
  refine fM_of rfl (by decide +kernel) (Nat.le_of_ble_eq_true rfl) ?_
  have hl := hT.1
  have hx := hT.lt i
  show fR l κ mX9_takesSign 0 [(0, .ref (m)), (1, .int (nI (c)))] [] (RM M m sA tA nA (th) (sv) (kp) (nI (ln)) (nI (i)) (pt) (hs) (g) (tx) (nu)) 0 0 _
  refine r_aload_n dX9_takesSign_0 rfl ?_
  refine r_callV (As := []) dX9_takesSign_1 (tX9_sign hD hT (by omega)) rfl RM_0 rfl rfl oX9_sign rfl kX9_141M nX9_sign eX9_sign (by unfold fRoom; decide) (Nat.le_of_ble_eq_true rfl) rfl (bc' := 0) (bs' := 0) rfl rfl ?_
  show fR _ _ _ 4 _ (.int (nI (ch i)) :: _) _ _ _ _
  refine r_iload_n dX9_takesSign_4 rfl ?_
  refine r_icmp_neN (tgt := 12) dX9_takesSign_5 (by decide) (by omega) (by omega) (fun c1 => ?_) (fun c1 => ?_)
  · skip
    exact absurd hc (by omega)
  · skip
    refine r_iconst (v := nI 1) dX9_takesSign_8 (by decide) ?_
    refine r_goto (tgt := 13) dX9_takesSign_9 (by decide) ?_
    refine r_istore_n (lv' := [(2, .int (nI (1))), (0, .ref (m)), (1, .int (nI (c)))]) dX9_takesSign_13 (by decide) rfl ?_
    refine r_aload_n dX9_takesSign_14 rfl ?_
    refine r_dup dX9_takesSign_15 rfl ?_
    refine r_get (k := 6) dX9_takesSign_16 RM_0 rfl rfl (by decide) kX9_138F ?_
    refine r_iload_n dX9_takesSign_19 rfl ?_
    refine r_if_eqN (tgt := 27) dX9_takesSign_20 (by decide) (by omega) (fun c2 => absurd c2 (by omega)) (fun c2 => ?_)
    refine r_iconst (v := nI 1) dX9_takesSign_23 (by decide) ?_
    refine r_goto (tgt := 28) dX9_takesSign_24 (by decide) ?_
    refine r_iaddN dX9_takesSign_28 ?_
    refine r_put (k := 6) (fs' := [.int (th), .ref (sA), .int (sv), .int (kp), .ref (tA), .int (nI (ln)), .int (nI ((i + 1))), .int (pt), .ref (nA), .long (hs)]) dX9_takesSign_29 RM_0 rfl (by decide) kX9_138F rfl rfl rfl (Nat.le_of_ble_eq_true rfl) rfl ?_
    refine r_mem RM_put ?_
    refine r_iload_n dX9_takesSign_32 rfl ?_
    exact fR_zret dX9_takesSign_33 rfl rfl (isI_of (by rfl))
theorem tX9_takesSign_f {l : Launch} {κ : KP} {M : Mem} {m sA tA nA : Nat} {th sv kp pt : Int32} {hs : Int64} {g tx nu : Nat → Int32} {ch : Nat → Nat} {ln i : Nat} (hD : rDis m sA tA nA) (hT : TX tx ln ch) {c : Nat} (hi : i ≤ ln) (hcb : c < 127) (hc : ¬ ch i = c) : fM l κ mX9_takesSign [.ref (m), .int (nI (c))] (RM M m sA tA nA (th) (sv) (kp) (nI (ln)) (nI (i)) (pt) (hs) (g) (tx) (nu)) (isI (bI false) (RM M m sA tA nA (th) (sv) (kp) (nI (ln)) (nI (i)) (pt) (hs) (g) (tx) (nu))) := by
  refine fM_of rfl (by decide +kernel) (Nat.le_of_ble_eq_true rfl) ?_
  have hl := hT.1
  have hx := hT.lt i
  show fR l κ mX9_takesSign 0 [(0, .ref (m)), (1, .int (nI (c)))] [] (RM M m sA tA nA (th) (sv) (kp) (nI (ln)) (nI (i)) (pt) (hs) (g) (tx) (nu)) 0 0 _
  refine r_aload_n dX9_takesSign_0 rfl ?_
  refine r_callV (As := []) dX9_takesSign_1 (tX9_sign hD hT (by omega)) rfl RM_0 rfl rfl oX9_sign rfl kX9_141M nX9_sign eX9_sign (by unfold fRoom; decide) (Nat.le_of_ble_eq_true rfl) rfl (bc' := 0) (bs' := 0) rfl rfl ?_
  show fR _ _ _ 4 _ (.int (nI (ch i)) :: _) _ _ _ _
  refine r_iload_n dX9_takesSign_4 rfl ?_
  refine r_icmp_neN (tgt := 12) dX9_takesSign_5 (by decide) (by omega) (by omega) (fun c1 => ?_) (fun c1 => ?_)
  · skip
    refine r_iconst (v := nI 0) dX9_takesSign_12 (by decide) ?_
    refine r_istore_n (lv' := [(2, .int (nI (0))), (0, .ref (m)), (1, .int (nI (c)))]) dX9_takesSign_13 (by decide) rfl ?_
    refine r_aload_n dX9_takesSign_14 rfl ?_
    refine r_dup dX9_takesSign_15 rfl ?_
    refine r_get (k := 6) dX9_takesSign_16 RM_0 rfl rfl (by decide) kX9_138F ?_
    refine r_iload_n dX9_takesSign_19 rfl ?_
    refine r_if_eqN (tgt := 27) dX9_takesSign_20 (by decide) (by omega) (fun c2 => ?_) (fun c2 => absurd c2 (by omega))
    refine r_iconst (v := nI 0) dX9_takesSign_27 (by decide) ?_
    refine r_iaddN dX9_takesSign_28 ?_
    refine r_put (k := 6) (fs' := [.int (th), .ref (sA), .int (sv), .int (kp), .ref (tA), .int (nI (ln)), .int (nI ((i + 0))), .int (pt), .ref (nA), .long (hs)]) dX9_takesSign_29 RM_0 rfl (by decide) kX9_138F rfl rfl rfl (Nat.le_of_ble_eq_true rfl) rfl ?_
    refine r_mem RM_put ?_
    refine r_iload_n dX9_takesSign_32 rfl ?_
    exact fR_zret dX9_takesSign_33 rfl rfl (isI_of (by rfl))
  · skip
    exact absurd hc (by omega)
theorem tX9_readsDigit_t {l : Launch} {κ : KP} {M : Mem} {m sA tA nA : Nat} {th sv kp pt : Int32} {hs : Int64} {g tx nu : Nat → Int32} {ch : Nat → Nat} {ln i : Nat} (hD : rDis m sA tA nA) (hT : TX tx ln ch) {p most : Nat} (hi : i ≤ ln) (hp : p < 4) (hm : most < 10) (hc : pDg ch most i) : fM l κ mX9_readsDigit [.ref (m), .int (nI (p)), .int (nI (most))] (RM M m sA tA nA (th) (sv) (kp) (nI (ln)) (nI (i)) (pt) (hs) (g) (tx) (nu)) (isI (bI true) (RM M m sA tA nA (th) (sv) (kp) (nI (ln)) (nI (i + 1)) (pt) (hs) (g) (tx) (dgN nu ch p i))) := by
  refine fM_of rfl (by decide +kernel) (Nat.le_of_ble_eq_true rfl) ?_
  have hl := hT.1
  have hx := hT.lt i
  have hc2 := hc.1
  show fR l κ mX9_readsDigit 0 [(0, .ref (m)), (1, .int (nI (p))), (2, .int (nI (most)))] [] (RM M m sA tA nA (th) (sv) (kp) (nI (ln)) (nI (i)) (pt) (hs) (g) (tx) (nu)) 0 0 _
  refine r_aload_n dX9_readsDigit_0 rfl ?_
  refine r_callV (As := []) dX9_readsDigit_1 (tX9_sign hD hT (by omega)) rfl RM_0 rfl rfl oX9_sign rfl kX9_141M nX9_sign eX9_sign (by unfold fRoom; decide) (Nat.le_of_ble_eq_true rfl) rfl (bc' := 0) (bs' := 0) rfl rfl ?_
  show fR _ _ _ 4 _ (.int (nI (ch i)) :: _) _ _ _ _
  refine r_bipush (v := nI 48) dX9_readsDigit_4 (by decide) ?_
  refine r_bipush (v := nI 48) dX9_readsDigit_6 (by decide) ?_
  refine r_iload_n dX9_readsDigit_8 rfl ?_
  refine r_iaddN dX9_readsDigit_9 ?_
  have hpin : pIn (nI (ch i)) (nI 48) (nI (48 + most)) = true := by rw [pIn_n (by omega) (by omega) (by omega)]; exact decide_eq_true hc
  have hin := tX9_in (l := l) (κ := κ) (M := (RM M m sA tA nA (th) (sv) (kp) (nI (ln)) (nI (i)) (pt) (hs) (g) (tx) (nu))) (v := nI (ch i)) (lo := nI 48) (hi := nI (48 + most))
  rw [hpin] at hin
  refine r_callS (As := [.int (nI (ch i)), .int (nI (48)), .int (nI ((48 + most)))]) dX9_readsDigit_10 hin rfl oX9_in rfl kX9_23M sX9_in (by unfold fRoom; decide) (Nat.le_of_ble_eq_true rfl) rfl (bc' := 0) (bs' := 0) rfl rfl ?_
  show fR _ _ _ 13 _ (.int (bI (true)) :: _) _ _ _ _
  refine r_istore_n (lv' := [(3, .int (bI (true))), (0, .ref (m)), (1, .int (nI (p))), (2, .int (nI (most)))]) dX9_readsDigit_13 (by decide) rfl ?_
  refine r_aload_n dX9_readsDigit_14 rfl ?_
  refine r_get (k := 8) dX9_readsDigit_15 RM_0 rfl rfl (by decide) kX9_16F ?_
  refine r_iload_n dX9_readsDigit_18 rfl ?_
  refine r_iload_n dX9_readsDigit_19 rfl ?_
  refine r_if_eqB (tgt := 33) dX9_readsDigit_20 (by decide) (fun c1 => absurd c1 (by decide)) (fun c1 => ?_)
  refine r_aload_n dX9_readsDigit_23 rfl ?_
  refine r_callV (As := []) dX9_readsDigit_24 (tX9_sign hD hT (by omega)) rfl RM_0 rfl rfl oX9_sign rfl kX9_141M nX9_sign eX9_sign (by unfold fRoom; decide) (Nat.le_of_ble_eq_true rfl) rfl (bc' := 0) (bs' := 0) rfl rfl ?_
  show fR _ _ _ 27 _ (.int (nI (ch i)) :: _) _ _ _ _
  refine r_bipush (v := nI 48) dX9_readsDigit_27 (by decide) ?_
  refine r_isubN dX9_readsDigit_29 (by omega) ?_
  refine r_goto (tgt := 34) dX9_readsDigit_30 (by decide) ?_
  refine r_iastN dX9_readsDigit_34 (RM_3 hD) (by omega) (by decide) ?_
  refine r_mem (RM_s3 hD) ?_
  refine r_aload_n dX9_readsDigit_35 rfl ?_
  refine r_dup dX9_readsDigit_36 rfl ?_
  refine r_get (k := 6) dX9_readsDigit_37 RM_0 rfl rfl (by decide) kX9_138F ?_
  refine r_iload_n dX9_readsDigit_40 rfl ?_
  refine r_if_eqB (tgt := 48) dX9_readsDigit_41 (by decide) (fun c2 => absurd c2 (by decide)) (fun c2 => ?_)
  refine r_iconst (v := nI 1) dX9_readsDigit_44 (by decide) ?_
  refine r_goto (tgt := 49) dX9_readsDigit_45 (by decide) ?_
  refine r_iaddN dX9_readsDigit_49 ?_
  refine r_put (k := 6) (fs' := [.int (th), .ref (sA), .int (sv), .int (kp), .ref (tA), .int (nI (ln)), .int (nI ((i + 1))), .int (pt), .ref (nA), .long (hs)]) dX9_readsDigit_50 RM_0 rfl (by decide) kX9_138F rfl rfl rfl (Nat.le_of_ble_eq_true rfl) rfl ?_
  refine r_mem RM_put ?_
  refine r_iload_n dX9_readsDigit_53 rfl ?_
  exact r_zretB dX9_readsDigit_54 rfl (isI_of (by rfl))
theorem tX9_readsDigit_f {l : Launch} {κ : KP} {M : Mem} {m sA tA nA : Nat} {th sv kp pt : Int32} {hs : Int64} {g tx nu : Nat → Int32} {ch : Nat → Nat} {ln i : Nat} (hD : rDis m sA tA nA) (hT : TX tx ln ch) {p most : Nat} (hi : i ≤ ln) (hp : p < 4) (hm : most < 10) (hc : ¬ pDg ch most i) : fM l κ mX9_readsDigit [.ref (m), .int (nI (p)), .int (nI (most))] (RM M m sA tA nA (th) (sv) (kp) (nI (ln)) (nI (i)) (pt) (hs) (g) (tx) (nu)) (isI (bI false) (RM M m sA tA nA (th) (sv) (kp) (nI (ln)) (nI (i)) (pt) (hs) (g) (tx) (upd nu p (-1)))) := by
  refine fM_of rfl (by decide +kernel) (Nat.le_of_ble_eq_true rfl) ?_
  have hl := hT.1
  have hx := hT.lt i
  show fR l κ mX9_readsDigit 0 [(0, .ref (m)), (1, .int (nI (p))), (2, .int (nI (most)))] [] (RM M m sA tA nA (th) (sv) (kp) (nI (ln)) (nI (i)) (pt) (hs) (g) (tx) (nu)) 0 0 _
  refine r_aload_n dX9_readsDigit_0 rfl ?_
  refine r_callV (As := []) dX9_readsDigit_1 (tX9_sign hD hT (by omega)) rfl RM_0 rfl rfl oX9_sign rfl kX9_141M nX9_sign eX9_sign (by unfold fRoom; decide) (Nat.le_of_ble_eq_true rfl) rfl (bc' := 0) (bs' := 0) rfl rfl ?_
  show fR _ _ _ 4 _ (.int (nI (ch i)) :: _) _ _ _ _
  refine r_bipush (v := nI 48) dX9_readsDigit_4 (by decide) ?_
  refine r_bipush (v := nI 48) dX9_readsDigit_6 (by decide) ?_
  refine r_iload_n dX9_readsDigit_8 rfl ?_
  refine r_iaddN dX9_readsDigit_9 ?_
  have hpin : pIn (nI (ch i)) (nI 48) (nI (48 + most)) = false := by rw [pIn_n (by omega) (by omega) (by omega)]; exact decide_eq_false hc
  have hin := tX9_in (l := l) (κ := κ) (M := (RM M m sA tA nA (th) (sv) (kp) (nI (ln)) (nI (i)) (pt) (hs) (g) (tx) (nu))) (v := nI (ch i)) (lo := nI 48) (hi := nI (48 + most))
  rw [hpin] at hin
  refine r_callS (As := [.int (nI (ch i)), .int (nI (48)), .int (nI ((48 + most)))]) dX9_readsDigit_10 hin rfl oX9_in rfl kX9_23M sX9_in (by unfold fRoom; decide) (Nat.le_of_ble_eq_true rfl) rfl (bc' := 0) (bs' := 0) rfl rfl ?_
  show fR _ _ _ 13 _ (.int (bI (false)) :: _) _ _ _ _
  refine r_istore_n (lv' := [(3, .int (bI (false))), (0, .ref (m)), (1, .int (nI (p))), (2, .int (nI (most)))]) dX9_readsDigit_13 (by decide) rfl ?_
  refine r_aload_n dX9_readsDigit_14 rfl ?_
  refine r_get (k := 8) dX9_readsDigit_15 RM_0 rfl rfl (by decide) kX9_16F ?_
  refine r_iload_n dX9_readsDigit_18 rfl ?_
  refine r_iload_n dX9_readsDigit_19 rfl ?_
  refine r_if_eqB (tgt := 33) dX9_readsDigit_20 (by decide) (fun c1 => ?_) (fun c1 => absurd c1 (by decide))
  refine r_iconst (v := (-1)) dX9_readsDigit_33 (by decide) ?_
  refine r_iastN dX9_readsDigit_34 (RM_3 hD) (by omega) (by decide) ?_
  refine r_mem (RM_s3 hD) ?_
  refine r_aload_n dX9_readsDigit_35 rfl ?_
  refine r_dup dX9_readsDigit_36 rfl ?_
  refine r_get (k := 6) dX9_readsDigit_37 RM_0 rfl rfl (by decide) kX9_138F ?_
  refine r_iload_n dX9_readsDigit_40 rfl ?_
  refine r_if_eqB (tgt := 48) dX9_readsDigit_41 (by decide) (fun c2 => ?_) (fun c2 => absurd c2 (by decide))
  refine r_iconst (v := nI 0) dX9_readsDigit_48 (by decide) ?_
  refine r_iaddN dX9_readsDigit_49 ?_
  refine r_put (k := 6) (fs' := [.int (th), .ref (sA), .int (sv), .int (kp), .ref (tA), .int (nI (ln)), .int (nI ((i + 0))), .int (pt), .ref (nA), .long (hs)]) dX9_readsDigit_50 RM_0 rfl (by decide) kX9_138F rfl rfl rfl (Nat.le_of_ble_eq_true rfl) rfl ?_
  refine r_mem RM_put ?_
  refine r_iload_n dX9_readsDigit_53 rfl ?_
  exact r_zretB dX9_readsDigit_54 rfl (isI_of (by rfl))
theorem tX9_inN {l : Launch} {κ : KP} {M : Mem} {a b c : Nat} (ha : a < 2 ^ 31) (hb : b < 2 ^ 31) (hc : c < 2 ^ 31) : fM l κ mX9_in [.int (nI c), .int (nI a), .int (nI b)] M (isI (bI (decide (a ≤ c ∧ c ≤ b))) M) := by
  have := tX9_in (l := l) (κ := κ) (M := M) (v := nI c) (lo := nI a) (hi := nI b)
  rw [pIn_n ha hb hc] at this; exact this
theorem begN_is {least most : Nat} : ∀ N low high is, begN least most N low high is = true → is = true ∨ (0 < low ∧ low ≤ most)
  | 0, _, _, _, h => Or.inl h
  | N + 1, low, high, is, h => by
    unfold begN at h
    by_cases h1 : 0 < low
    · rw [if_pos h1] at h
      by_cases h2 : low ≤ most
      · exact Or.inr ⟨h1, h2⟩
      · rw [if_neg h2] at h; exact Or.inl h
    · rw [if_neg h1] at h; exact Or.inl h
theorem beg_le {v least most : Nat} (h : beg v least most = true) : 0 < v ∧ v ≤ most := (begN_is 4 v v false h).resolve_left (by decide)
theorem rnum_le {ch : Nat → Nat} {tx : Nat → Int32} {least most ln i : Nat} (hT : TX tx ln ch) (hi : i ≤ ln) : i ≤ (rnum ch least most i).2 ∧ (rnum ch least most i).2 ≤ ln := rn_le hT.2.2.1 61 0 i hi
theorem rn_v {ch : Nat → Nat} {least most : Nat} : ∀ N v i, v ≤ most → (rn ch least most N v i).1 ≤ most
  | 0, _, _, h => h
  | N + 1, v, i, h => by
    unfold rn
    split
    · split
      · rename_i hb
        exact rn_v N _ _ (beg_le hb).2
      · exact h
    · exact h
theorem rnum_v {ch : Nat → Nat} {least most i : Nat} : (rnum ch least most i).1 ≤ most := rn_v 61 0 i (Nat.zero_le _)
theorem TX.in {tx : Nat → Int32} {ln : Nat} {ch : Nat → Nat} (h : TX tx ln ch) {i : Nat} (hi : 0 < ch i) : i < ln := by
  by_cases hc : ln ≤ i
  · have := h.2.2.1 i hc; omega
  · omega
theorem lX9_begins {l : Launch} {κ : KP} {M : Mem} {v least most : Nat} (hl : least ≤ 200) (hm : most ≤ 200) (hv : v ≤ 3000) : ∀ (N low high : Nat) (is : Bool), (low = 0 ∨ most < low * 10 ^ N) → (low = 0 ∨ high + 1 ≤ 2 * low) → low ≤ 3000 → high ≤ 6000 → 0 < 1 → fR l κ mX9_begins 8 [(5, .int (bI (is))), (4, .int (nI (high))), (3, .int (nI (low))), (0, .int (nI (v))), (1, .int (nI (least))), (2, .int (nI (most)))] [] M 0 0 (isI (bI (begN least most N low high is)) M) := by
  intro N
  induction N with
  | zero =>
    intro low high is h1 h2 h3 h4 _
    rw [Nat.pow_zero, Nat.mul_one] at h1
    refine r_iload_n dX9_begins_8 rfl ?_
    refine r_if_leN (tgt := 53) dX9_begins_9 (by decide) (by omega) (fun c1 => ?_) (fun c1 => ?_)
    · skip
      refine r_iload dX9_begins_53 rfl ?_
      exact r_zretB dX9_begins_55 rfl (isI_of (by rfl))
    · skip
      refine r_iload_n dX9_begins_12 rfl ?_
      refine r_iload_n dX9_begins_13 rfl ?_
      refine r_icmp_gtN (tgt := 53) dX9_begins_14 (by decide) (by omega) (by omega) (fun c2 => ?_) (fun c2 => ?_)
      · skip
        refine r_iload dX9_begins_53 rfl ?_
        exact r_zretB dX9_begins_55 rfl (isI_of (by rfl))
      · skip
        exact absurd h1 (by omega)
  | succ N ih =>
    intro low high is h1 h2 h3 h4 _
    refine r_iload_n dX9_begins_8 rfl ?_
    refine r_if_leN (tgt := 53) dX9_begins_9 (by decide) (by omega) (fun c1 => ?_) (fun c1 => ?_)
    · skip
      refine r_iload dX9_begins_53 rfl ?_
      exact r_zretB dX9_begins_55 rfl (isI_of (by unfold begN; (repeat (first | rw [if_pos (by first | assumption | exact Int32.not_le.mp (by assumption) | exact Int32.not_lt.mp (by assumption) | omega)] | rw [if_neg (by first | assumption | exact Int32.not_lt.mpr (by assumption) | exact Int32.not_le.mpr (by assumption) | exact bne_of (by assumption) | exact not_not_intro (by assumption) | omega)])); first | done | rfl))
    · skip
      have h1' : most < low * 10 ^ (N + 1) := h1.resolve_left (by omega)
      have h2' := h2.resolve_left (by omega)
      refine r_iload_n dX9_begins_12 rfl ?_
      refine r_iload_n dX9_begins_13 rfl ?_
      refine r_icmp_gtN (tgt := 53) dX9_begins_14 (by decide) (by omega) (by omega) (fun c2 => ?_) (fun c2 => ?_)
      · skip
        refine r_iload dX9_begins_53 rfl ?_
        exact r_zretB dX9_begins_55 rfl (isI_of (by unfold begN; (repeat (first | rw [if_pos (by first | assumption | exact Int32.not_le.mp (by assumption) | exact Int32.not_lt.mp (by assumption) | omega)] | rw [if_neg (by first | assumption | exact Int32.not_lt.mpr (by assumption) | exact Int32.not_le.mpr (by assumption) | exact bne_of (by assumption) | exact not_not_intro (by assumption) | omega)])); first | done | rfl))
      · skip
        have hJ3 : fR l κ mX9_begins 33 [(5, .int (bI (is))), (4, .int (nI (high))), (3, .int (nI (low))), (0, .int (nI (v))), (1, .int (nI (least))), (2, .int (nI (most)))] [.int (bI ((is || decide (least ≤ high))))] M 0 0 ((isI (bI (begN least most (N + 1) low high is)) M)) := by
          refine r_istore (lv' := [(5, .int (bI ((is || decide (least ≤ high))))), (4, .int (nI (high))), (3, .int (nI (low))), (0, .int (nI (v))), (1, .int (nI (least))), (2, .int (nI (most)))]) dX9_begins_33 (by decide) rfl ?_
          refine r_bipush (v := nI 10) dX9_begins_35 (by decide) ?_
          refine r_iload_n dX9_begins_37 rfl ?_
          refine r_imulN dX9_begins_38 ?_
          refine r_istore_n (lv' := [(3, .int (nI ((10 * low)))), (5, .int (bI ((is || decide (least ≤ high))))), (4, .int (nI (high))), (0, .int (nI (v))), (1, .int (nI (least))), (2, .int (nI (most)))]) dX9_begins_39 (by decide) rfl ?_
          refine r_bipush (v := nI 10) dX9_begins_40 (by decide) ?_
          refine r_iload dX9_begins_42 rfl ?_
          refine r_imulN dX9_begins_44 ?_
          refine r_bipush (v := nI 9) dX9_begins_45 (by decide) ?_
          refine r_iaddN dX9_begins_47 ?_
          refine r_istore (lv' := [(4, .int (nI (((10 * high) + 9)))), (3, .int (nI ((10 * low)))), (5, .int (bI ((is || decide (least ≤ high))))), (0, .int (nI (v))), (1, .int (nI (least))), (2, .int (nI (most)))]) dX9_begins_48 (by decide) rfl ?_
          refine r_goto (tgt := 8) dX9_begins_50 (by decide) ?_
          have e : begN least most (N + 1) low high is = begN least most N (10 * low) (10 * high + 9) (is || decide (least ≤ high)) := (if_pos (by omega)).trans (if_pos (by omega))
          rw [e]
          refine r_lv (lv' := [(5, .int (bI ((is || decide (least ≤ high))))), (4, .int (nI (((10 * high) + 9)))), (3, .int (nI ((10 * low)))), (0, .int (nI (v))), (1, .int (nI (least))), (2, .int (nI (most)))]) (by simp) ?_
          exact ih (10 * low) (10 * high + 9) (is || decide (least ≤ high)) (Or.inr (by rw [Nat.pow_succ, ← Nat.mul_assoc] at h1'; rw [Nat.mul_assoc]; omega)) (Or.inr (by omega)) (by omega) (by omega) (by omega)
        refine r_iload dX9_begins_17 rfl ?_
        refine r_if_neB (tgt := 28) dX9_begins_19 (by decide) (fun c4 => ?_) (fun c4 => ?_)
        · skip
          refine r_iconst (v := nI 1) dX9_begins_28 (by decide) ?_
          refine r_goto (tgt := 33) dX9_begins_29 (by decide) ?_
          exact r_top (bJ_t (by first | (rw [show is = true by assumption]; rfl) | (rw [show is = false by assumption]; show decide (least ≤ high) = true; exact decide_eq_true (by omega)) | (rw [show is = false by assumption]; show decide (least ≤ high) = false; exact decide_eq_false (by omega)))) hJ3
        · skip
          refine r_iload dX9_begins_22 rfl ?_
          refine r_iload_n dX9_begins_24 rfl ?_
          refine r_icmp_ltN (tgt := 32) dX9_begins_25 (by decide) (by omega) (by omega) (fun c5 => ?_) (fun c5 => ?_)
          · skip
            refine r_iconst (v := nI 0) dX9_begins_32 (by decide) ?_
            exact r_top (bJ_f (by first | (rw [show is = true by assumption]; rfl) | (rw [show is = false by assumption]; show decide (least ≤ high) = true; exact decide_eq_true (by omega)) | (rw [show is = false by assumption]; show decide (least ≤ high) = false; exact decide_eq_false (by omega)))) hJ3
          · skip
            refine r_iconst (v := nI 1) dX9_begins_28 (by decide) ?_
            refine r_goto (tgt := 33) dX9_begins_29 (by decide) ?_
            exact r_top (bJ_t (by first | (rw [show is = true by assumption]; rfl) | (rw [show is = false by assumption]; show decide (least ≤ high) = true; exact decide_eq_true (by omega)) | (rw [show is = false by assumption]; show decide (least ≤ high) = false; exact decide_eq_false (by omega)))) hJ3
theorem tX9_begins {l : Launch} {κ : KP} {M : Mem} {v least most : Nat} (hl : least ≤ 200) (hm : most ≤ 200) (hv : v ≤ 3000) : fM l κ mX9_begins [.int (nI (v)), .int (nI (least)), .int (nI (most))] M (isI (bI (beg v least most)) M) := by
  refine fM_of rfl (by decide +kernel) (Nat.le_of_ble_eq_true rfl) ?_
  show fR l κ mX9_begins 0 [(0, .int (nI (v))), (1, .int (nI (least))), (2, .int (nI (most)))] [] M 0 0 _
  refine r_iload_n dX9_begins_0 rfl ?_
  refine r_istore_n (lv' := [(3, .int (nI (v))), (0, .int (nI (v))), (1, .int (nI (least))), (2, .int (nI (most)))]) dX9_begins_1 (by decide) rfl ?_
  refine r_iload_n dX9_begins_2 rfl ?_
  refine r_istore (lv' := [(4, .int (nI (v))), (3, .int (nI (v))), (0, .int (nI (v))), (1, .int (nI (least))), (2, .int (nI (most)))]) dX9_begins_3 (by decide) rfl ?_
  refine r_iconst (v := nI 0) dX9_begins_5 (by decide) ?_
  refine r_istore (lv' := [(5, .int (nI (0))), (4, .int (nI (v))), (3, .int (nI (v))), (0, .int (nI (v))), (1, .int (nI (least))), (2, .int (nI (most)))]) dX9_begins_6 (by decide) rfl ?_
  refine r_lv (lv' := [(5, .int (nI (0))), (4, .int (nI (v))), (3, .int (nI (v))), (0, .int (nI (v))), (1, .int (nI (least))), (2, .int (nI (most)))]) (by simp) ?_
  refine lX9_begins hl hm hv 4 v v false ?_ ?_ (by omega) (by omega) (by omega)
  · omega
  · omega
theorem lX9_readsNumber_e {l : Launch} {κ : KP} {M : Mem} {m sA tA nA : Nat} {th sv kp pt : Int32} {hs : Int64} {g tx nu : Nat → Int32} {ch : Nat → Nat} {ln i : Nat} (hD : rDis m sA tA nA) (hT : TX tx ln ch) {p least most : Nat} (hp : p < 4) (hl2 : least ≤ 200) (hm : most ≤ 200) {v : Nat} (hv : v ≤ 200) : fR l κ mX9_readsNumber 66 [(4, .int (nI (v))), (0, .ref (m)), (1, .int (nI (p))), (2, .int (nI (least))), (3, .int (nI (most)))] [] (RM M m sA tA nA (th) (sv) (kp) (nI (ln)) (nI (i)) (pt) (hs) (g) (tx) (nu)) 0 0 (isI (bI (decide (least ≤ v))) (RM M m sA tA nA (th) (sv) (kp) (nI (ln)) (nI (i)) (pt) (hs) (g) (tx) (upd nu p (nI v)))) := by
  refine r_aload_n dX9_readsNumber_66 rfl ?_
  refine r_get (k := 8) dX9_readsNumber_67 RM_0 rfl rfl (by decide) kX9_16F ?_
  refine r_iload_n dX9_readsNumber_70 rfl ?_
  refine r_iload dX9_readsNumber_71 rfl ?_
  refine r_iastN dX9_readsNumber_73 (RM_3 hD) (by omega) (by decide) ?_
  refine r_mem (RM_s3 hD) ?_
  refine r_iload dX9_readsNumber_74 rfl ?_
  refine r_iload_n dX9_readsNumber_76 rfl ?_
  refine r_icmp_ltN (tgt := 84) dX9_readsNumber_77 (by decide) (by omega) (by omega) (fun c1 => ?_) (fun c1 => ?_)
  · skip
    refine r_iconst (v := nI 0) dX9_readsNumber_84 (by decide) ?_
    exact fR_zret dX9_readsNumber_85 rfl rfl (isI_of (by first | exact congrArg bI (decide_eq_true (by omega)).symm | exact congrArg bI (decide_eq_false (by omega)).symm))
  · skip
    refine r_iconst (v := nI 1) dX9_readsNumber_80 (by decide) ?_
    refine r_goto (tgt := 85) dX9_readsNumber_81 (by decide) ?_
    exact fR_zret dX9_readsNumber_85 rfl rfl (isI_of (by first | exact congrArg bI (decide_eq_true (by omega)).symm | exact congrArg bI (decide_eq_false (by omega)).symm))
theorem lX9_readsNumber {l : Launch} {κ : KP} {M : Mem} {m sA tA nA : Nat} {th sv kp pt : Int32} {hs : Int64} {g tx nu : Nat → Int32} {ch : Nat → Nat} {ln : Nat} (hD : rDis m sA tA nA) (hT : TX tx ln ch) {p least most : Nat} (hp : p < 4) (hl2 : least ≤ 200) (hm : most ≤ 200) : ∀ (N v i : Nat), ln < N + i → i ≤ ln → v ≤ 200 → fR l κ mX9_readsNumber 3 [(4, .int (nI (v))), (0, .ref (m)), (1, .int (nI (p))), (2, .int (nI (least))), (3, .int (nI (most)))] [] (RM M m sA tA nA (th) (sv) (kp) (nI (ln)) (nI (i)) (pt) (hs) (g) (tx) (nu)) 0 0 (isI (bI (decide (least ≤ (rn ch least most N v i).1))) (RM M m sA tA nA (th) (sv) (kp) (nI (ln)) (nI ((rn ch least most N v i).2)) (pt) (hs) (g) (tx) (upd nu p (nI (rn ch least most N v i).1)))) := by
  intro N
  induction N with
  | zero => intro v i h1 h2; omega
  | succ N ih =>
    intro v i h1 h2 h3
    have hl := hT.1
    have hx := hT.lt i
    refine r_aload_n dX9_readsNumber_3 rfl ?_
    refine r_callV (As := []) dX9_readsNumber_4 (tX9_sign hD hT (by omega)) rfl RM_0 rfl rfl oX9_sign rfl kX9_141M nX9_sign eX9_sign (by unfold fRoom; decide) (Nat.le_of_ble_eq_true rfl) rfl (bc' := 0) (bs' := 0) rfl rfl ?_
    show fR _ _ _ 7 _ (.int (nI (ch i)) :: _) _ _ _ _
    refine r_bipush (v := nI 48) dX9_readsNumber_7 (by decide) ?_
    refine r_bipush (v := nI 57) dX9_readsNumber_9 (by decide) ?_
    refine r_callS (As := [.int (nI (ch i)), .int (nI (48)), .int (nI (57))]) dX9_readsNumber_11 (tX9_inN (by omega) (by omega) (by omega)) rfl oX9_in rfl kX9_23M sX9_in (by unfold fRoom; decide) (Nat.le_of_ble_eq_true rfl) rfl (bc' := 0) (bs' := 0) rfl rfl ?_
    show fR _ _ _ 14 _ (.int (bI (decide (48 ≤ ch i ∧ ch i ≤ 57))) :: _) _ _ _ _
    refine r_if_eqB (tgt := 66) dX9_readsNumber_14 (by decide) (fun c1 => ?_) (fun c1 => ?_)
    · skip
      have hc1 := of_decide_eq_false c1
      have e : rn ch least most (N + 1) v i = (v, i) := by
          unfold rn; (repeat (first | rw [if_pos (by first | assumption | exact Int32.not_le.mp (by assumption) | exact Int32.not_lt.mp (by assumption) | omega)] | rw [if_neg (by first | assumption | exact Int32.not_lt.mpr (by assumption) | exact Int32.not_le.mpr (by assumption) | exact bne_of (by assumption) | exact not_not_intro (by assumption) | omega)])); first | done | rfl
      rw [e]
      refine r_lv (lv' := [(4, .int (nI (v))), (0, .ref (m)), (1, .int (nI (p))), (2, .int (nI (least))), (3, .int (nI (most)))]) (by simp) ?_
      exact lX9_readsNumber_e hD hT hp hl2 hm (by omega)
    · skip
      have hc1 := of_decide_eq_true c1
      refine r_bipush (v := nI 10) dX9_readsNumber_17 (by decide) ?_
      refine r_iload dX9_readsNumber_19 rfl ?_
      refine r_imulN dX9_readsNumber_21 ?_
      refine r_aload_n dX9_readsNumber_22 rfl ?_
      refine r_callV (As := []) dX9_readsNumber_23 (tX9_sign hD hT (by omega)) rfl RM_0 rfl rfl oX9_sign rfl kX9_141M nX9_sign eX9_sign (by unfold fRoom; decide) (Nat.le_of_ble_eq_true rfl) rfl (bc' := 0) (bs' := 0) rfl rfl ?_
      show fR _ _ _ 26 _ (.int (nI (ch i)) :: _) _ _ _ _
      refine r_iaddN dX9_readsNumber_26 ?_
      refine r_bipush (v := nI 48) dX9_readsNumber_27 (by decide) ?_
      refine r_isubN dX9_readsNumber_29 (by omega) ?_
      refine r_iload_n dX9_readsNumber_30 rfl ?_
      refine r_iload_n dX9_readsNumber_31 rfl ?_
      refine r_callS (As := [.int (nI ((((10 * v) + ch i) - 48))), .int (nI (least)), .int (nI (most))]) dX9_readsNumber_32 (tX9_begins (by omega) (by omega) (by omega)) rfl oX9_begins rfl kX9_145M sX9_begins (by unfold fRoom; decide) (Nat.le_of_ble_eq_true rfl) rfl (bc' := 0) (bs' := 0) rfl rfl ?_
      show fR _ _ _ 35 _ (.int (bI (beg ((((10 * v) + ch i) - 48)) least most)) :: _) _ _ _ _
      refine r_if_eqB (tgt := 66) dX9_readsNumber_35 (by decide) (fun c2 => ?_) (fun c2 => ?_)
      · skip
        have e : rn ch least most (N + 1) v i = (v, i) := by
          unfold rn; (repeat (first | rw [if_pos (by first | assumption | exact Int32.not_le.mp (by assumption) | exact Int32.not_lt.mp (by assumption) | omega)] | rw [if_neg (by first | assumption | exact Int32.not_lt.mpr (by assumption) | exact Int32.not_le.mpr (by assumption) | exact bne_of (by assumption) | exact not_not_intro (by assumption) | omega)])); first | done | rfl
        rw [e]
        refine r_lv (lv' := [(4, .int (nI (v))), (0, .ref (m)), (1, .int (nI (p))), (2, .int (nI (least))), (3, .int (nI (most)))]) (by simp) ?_
        exact lX9_readsNumber_e hD hT hp hl2 hm (by omega)
      · skip
        have hbl := beg_le c2
        have hin := hT.in (i := i) (by omega)
        refine r_bipush (v := nI 10) dX9_readsNumber_38 (by decide) ?_
        refine r_iload dX9_readsNumber_40 rfl ?_
        refine r_imulN dX9_readsNumber_42 ?_
        refine r_aload_n dX9_readsNumber_43 rfl ?_
        refine r_callV (As := []) dX9_readsNumber_44 (tX9_sign hD hT (by omega)) rfl RM_0 rfl rfl oX9_sign rfl kX9_141M nX9_sign eX9_sign (by unfold fRoom; decide) (Nat.le_of_ble_eq_true rfl) rfl (bc' := 0) (bs' := 0) rfl rfl ?_
        show fR _ _ _ 47 _ (.int (nI (ch i)) :: _) _ _ _ _
        refine r_iaddN dX9_readsNumber_47 ?_
        refine r_bipush (v := nI 48) dX9_readsNumber_48 (by decide) ?_
        refine r_isubN dX9_readsNumber_50 (by omega) ?_
        refine r_istore (lv' := [(4, .int (nI ((((10 * v) + ch i) - 48)))), (0, .ref (m)), (1, .int (nI (p))), (2, .int (nI (least))), (3, .int (nI (most)))]) dX9_readsNumber_51 (by decide) rfl ?_
        refine r_aload_n dX9_readsNumber_53 rfl ?_
        refine r_dup dX9_readsNumber_54 rfl ?_
        refine r_get (k := 6) dX9_readsNumber_55 RM_0 rfl rfl (by decide) kX9_138F ?_
        refine r_iconst (v := nI 1) dX9_readsNumber_58 (by decide) ?_
        refine r_iaddN dX9_readsNumber_59 ?_
        refine r_put (k := 6) (fs' := [.int (th), .ref (sA), .int (sv), .int (kp), .ref (tA), .int (nI (ln)), .int (nI ((i + 1))), .int (pt), .ref (nA), .long (hs)]) dX9_readsNumber_60 RM_0 rfl (by decide) kX9_138F rfl rfl rfl (Nat.le_of_ble_eq_true rfl) rfl ?_
        refine r_mem RM_put ?_
        refine r_goto (tgt := 3) dX9_readsNumber_63 (by decide) ?_
        have e : rn ch least most (N + 1) v i = rn ch least most N (10 * v + ch i - 48) (i + 1) := by
          conv => { lhs; unfold rn }
          rw [if_pos (by assumption), if_pos (by assumption)]
        rw [e]
        refine r_lv (lv' := [(4, .int (nI ((((10 * v) + ch i) - 48)))), (0, .ref (m)), (1, .int (nI (p))), (2, .int (nI (least))), (3, .int (nI (most)))]) (by simp) ?_
        exact ih (10 * v + ch i - 48) (i + 1) (by omega) (by omega) (by omega)
theorem tX9_readsNumber {l : Launch} {κ : KP} {M : Mem} {m sA tA nA : Nat} {th sv kp pt : Int32} {hs : Int64} {g tx nu : Nat → Int32} {ch : Nat → Nat} {ln i : Nat} (hD : rDis m sA tA nA) (hT : TX tx ln ch) {p least most : Nat} (hp : p < 4) (hl2 : least ≤ 200) (hm : most ≤ 200) (hi : i ≤ ln) : fM l κ mX9_readsNumber [.ref (m), .int (nI (p)), .int (nI (least)), .int (nI (most))] (RM M m sA tA nA (th) (sv) (kp) (nI (ln)) (nI (i)) (pt) (hs) (g) (tx) (nu)) (isI (bI (decide (least ≤ (rnum ch least most i).1))) (RM M m sA tA nA (th) (sv) (kp) (nI (ln)) (nI ((rnum ch least most i).2)) (pt) (hs) (g) (tx) (upd nu p (nI (rnum ch least most i).1)))) := by
  refine fM_of rfl (by decide +kernel) (Nat.le_of_ble_eq_true rfl) ?_
  have hl := hT.1
  have hx := hT.lt i
  show fR l κ mX9_readsNumber 0 [(0, .ref (m)), (1, .int (nI (p))), (2, .int (nI (least))), (3, .int (nI (most)))] [] (RM M m sA tA nA (th) (sv) (kp) (nI (ln)) (nI (i)) (pt) (hs) (g) (tx) (nu)) 0 0 _
  refine r_iconst (v := nI 0) dX9_readsNumber_0 (by decide) ?_
  refine r_istore (lv' := [(4, .int (nI (0))), (0, .ref (m)), (1, .int (nI (p))), (2, .int (nI (least))), (3, .int (nI (most)))]) dX9_readsNumber_1 (by decide) rfl ?_
  exact lX9_readsNumber hD hT hp hl2 hm 61 0 i (by omega) hi (by omega)
/-! marks -/
