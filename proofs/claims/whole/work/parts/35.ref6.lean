/-! WHAT EVERY BLOCK OF THE REFERENCE'S NUMBERS KEEPS, and the public methods' answers as functions. -/
def BI (f : Nat → Int32) (dn n : Nat) : Prop :=
  (f 0 = nI dn) ∧
  (dn ≤ 6) ∧
  (f 1 = nI n) ∧
  (n ≤ 8) ∧
  (∀ d, d < dn → (∃ s, 20 ≤ s ∧ s ≤ 300 ∧ f (10 + 3 * d + 0) = nI s) ∧ (∃ a, a ≤ 999 ∧ f (10 + 3 * d + 1) = nI a) ∧ (f (10 + 3 * d + 2) = -1 ∨ ∃ c, c ≤ 20 ∧ f (10 + 3 * d + 2) = nI c)) ∧
  (∀ k, k < n → (∃ d, d < dn ∧ pOf f k 0 = nI d) ∧ (∃ h, h ≤ 149 ∧ pOf f k 1 = nI h) ∧ (∃ w, w ≤ 900 ∧ pOf f k 2 = nI w) ∧ (pOf f k 3 = -1 ∨ ∃ b, b < 3 ∧ pOf f k 3 = nI b) ∧ (pOf f k 4 = -1 ∨ ∃ s, s ≤ 2100 ∧ 250 ≤ s ∧ pOf f k 4 = nI s) ∧ pOf f k 5 = nI (pMany f k) ∧ pMany f k ≤ 9) ∧
  (∀ k, k < n → ∀ r, r < pMany f k → (∃ x, x < 3 ∧ pOf f k (6 + 4 * r + 0) = nI x) ∧ (∃ y, y ≤ 400 ∧ pOf f k (6 + 4 * r + 1) = nI y)) ∧
  (∀ i, i < 3 → (∃ w, w ≤ 20 ∧ f (31 + 3 * i + 0) = nI w) ∧ (f (31 + 3 * i + 1) = nI 0 ∨ f (31 + 3 * i + 1) = nI 1)) ∧
  (f 2 = f 33 + f 36 + f 39) ∧
  (∀ b, b < 3 → ∃ x, x ≤ 900 ∧ f (28 + b) = nI x) ∧
  ((∃ x, x ≤ 50 ∧ f 5 = nI x) ∧ (∃ x, x ≤ 100 ∧ f 6 = nI x) ∧ (∃ x, x ≤ 60 ∧ f 7 = nI x))
theorem BI.d0 {f : Nat → Int32} {dn n : Nat} (h : BI f dn n) : f 0 = nI dn := h.1
theorem BI.dle {f : Nat → Int32} {dn n : Nat} (h : BI f dn n) : dn ≤ 6 := h.2.1
theorem BI.n0 {f : Nat → Int32} {dn n : Nat} (h : BI f dn n) : f 1 = nI n := h.2.2.1
theorem BI.nle {f : Nat → Int32} {dn n : Nat} (h : BI f dn n) : n ≤ 8 := h.2.2.2.1
theorem BI.dr {f : Nat → Int32} {dn n : Nat} (h : BI f dn n) : ∀ d, d < dn → (∃ s, 20 ≤ s ∧ s ≤ 300 ∧ f (10 + 3 * d + 0) = nI s) ∧ (∃ a, a ≤ 999 ∧ f (10 + 3 * d + 1) = nI a) ∧ (f (10 + 3 * d + 2) = -1 ∨ ∃ c, c ≤ 20 ∧ f (10 + 3 * d + 2) = nI c) := h.2.2.2.2.1
theorem BI.sa {f : Nat → Int32} {dn n : Nat} (h : BI f dn n) : ∀ k, k < n → (∃ d, d < dn ∧ pOf f k 0 = nI d) ∧ (∃ h, h ≤ 149 ∧ pOf f k 1 = nI h) ∧ (∃ w, w ≤ 900 ∧ pOf f k 2 = nI w) ∧ (pOf f k 3 = -1 ∨ ∃ b, b < 3 ∧ pOf f k 3 = nI b) ∧ (pOf f k 4 = -1 ∨ ∃ s, s ≤ 2100 ∧ 250 ≤ s ∧ pOf f k 4 = nI s) ∧ pOf f k 5 = nI (pMany f k) ∧ pMany f k ≤ 9 := h.2.2.2.2.2.1
theorem BI.rd {f : Nat → Int32} {dn n : Nat} (h : BI f dn n) : ∀ k, k < n → ∀ r, r < pMany f k → (∃ x, x < 3 ∧ pOf f k (6 + 4 * r + 0) = nI x) ∧ (∃ y, y ≤ 400 ∧ pOf f k (6 + 4 * r + 1) = nI y) := h.2.2.2.2.2.2.1
theorem BI.nd {f : Nat → Int32} {dn n : Nat} (h : BI f dn n) : ∀ i, i < 3 → (∃ w, w ≤ 20 ∧ f (31 + 3 * i + 0) = nI w) ∧ (f (31 + 3 * i + 1) = nI 0 ∨ f (31 + 3 * i + 1) = nI 1) := h.2.2.2.2.2.2.2.1
theorem BI.us {f : Nat → Int32} {dn n : Nat} (h : BI f dn n) : f 2 = f 33 + f 36 + f 39 := h.2.2.2.2.2.2.2.2.1
theorem BI.dg {f : Nat → Int32} {dn n : Nat} (h : BI f dn n) : ∀ b, b < 3 → ∃ x, x ≤ 900 ∧ f (28 + b) = nI x := h.2.2.2.2.2.2.2.2.2.1
theorem BI.st {f : Nat → Int32} {dn n : Nat} (h : BI f dn n) : (∃ x, x ≤ 50 ∧ f 5 = nI x) ∧ (∃ x, x ≤ 100 ∧ f 6 = nI x) ∧ (∃ x, x ≤ 60 ∧ f 7 = nI x) := h.2.2.2.2.2.2.2.2.2.2
theorem BI.congr {f f' : Nat → Int32} {dn n : Nat} (e : ∀ j, j < 376 → f' j = f j) (h : BI f dn n) : BI f' dn n := by
  obtain ⟨h1, h2, h3, h4, h5, h6, h7, h8, h9, h10, h11⟩ := h
  have eo : ∀ k w, k < 8 → w < 42 → pOf f' k w = pOf f k w := fun k w hk hw => e _ (by omega)
  have em : ∀ k, k < 8 → pMany f' k = pMany f k := fun k hk => by unfold pMany; rw [eo k 5 hk (by omega)]
  refine ⟨(e 0 (by omega)).trans h1, h2, (e 1 (by omega)).trans h3, h4, ?_, ?_, ?_, ?_, ?_, ?_, ?_⟩
  · intro d hd
    rw [e (10 + 3 * d + 0) (by omega), e (10 + 3 * d + 1) (by omega), e (10 + 3 * d + 2) (by omega)]
    exact h5 d hd
  · intro k hk
    rw [eo k 0 (by omega) (by omega), eo k 1 (by omega) (by omega), eo k 2 (by omega) (by omega), eo k 3 (by omega) (by omega), eo k 4 (by omega) (by omega), eo k 5 (by omega) (by omega), em k (by omega)]
    exact h6 k hk
  · intro k hk r hr
    rw [em k (by omega)] at hr
    have := (h6 k hk).2.2.2.2.2.2
    rw [eo k (6 + 4 * r + 0) (by omega) (by omega), eo k (6 + 4 * r + 1) (by omega) (by omega)]
    exact h7 k hk r hr
  · intro i hi
    rw [e (31 + 3 * i + 0) (by omega), e (31 + 3 * i + 1) (by omega)]
    exact h8 i hi
  · rw [e 2 (by omega), e 33 (by omega), e 36 (by omega), e 39 (by omega)]; exact h9
  · intro b hb
    rw [e (28 + b) (by omega)]
    exact h10 b hb
  · rw [e 5 (by omega), e 6 (by omega), e 7 (by omega)]; exact h11
theorem BI.save {f : Nat → Int32} {dn n : Nat} (h : BI f dn n) (sn : Nat) : BI (pSave f sn) dn n := h.congr (fun _ hj => pSave_lo hj)
theorem BI.mM {f : Nat → Int32} {dn n : Nat} (h : BI f dn n) : ∀ k, k < n → pOf f k 5 = nI (pMany f k) ∧ pMany f k ≤ 9 := fun k hk => (h.sa k hk).2.2.2.2.2
theorem BI.mB {f : Nat → Int32} {dn n : Nat} (h : BI f dn n) : ∀ k, k < n → ¬ pOf f k 3 = -1 → ∃ b, b < 3 ∧ pOf f k 3 = nI b := fun k hk h3 => ((h.sa k hk).2.2.2.1).resolve_left h3
theorem BI.m1 {f : Nat → Int32} {dn n : Nat} (h : BI f dn n) : ∀ k, k < n → ¬ pOf f k 1 + nI 1 = 0 := fun k hk => by
  obtain ⟨x, hx, e⟩ := (h.sa k hk).2.1
  rw [e, nI_add]; exact nI_ne0 (by omega) (by omega)
theorem BI.s0 {f : Nat → Int32} {dn n : Nat} (h : BI f dn n) : ∀ d, d < dn → ¬ f (10 + 3 * d + 0) = 0 := fun d hd => by
  obtain ⟨x, h1, h2, e⟩ := (h.dr d hd).1
  rw [e]; exact nI_ne0 (by omega) (by omega)
/-- a number from 0 to n - 1 -/
def pNo (v : Int32) (n : Nat) : Bool := pIn v (nI 0) (nI n - nI 1)
theorem pNo_t {v : Int32} {n : Nat} (h : pNo v n = true) (hn : n < 2 ^ 30) : ∃ k, k < n ∧ v = nI k := pIn_nat hn h
theorem pNo_3 (v : Int32) : pIn v (nI 0) (nI 2) = pNo v 3 := rfl
abbrev cN (v : Int32) : Nat := v.toNatClampNeg
/-- the state that calls see: numbers, states saved, whether a snapshot is kept, text, its length -/
abbrev Zs : Type := (Nat → Int32) × Nat × Bool × (Nat → Int32) × Nat
abbrev Oc : Type := Nat × Int32 × Zs
def zsv (z : Zs) (h : (Nat → Int32) → (Nat → Int32)) : Zs := ⟨h (pSave z.1 z.2.1), pUp z.2.1, z.2.2.1, z.2.2.2.1, z.2.2.2.2⟩
def rPost (M : Mem) (m sA tA nA : Nat) (O : Oc) : FPost := fun o M' => ∃ (ap pt : Int32) (hs : Int64) (nu : Nat → Int32), o = .inl (some (.int O.2.1)) ∧ M' = RM M m sA tA nA (nI O.1) (nI O.2.2.2.1) (bI O.2.2.2.2.1) (nI O.2.2.2.2.2.2) ap pt hs O.2.2.1 O.2.2.2.2.2.1 nu
theorem rPost_of {M : Mem} {m sA tA nA t sn ln : Nat} {O : Oc} {v ap pt : Int32} {hs : Int64} {g tx nu : Nat → Int32} {kp : Bool} (h : O = (t, v, ⟨g, sn, kp, tx, ln⟩)) : rPost M m sA tA nA O (.inl (some (.int v))) (RM M m sA tA nA (nI t) (nI sn) (bI kp) (nI ln) ap pt hs g tx nu) := by
  subst h; exact ⟨ap, pt, hs, nu, rfl, rfl⟩
theorem tX9_isDrum2 {l : Launch} {κ : KP} {M : Mem} {m sA tA nA : Nat} {th sv kp ln ap pt : Int32} {hs : Int64} {g tx nu : Nat → Int32} (hD : rDis m sA tA nA) {v : Int32} {dn : Nat} (h : g 0 = nI dn) : fM l κ mX9_isDrum [.ref m, .int v] (RM M m sA tA nA (th) (sv) (kp) (ln) (ap) (pt) (hs) (g) (tx) (nu)) (isI (bI (pNo v dn)) (RM M m sA tA nA (th) (sv) (kp) (ln) (ap) (pt) (hs) (g) (tx) (nu))) := by
  have := tX9_isDrum (l := l) (κ := κ) (M := M) (th := th) (sv := sv) (kp := kp) (ln := ln) (ap := ap) (pt := pt) (hs := hs) (g := g) (tx := tx) (nu := nu) hD (v := v)
  rw [h] at this; exact this
theorem tX9_isSample2 {l : Launch} {κ : KP} {M : Mem} {m sA tA nA : Nat} {th sv kp ln ap pt : Int32} {hs : Int64} {g tx nu : Nat → Int32} (hD : rDis m sA tA nA) {v : Int32} {n : Nat} (h : g 1 = nI n) : fM l κ mX9_isSample [.ref m, .int v] (RM M m sA tA nA (th) (sv) (kp) (ln) (ap) (pt) (hs) (g) (tx) (nu)) (isI (bI (pNo v n)) (RM M m sA tA nA (th) (sv) (kp) (ln) (ap) (pt) (hs) (g) (tx) (nu))) := by
  have := tX9_isSample (l := l) (κ := κ) (M := M) (th := th) (sv := sv) (kp := kp) (ln := ln) (ap := ap) (pt := pt) (hs := hs) (g := g) (tx := tx) (nu := nu) hD (v := v)
  rw [h] at this; exact this
theorem tX9_isOne2 {l : Launch} {κ : KP} {M : Mem} {v : Int32} : fM l κ mX9_isOne [.int v] M (isI (bI (pNo v 3)) M) := tX9_isOne
theorem tX9_holds_t {l : Launch} {κ : KP} {M : Mem} {m sA tA nA : Nat} {th sv kp ln ap pt : Int32} {hs : Int64} {g tx nu : Nat → Int32} (hD : rDis m sA tA nA) : fM l κ mX9_holds [.ref m, .int (nI 0)] (RM M m sA tA nA (th) (sv) (kp) (ln) (ap) (pt) (hs) (g) (tx) (nu)) (isI (bI true) (RM M m sA tA nA (nI (0)) (sv) (kp) (ln) (ap) (pt) (hs) (g) (tx) (nu))) := tX9_holds hD
theorem tX9_holds_f {l : Launch} {κ : KP} {M : Mem} {m sA tA nA : Nat} {th sv kp ln ap pt : Int32} {hs : Int64} {g tx nu : Nat → Int32} (hD : rDis m sA tA nA) {i : Nat} (h0 : 0 < i) (h1 : i < 2 ^ 31) : fM l κ mX9_holds [.ref m, .int (nI i)] (RM M m sA tA nA (th) (sv) (kp) (ln) (ap) (pt) (hs) (g) (tx) (nu)) (isI (bI false) (RM M m sA tA nA (nI (i)) (sv) (kp) (ln) (ap) (pt) (hs) (g) (tx) (nu))) := by
  have := tX9_holds (l := l) (κ := κ) (M := M) (th := th) (sv := sv) (kp := kp) (ln := ln) (ap := ap) (pt := pt) (hs := hs) (g := g) (tx := tx) (nu := nu) hD (v := nI i)
  rw [decide_eq_false (nI_ne0 h0 h1)] at this; exact this
def oDrumOf (z : Zs) (dn n : Nat) (p0 : Int32) (p1 : Int32) : Oc := if pNo p0 dn = true then (if pIn p1 (nI 0) (nI 8) = true then (0, pOfDrum z.1 n (cN p0) (cN p1), z) else (2, 0, z)) else (1, 0, z)
theorem tX9_drumOf_o {l : Launch} {κ : KP} {M : Mem} {m sA tA nA : Nat} {th ap pt : Int32} {hs : Int64} {g tx nu : Nat → Int32} {kp : Bool} {sn ln dn n : Nat} (hD : rDis m sA tA nA) (hI : BI g dn n) (hsn : sn ≤ 6) (hln : ln ≤ 60)  {p0 : Int32} {p1 : Int32} : fM l κ mX9_drumOf [.ref (m), .int (p0), .int (p1)] (RM M m sA tA nA (th) (nI (sn)) (bI (kp)) (nI (ln)) (ap) (pt) (hs) (g) (tx) (nu)) (rPost M m sA tA nA (oDrumOf ⟨g, sn, kp, tx, ln⟩ dn n p0 p1)) := by
  refine fM_of rfl (by decide +kernel) (Nat.le_of_ble_eq_true rfl) ?_
  have hn := hI.nle
  have hg := hI.n0
  have hdn := hI.dle
  have hg0 := hI.d0
  have hM := hI.mM
  have hB := hI.mB
  have h1 := hI.m1
  have hs0 := hI.s0
  show fR l κ mX9_drumOf 0 [(0, .ref (m)), (1, .int (p0)), (2, .int (p1))] [] (RM M m sA tA nA (th) (nI (sn)) (bI (kp)) (nI (ln)) (ap) (pt) (hs) (g) (tx) (nu)) 0 0 _
  refine r_aload_n dX9_drumOf_0 rfl ?_
  refine r_aload_n dX9_drumOf_1 rfl ?_
  refine r_iload_n dX9_drumOf_2 rfl ?_
  refine r_callV (As := [.int (p0)]) dX9_drumOf_3 (tX9_isDrum2 hD hg0) rfl RM_0 rfl rfl oX9_isDrum rfl kX9_98M nX9_isDrum eX9_isDrum (by unfold fRoom; decide) (Nat.le_of_ble_eq_true rfl) rfl (bc' := 0) (bs' := 0) rfl rfl ?_
  show fR _ _ _ 6 _ (.int (bI (pNo (p0) dn)) :: _) _ _ _ _
  refine r_if_neB (tgt := 13) dX9_drumOf_6 (by decide) (fun c1 => ?_) (fun c1 => ?_)
  · skip
    obtain ⟨k0, hk0, ek0⟩ := pNo_t c1 (by omega)
    subst ek0
    have ck0 : cN (nI k0) = k0 := nI_clamp (by omega)
    refine r_iload_n dX9_drumOf_13 rfl ?_
    refine r_iconst (v := nI 0) dX9_drumOf_14 (by decide) ?_
    refine r_bipush (v := nI 8) dX9_drumOf_15 (by decide) ?_
    refine r_callS (As := [.int (p1), .int (nI (0)), .int (nI (8))]) dX9_drumOf_17 tX9_in rfl oX9_in rfl kX9_23M sX9_in (by unfold fRoom; decide) (Nat.le_of_ble_eq_true rfl) rfl (bc' := 0) (bs' := 0) rfl rfl ?_
    show fR _ _ _ 20 _ (.int (bI (pIn (p1) (nI (0)) (nI (8)))) :: _) _ _ _ _
    refine r_if_neB (tgt := 27) dX9_drumOf_20 (by decide) (fun c2 => ?_) (fun c2 => ?_)
    · skip
      obtain ⟨k1, hk1, ek1⟩ := pIn_nat2 (by omega) c2
      subst ek1
      have ck1 : cN (nI k1) = k1 := nI_clamp (by omega)
      refine r_iconst (v := nI 0) dX9_drumOf_27 (by decide) ?_
      refine r_callV (As := [.int (nI (0))]) dX9_drumOf_28 (tX9_holds_t hD) rfl RM_0 rfl rfl oX9_holds rfl kX9_94M nX9_holds eX9_holds (by unfold fRoom; decide) (Nat.le_of_ble_eq_true rfl) rfl (bc' := 0) (bs' := 0) rfl rfl ?_
      show fR _ _ _ 31 _ (.int (bI (true)) :: _) _ _ _ _
      refine r_if_eqB (tgt := 43) dX9_drumOf_31 (by decide) (fun c3 => absurd c3 (by decide)) (fun c3 => ?_)
      refine r_aload_n dX9_drumOf_34 rfl ?_
      refine r_iload_n dX9_drumOf_35 rfl ?_
      refine r_iload_n dX9_drumOf_36 rfl ?_
      refine r_callV (As := [.int (nI (k0)), .int (nI (k1))]) dX9_drumOf_37 (tX9_ofDrum hD hn hg hM (by omega) (hs0 _ (by omega)) (by omega)) rfl RM_0 rfl rfl oX9_ofDrum rfl kX9_180M nX9_ofDrum eX9_ofDrum (by unfold fRoom; decide) (Nat.le_of_ble_eq_true rfl) rfl (bc' := 0) (bs' := 0) rfl rfl ?_
      show fR _ _ _ 40 _ (.int (pOfDrum (g) n (k0) (k1)) :: _) _ _ _ _
      refine r_goto (tgt := 44) dX9_drumOf_40 (by decide) ?_
      exact fR_iret dX9_drumOf_44 rfl (rPost_of (t := 0) (kp := kp) (by unfold oDrumOf; (first | simp only [ck0, ck1, ck2] | simp only [ck0, ck1] | simp only [ck0, ck2] | simp only [ck1, ck2] | simp only [ck0] | simp only [ck1] | simp only [ck2] | skip); (repeat (first | rw [if_pos (by first | assumption | exact Int32.not_le.mp (by assumption) | exact Int32.not_lt.mp (by assumption) | omega)] | rw [if_neg (by first | assumption | exact Int32.not_lt.mpr (by assumption) | exact Int32.not_le.mpr (by assumption) | exact bne_of (by assumption) | exact not_not_intro (by assumption) | omega)])); first | done | rfl))
    · skip
      refine r_iconst (v := nI 2) dX9_drumOf_23 (by decide) ?_
      refine r_goto (tgt := 28) dX9_drumOf_24 (by decide) ?_
      refine r_callV (As := [.int (nI (2))]) dX9_drumOf_28 (tX9_holds_f hD (by omega) (by omega)) rfl RM_0 rfl rfl oX9_holds rfl kX9_94M nX9_holds eX9_holds (by unfold fRoom; decide) (Nat.le_of_ble_eq_true rfl) rfl (bc' := 0) (bs' := 0) rfl rfl ?_
      show fR _ _ _ 31 _ (.int (bI (false)) :: _) _ _ _ _
      refine r_if_eqB (tgt := 43) dX9_drumOf_31 (by decide) (fun c4 => ?_) (fun c4 => absurd c4 (by decide))
      refine r_iconst (v := nI 0) dX9_drumOf_43 (by decide) ?_
      exact fR_iret dX9_drumOf_44 rfl (rPost_of (t := 2) (kp := kp) (by unfold oDrumOf; (first | simp only [ck0, ck1, ck2] | simp only [ck0, ck1] | simp only [ck0, ck2] | simp only [ck1, ck2] | simp only [ck0] | simp only [ck1] | simp only [ck2] | skip); (repeat (first | rw [if_pos (by first | assumption | exact Int32.not_le.mp (by assumption) | exact Int32.not_lt.mp (by assumption) | omega)] | rw [if_neg (by first | assumption | exact Int32.not_lt.mpr (by assumption) | exact Int32.not_le.mpr (by assumption) | exact bne_of (by assumption) | exact not_not_intro (by assumption) | omega)])); first | done | rfl))
  · skip
    refine r_iconst (v := nI 1) dX9_drumOf_9 (by decide) ?_
    refine r_goto (tgt := 28) dX9_drumOf_10 (by decide) ?_
    refine r_callV (As := [.int (nI (1))]) dX9_drumOf_28 (tX9_holds_f hD (by omega) (by omega)) rfl RM_0 rfl rfl oX9_holds rfl kX9_94M nX9_holds eX9_holds (by unfold fRoom; decide) (Nat.le_of_ble_eq_true rfl) rfl (bc' := 0) (bs' := 0) rfl rfl ?_
    show fR _ _ _ 31 _ (.int (bI (false)) :: _) _ _ _ _
    refine r_if_eqB (tgt := 43) dX9_drumOf_31 (by decide) (fun c5 => ?_) (fun c5 => absurd c5 (by decide))
    refine r_iconst (v := nI 0) dX9_drumOf_43 (by decide) ?_
    exact fR_iret dX9_drumOf_44 rfl (rPost_of (t := 1) (kp := kp) (by unfold oDrumOf; (first | simp only [ck0, ck1, ck2] | simp only [ck0, ck1] | simp only [ck0, ck2] | simp only [ck1, ck2] | simp only [ck0] | simp only [ck1] | simp only [ck2] | skip); (repeat (first | rw [if_pos (by first | assumption | exact Int32.not_le.mp (by assumption) | exact Int32.not_lt.mp (by assumption) | omega)] | rw [if_neg (by first | assumption | exact Int32.not_lt.mpr (by assumption) | exact Int32.not_le.mpr (by assumption) | exact bne_of (by assumption) | exact not_not_intro (by assumption) | omega)])); first | done | rfl))
def oSampleOf (z : Zs) (dn n : Nat) (p0 : Int32) (p1 : Int32) : Oc := if pNo p0 n = true then (if pIn p1 (nI 0) (nI 8) = true then (0, pOfSample z.1 (cN p0) (cN p1), z) else (2, 0, z)) else (1, 0, z)
theorem tX9_sampleOf_o {l : Launch} {κ : KP} {M : Mem} {m sA tA nA : Nat} {th ap pt : Int32} {hs : Int64} {g tx nu : Nat → Int32} {kp : Bool} {sn ln dn n : Nat} (hD : rDis m sA tA nA) (hI : BI g dn n) (hsn : sn ≤ 6) (hln : ln ≤ 60)  {p0 : Int32} {p1 : Int32} : fM l κ mX9_sampleOf [.ref (m), .int (p0), .int (p1)] (RM M m sA tA nA (th) (nI (sn)) (bI (kp)) (nI (ln)) (ap) (pt) (hs) (g) (tx) (nu)) (rPost M m sA tA nA (oSampleOf ⟨g, sn, kp, tx, ln⟩ dn n p0 p1)) := by
  refine fM_of rfl (by decide +kernel) (Nat.le_of_ble_eq_true rfl) ?_
  have hn := hI.nle
  have hg := hI.n0
  have hdn := hI.dle
  have hg0 := hI.d0
  have hM := hI.mM
  have hB := hI.mB
  have h1 := hI.m1
  have hs0 := hI.s0
  show fR l κ mX9_sampleOf 0 [(0, .ref (m)), (1, .int (p0)), (2, .int (p1))] [] (RM M m sA tA nA (th) (nI (sn)) (bI (kp)) (nI (ln)) (ap) (pt) (hs) (g) (tx) (nu)) 0 0 _
  refine r_aload_n dX9_sampleOf_0 rfl ?_
  refine r_aload_n dX9_sampleOf_1 rfl ?_
  refine r_iload_n dX9_sampleOf_2 rfl ?_
  refine r_callV (As := [.int (p0)]) dX9_sampleOf_3 (tX9_isSample2 hD hg) rfl RM_0 rfl rfl oX9_isSample rfl kX9_104M nX9_isSample eX9_isSample (by unfold fRoom; decide) (Nat.le_of_ble_eq_true rfl) rfl (bc' := 0) (bs' := 0) rfl rfl ?_
  show fR _ _ _ 6 _ (.int (bI (pNo (p0) n)) :: _) _ _ _ _
  refine r_if_neB (tgt := 13) dX9_sampleOf_6 (by decide) (fun c1 => ?_) (fun c1 => ?_)
  · skip
    obtain ⟨k0, hk0, ek0⟩ := pNo_t c1 (by omega)
    subst ek0
    have ck0 : cN (nI k0) = k0 := nI_clamp (by omega)
    refine r_iload_n dX9_sampleOf_13 rfl ?_
    refine r_iconst (v := nI 0) dX9_sampleOf_14 (by decide) ?_
    refine r_bipush (v := nI 8) dX9_sampleOf_15 (by decide) ?_
    refine r_callS (As := [.int (p1), .int (nI (0)), .int (nI (8))]) dX9_sampleOf_17 tX9_in rfl oX9_in rfl kX9_23M sX9_in (by unfold fRoom; decide) (Nat.le_of_ble_eq_true rfl) rfl (bc' := 0) (bs' := 0) rfl rfl ?_
    show fR _ _ _ 20 _ (.int (bI (pIn (p1) (nI (0)) (nI (8)))) :: _) _ _ _ _
    refine r_if_neB (tgt := 27) dX9_sampleOf_20 (by decide) (fun c2 => ?_) (fun c2 => ?_)
    · skip
      obtain ⟨k1, hk1, ek1⟩ := pIn_nat2 (by omega) c2
      subst ek1
      have ck1 : cN (nI k1) = k1 := nI_clamp (by omega)
      refine r_iconst (v := nI 0) dX9_sampleOf_27 (by decide) ?_
      refine r_callV (As := [.int (nI (0))]) dX9_sampleOf_28 (tX9_holds_t hD) rfl RM_0 rfl rfl oX9_holds rfl kX9_94M nX9_holds eX9_holds (by unfold fRoom; decide) (Nat.le_of_ble_eq_true rfl) rfl (bc' := 0) (bs' := 0) rfl rfl ?_
      show fR _ _ _ 31 _ (.int (bI (true)) :: _) _ _ _ _
      refine r_if_eqB (tgt := 43) dX9_sampleOf_31 (by decide) (fun c3 => absurd c3 (by decide)) (fun c3 => ?_)
      refine r_aload_n dX9_sampleOf_34 rfl ?_
      refine r_iload_n dX9_sampleOf_35 rfl ?_
      refine r_iload_n dX9_sampleOf_36 rfl ?_
      refine r_callV (As := [.int (nI (k0)), .int (nI (k1))]) dX9_sampleOf_37 (tX9_ofSample hD (by omega) (hM _ (by omega)).1 (hM _ (by omega)).2 (by omega)) rfl RM_0 rfl rfl oX9_ofSample rfl kX9_183M nX9_ofSample eX9_ofSample (by unfold fRoom; decide) (Nat.le_of_ble_eq_true rfl) rfl (bc' := 0) (bs' := 0) rfl rfl ?_
      show fR _ _ _ 40 _ (.int (pOfSample (g) (k0) (k1)) :: _) _ _ _ _
      refine r_goto (tgt := 44) dX9_sampleOf_40 (by decide) ?_
      exact fR_iret dX9_sampleOf_44 rfl (rPost_of (t := 0) (kp := kp) (by unfold oSampleOf; (first | simp only [ck0, ck1, ck2] | simp only [ck0, ck1] | simp only [ck0, ck2] | simp only [ck1, ck2] | simp only [ck0] | simp only [ck1] | simp only [ck2] | skip); (repeat (first | rw [if_pos (by first | assumption | exact Int32.not_le.mp (by assumption) | exact Int32.not_lt.mp (by assumption) | omega)] | rw [if_neg (by first | assumption | exact Int32.not_lt.mpr (by assumption) | exact Int32.not_le.mpr (by assumption) | exact bne_of (by assumption) | exact not_not_intro (by assumption) | omega)])); first | done | rfl))
    · skip
      refine r_iconst (v := nI 2) dX9_sampleOf_23 (by decide) ?_
      refine r_goto (tgt := 28) dX9_sampleOf_24 (by decide) ?_
      refine r_callV (As := [.int (nI (2))]) dX9_sampleOf_28 (tX9_holds_f hD (by omega) (by omega)) rfl RM_0 rfl rfl oX9_holds rfl kX9_94M nX9_holds eX9_holds (by unfold fRoom; decide) (Nat.le_of_ble_eq_true rfl) rfl (bc' := 0) (bs' := 0) rfl rfl ?_
      show fR _ _ _ 31 _ (.int (bI (false)) :: _) _ _ _ _
      refine r_if_eqB (tgt := 43) dX9_sampleOf_31 (by decide) (fun c4 => ?_) (fun c4 => absurd c4 (by decide))
      refine r_iconst (v := nI 0) dX9_sampleOf_43 (by decide) ?_
      exact fR_iret dX9_sampleOf_44 rfl (rPost_of (t := 2) (kp := kp) (by unfold oSampleOf; (first | simp only [ck0, ck1, ck2] | simp only [ck0, ck1] | simp only [ck0, ck2] | simp only [ck1, ck2] | simp only [ck0] | simp only [ck1] | simp only [ck2] | skip); (repeat (first | rw [if_pos (by first | assumption | exact Int32.not_le.mp (by assumption) | exact Int32.not_lt.mp (by assumption) | omega)] | rw [if_neg (by first | assumption | exact Int32.not_lt.mpr (by assumption) | exact Int32.not_le.mpr (by assumption) | exact bne_of (by assumption) | exact not_not_intro (by assumption) | omega)])); first | done | rfl))
  · skip
    refine r_iconst (v := nI 1) dX9_sampleOf_9 (by decide) ?_
    refine r_goto (tgt := 28) dX9_sampleOf_10 (by decide) ?_
    refine r_callV (As := [.int (nI (1))]) dX9_sampleOf_28 (tX9_holds_f hD (by omega) (by omega)) rfl RM_0 rfl rfl oX9_holds rfl kX9_94M nX9_holds eX9_holds (by unfold fRoom; decide) (Nat.le_of_ble_eq_true rfl) rfl (bc' := 0) (bs' := 0) rfl rfl ?_
    show fR _ _ _ 31 _ (.int (bI (false)) :: _) _ _ _ _
    refine r_if_eqB (tgt := 43) dX9_sampleOf_31 (by decide) (fun c5 => ?_) (fun c5 => absurd c5 (by decide))
    refine r_iconst (v := nI 0) dX9_sampleOf_43 (by decide) ?_
    exact fR_iret dX9_sampleOf_44 rfl (rPost_of (t := 1) (kp := kp) (by unfold oSampleOf; (first | simp only [ck0, ck1, ck2] | simp only [ck0, ck1] | simp only [ck0, ck2] | simp only [ck1, ck2] | simp only [ck0] | simp only [ck1] | simp only [ck2] | skip); (repeat (first | rw [if_pos (by first | assumption | exact Int32.not_le.mp (by assumption) | exact Int32.not_lt.mp (by assumption) | omega)] | rw [if_neg (by first | assumption | exact Int32.not_lt.mpr (by assumption) | exact Int32.not_le.mpr (by assumption) | exact bne_of (by assumption) | exact not_not_intro (by assumption) | omega)])); first | done | rfl))
def oNeedle (z : Zs) (dn n : Nat) (p0 : Int32) (p1 : Int32) : Oc := if pNo p0 3 = true then (if pIn p1 (nI 0) (nI 2) = true then (0, z.1 (31 + 3 * cN p0 + cN p1), z) else (2, 0, z)) else (1, 0, z)
theorem tX9_needle_o {l : Launch} {κ : KP} {M : Mem} {m sA tA nA : Nat} {th ap pt : Int32} {hs : Int64} {g tx nu : Nat → Int32} {kp : Bool} {sn ln dn n : Nat} (hD : rDis m sA tA nA) (hI : BI g dn n) (hsn : sn ≤ 6) (hln : ln ≤ 60)  {p0 : Int32} {p1 : Int32} : fM l κ mX9_needle [.ref (m), .int (p0), .int (p1)] (RM M m sA tA nA (th) (nI (sn)) (bI (kp)) (nI (ln)) (ap) (pt) (hs) (g) (tx) (nu)) (rPost M m sA tA nA (oNeedle ⟨g, sn, kp, tx, ln⟩ dn n p0 p1)) := by
  refine fM_of rfl (by decide +kernel) (Nat.le_of_ble_eq_true rfl) ?_
  have hn := hI.nle
  have hg := hI.n0
  have hdn := hI.dle
  have hg0 := hI.d0
  have hM := hI.mM
  have hB := hI.mB
  have h1 := hI.m1
  have hs0 := hI.s0
  show fR l κ mX9_needle 0 [(0, .ref (m)), (1, .int (p0)), (2, .int (p1))] [] (RM M m sA tA nA (th) (nI (sn)) (bI (kp)) (nI (ln)) (ap) (pt) (hs) (g) (tx) (nu)) 0 0 _
  refine r_aload_n dX9_needle_0 rfl ?_
  refine r_iload_n dX9_needle_1 rfl ?_
  refine r_callS (As := [.int (p0)]) dX9_needle_2 tX9_isOne2 rfl oX9_isOne rfl kX9_107M sX9_isOne (by unfold fRoom; decide) (Nat.le_of_ble_eq_true rfl) rfl (bc' := 0) (bs' := 0) rfl rfl ?_
  show fR _ _ _ 5 _ (.int (bI (pNo (p0) 3)) :: _) _ _ _ _
  refine r_if_neB (tgt := 12) dX9_needle_5 (by decide) (fun c1 => ?_) (fun c1 => ?_)
  · skip
    obtain ⟨k0, hk0, ek0⟩ := pNo_t c1 (by omega)
    subst ek0
    have ck0 : cN (nI k0) = k0 := nI_clamp (by omega)
    refine r_iload_n dX9_needle_12 rfl ?_
    refine r_iconst (v := nI 0) dX9_needle_13 (by decide) ?_
    refine r_iconst (v := nI 2) dX9_needle_14 (by decide) ?_
    refine r_callS (As := [.int (p1), .int (nI (0)), .int (nI (2))]) dX9_needle_15 tX9_in rfl oX9_in rfl kX9_23M sX9_in (by unfold fRoom; decide) (Nat.le_of_ble_eq_true rfl) rfl (bc' := 0) (bs' := 0) rfl rfl ?_
    show fR _ _ _ 18 _ (.int (bI (pIn (p1) (nI (0)) (nI (2)))) :: _) _ _ _ _
    refine r_if_neB (tgt := 25) dX9_needle_18 (by decide) (fun c2 => ?_) (fun c2 => ?_)
    · skip
      obtain ⟨k1, hk1, ek1⟩ := pIn_nat2 (by omega) c2
      subst ek1
      have ck1 : cN (nI k1) = k1 := nI_clamp (by omega)
      refine r_iconst (v := nI 0) dX9_needle_25 (by decide) ?_
      refine r_callV (As := [.int (nI (0))]) dX9_needle_26 (tX9_holds_t hD) rfl RM_0 rfl rfl oX9_holds rfl kX9_94M nX9_holds eX9_holds (by unfold fRoom; decide) (Nat.le_of_ble_eq_true rfl) rfl (bc' := 0) (bs' := 0) rfl rfl ?_
      show fR _ _ _ 29 _ (.int (bI (true)) :: _) _ _ _ _
      refine r_if_eqB (tgt := 41) dX9_needle_29 (by decide) (fun c3 => absurd c3 (by decide)) (fun c3 => ?_)
      refine r_aload_n dX9_needle_32 rfl ?_
      refine r_iload_n dX9_needle_33 rfl ?_
      refine r_iload_n dX9_needle_34 rfl ?_
      refine r_callV (As := [.int (nI (k0)), .int (nI (k1))]) dX9_needle_35 (tX9_needleAt hD (by omega)) rfl RM_0 rfl rfl oX9_needleAt rfl kX9_48M nX9_needleAt eX9_needleAt (by unfold fRoom; decide) (Nat.le_of_ble_eq_true rfl) rfl (bc' := 0) (bs' := 0) rfl rfl ?_
      show fR _ _ _ 38 _ (.int ((g) (31 + 3 * k0 + k1)) :: _) _ _ _ _
      refine r_goto (tgt := 42) dX9_needle_38 (by decide) ?_
      exact fR_iret dX9_needle_42 rfl (rPost_of (t := 0) (kp := kp) (by unfold oNeedle; (first | simp only [ck0, ck1, ck2] | simp only [ck0, ck1] | simp only [ck0, ck2] | simp only [ck1, ck2] | simp only [ck0] | simp only [ck1] | simp only [ck2] | skip); (repeat (first | rw [if_pos (by first | assumption | exact Int32.not_le.mp (by assumption) | exact Int32.not_lt.mp (by assumption) | omega)] | rw [if_neg (by first | assumption | exact Int32.not_lt.mpr (by assumption) | exact Int32.not_le.mpr (by assumption) | exact bne_of (by assumption) | exact not_not_intro (by assumption) | omega)])); first | done | rfl))
    · skip
      refine r_iconst (v := nI 2) dX9_needle_21 (by decide) ?_
      refine r_goto (tgt := 26) dX9_needle_22 (by decide) ?_
      refine r_callV (As := [.int (nI (2))]) dX9_needle_26 (tX9_holds_f hD (by omega) (by omega)) rfl RM_0 rfl rfl oX9_holds rfl kX9_94M nX9_holds eX9_holds (by unfold fRoom; decide) (Nat.le_of_ble_eq_true rfl) rfl (bc' := 0) (bs' := 0) rfl rfl ?_
      show fR _ _ _ 29 _ (.int (bI (false)) :: _) _ _ _ _
      refine r_if_eqB (tgt := 41) dX9_needle_29 (by decide) (fun c4 => ?_) (fun c4 => absurd c4 (by decide))
      refine r_iconst (v := nI 0) dX9_needle_41 (by decide) ?_
      exact fR_iret dX9_needle_42 rfl (rPost_of (t := 2) (kp := kp) (by unfold oNeedle; (first | simp only [ck0, ck1, ck2] | simp only [ck0, ck1] | simp only [ck0, ck2] | simp only [ck1, ck2] | simp only [ck0] | simp only [ck1] | simp only [ck2] | skip); (repeat (first | rw [if_pos (by first | assumption | exact Int32.not_le.mp (by assumption) | exact Int32.not_lt.mp (by assumption) | omega)] | rw [if_neg (by first | assumption | exact Int32.not_lt.mpr (by assumption) | exact Int32.not_le.mpr (by assumption) | exact bne_of (by assumption) | exact not_not_intro (by assumption) | omega)])); first | done | rfl))
  · skip
    refine r_iconst (v := nI 1) dX9_needle_8 (by decide) ?_
    refine r_goto (tgt := 26) dX9_needle_9 (by decide) ?_
    refine r_callV (As := [.int (nI (1))]) dX9_needle_26 (tX9_holds_f hD (by omega) (by omega)) rfl RM_0 rfl rfl oX9_holds rfl kX9_94M nX9_holds eX9_holds (by unfold fRoom; decide) (Nat.le_of_ble_eq_true rfl) rfl (bc' := 0) (bs' := 0) rfl rfl ?_
    show fR _ _ _ 29 _ (.int (bI (false)) :: _) _ _ _ _
    refine r_if_eqB (tgt := 41) dX9_needle_29 (by decide) (fun c5 => ?_) (fun c5 => absurd c5 (by decide))
    refine r_iconst (v := nI 0) dX9_needle_41 (by decide) ?_
    exact fR_iret dX9_needle_42 rfl (rPost_of (t := 1) (kp := kp) (by unfold oNeedle; (first | simp only [ck0, ck1, ck2] | simp only [ck0, ck1] | simp only [ck0, ck2] | simp only [ck1, ck2] | simp only [ck0] | simp only [ck1] | simp only [ck2] | skip); (repeat (first | rw [if_pos (by first | assumption | exact Int32.not_le.mp (by assumption) | exact Int32.not_lt.mp (by assumption) | omega)] | rw [if_neg (by first | assumption | exact Int32.not_lt.mpr (by assumption) | exact Int32.not_le.mpr (by assumption) | exact bne_of (by assumption) | exact not_not_intro (by assumption) | omega)])); first | done | rfl))
def oBathOf (z : Zs) (dn n : Nat) (p0 : Int32) (p1 : Int32) : Oc := if pNo p0 3 = true then (if pIn p1 (nI 0) (nI 2) = true then (0, pOfBath z.1 n (cN p0) (cN p1), z) else (2, 0, z)) else (1, 0, z)
theorem tX9_bathOf_o {l : Launch} {κ : KP} {M : Mem} {m sA tA nA : Nat} {th ap pt : Int32} {hs : Int64} {g tx nu : Nat → Int32} {kp : Bool} {sn ln dn n : Nat} (hD : rDis m sA tA nA) (hI : BI g dn n) (hsn : sn ≤ 6) (hln : ln ≤ 60)  {p0 : Int32} {p1 : Int32} : fM l κ mX9_bathOf [.ref (m), .int (p0), .int (p1)] (RM M m sA tA nA (th) (nI (sn)) (bI (kp)) (nI (ln)) (ap) (pt) (hs) (g) (tx) (nu)) (rPost M m sA tA nA (oBathOf ⟨g, sn, kp, tx, ln⟩ dn n p0 p1)) := by
  refine fM_of rfl (by decide +kernel) (Nat.le_of_ble_eq_true rfl) ?_
  have hn := hI.nle
  have hg := hI.n0
  have hdn := hI.dle
  have hg0 := hI.d0
  have hM := hI.mM
  have hB := hI.mB
  have h1 := hI.m1
  have hs0 := hI.s0
  show fR l κ mX9_bathOf 0 [(0, .ref (m)), (1, .int (p0)), (2, .int (p1))] [] (RM M m sA tA nA (th) (nI (sn)) (bI (kp)) (nI (ln)) (ap) (pt) (hs) (g) (tx) (nu)) 0 0 _
  refine r_aload_n dX9_bathOf_0 rfl ?_
  refine r_iload_n dX9_bathOf_1 rfl ?_
  refine r_callS (As := [.int (p0)]) dX9_bathOf_2 tX9_isOne2 rfl oX9_isOne rfl kX9_107M sX9_isOne (by unfold fRoom; decide) (Nat.le_of_ble_eq_true rfl) rfl (bc' := 0) (bs' := 0) rfl rfl ?_
  show fR _ _ _ 5 _ (.int (bI (pNo (p0) 3)) :: _) _ _ _ _
  refine r_if_neB (tgt := 12) dX9_bathOf_5 (by decide) (fun c1 => ?_) (fun c1 => ?_)
  · skip
    obtain ⟨k0, hk0, ek0⟩ := pNo_t c1 (by omega)
    subst ek0
    have ck0 : cN (nI k0) = k0 := nI_clamp (by omega)
    refine r_iload_n dX9_bathOf_12 rfl ?_
    refine r_iconst (v := nI 0) dX9_bathOf_13 (by decide) ?_
    refine r_iconst (v := nI 2) dX9_bathOf_14 (by decide) ?_
    refine r_callS (As := [.int (p1), .int (nI (0)), .int (nI (2))]) dX9_bathOf_15 tX9_in rfl oX9_in rfl kX9_23M sX9_in (by unfold fRoom; decide) (Nat.le_of_ble_eq_true rfl) rfl (bc' := 0) (bs' := 0) rfl rfl ?_
    show fR _ _ _ 18 _ (.int (bI (pIn (p1) (nI (0)) (nI (2)))) :: _) _ _ _ _
    refine r_if_neB (tgt := 25) dX9_bathOf_18 (by decide) (fun c2 => ?_) (fun c2 => ?_)
    · skip
      obtain ⟨k1, hk1, ek1⟩ := pIn_nat2 (by omega) c2
      subst ek1
      have ck1 : cN (nI k1) = k1 := nI_clamp (by omega)
      refine r_iconst (v := nI 0) dX9_bathOf_25 (by decide) ?_
      refine r_callV (As := [.int (nI (0))]) dX9_bathOf_26 (tX9_holds_t hD) rfl RM_0 rfl rfl oX9_holds rfl kX9_94M nX9_holds eX9_holds (by unfold fRoom; decide) (Nat.le_of_ble_eq_true rfl) rfl (bc' := 0) (bs' := 0) rfl rfl ?_
      show fR _ _ _ 29 _ (.int (bI (true)) :: _) _ _ _ _
      refine r_if_eqB (tgt := 41) dX9_bathOf_29 (by decide) (fun c3 => absurd c3 (by decide)) (fun c3 => ?_)
      refine r_aload_n dX9_bathOf_32 rfl ?_
      refine r_iload_n dX9_bathOf_33 rfl ?_
      refine r_iload_n dX9_bathOf_34 rfl ?_
      refine r_callV (As := [.int (nI (k0)), .int (nI (k1))]) dX9_bathOf_35 (tX9_ofBath hD hn hg (by omega) (by omega)) rfl RM_0 rfl rfl oX9_ofBath rfl kX9_189M nX9_ofBath eX9_ofBath (by unfold fRoom; decide) (Nat.le_of_ble_eq_true rfl) rfl (bc' := 0) (bs' := 0) rfl rfl ?_
      show fR _ _ _ 38 _ (.int (pOfBath (g) n (k0) (k1)) :: _) _ _ _ _
      refine r_goto (tgt := 42) dX9_bathOf_38 (by decide) ?_
      exact fR_iret dX9_bathOf_42 rfl (rPost_of (t := 0) (kp := kp) (by unfold oBathOf; (first | simp only [ck0, ck1, ck2] | simp only [ck0, ck1] | simp only [ck0, ck2] | simp only [ck1, ck2] | simp only [ck0] | simp only [ck1] | simp only [ck2] | skip); (repeat (first | rw [if_pos (by first | assumption | exact Int32.not_le.mp (by assumption) | exact Int32.not_lt.mp (by assumption) | omega)] | rw [if_neg (by first | assumption | exact Int32.not_lt.mpr (by assumption) | exact Int32.not_le.mpr (by assumption) | exact bne_of (by assumption) | exact not_not_intro (by assumption) | omega)])); first | done | rfl))
    · skip
      refine r_iconst (v := nI 2) dX9_bathOf_21 (by decide) ?_
      refine r_goto (tgt := 26) dX9_bathOf_22 (by decide) ?_
      refine r_callV (As := [.int (nI (2))]) dX9_bathOf_26 (tX9_holds_f hD (by omega) (by omega)) rfl RM_0 rfl rfl oX9_holds rfl kX9_94M nX9_holds eX9_holds (by unfold fRoom; decide) (Nat.le_of_ble_eq_true rfl) rfl (bc' := 0) (bs' := 0) rfl rfl ?_
      show fR _ _ _ 29 _ (.int (bI (false)) :: _) _ _ _ _
      refine r_if_eqB (tgt := 41) dX9_bathOf_29 (by decide) (fun c4 => ?_) (fun c4 => absurd c4 (by decide))
      refine r_iconst (v := nI 0) dX9_bathOf_41 (by decide) ?_
      exact fR_iret dX9_bathOf_42 rfl (rPost_of (t := 2) (kp := kp) (by unfold oBathOf; (first | simp only [ck0, ck1, ck2] | simp only [ck0, ck1] | simp only [ck0, ck2] | simp only [ck1, ck2] | simp only [ck0] | simp only [ck1] | simp only [ck2] | skip); (repeat (first | rw [if_pos (by first | assumption | exact Int32.not_le.mp (by assumption) | exact Int32.not_lt.mp (by assumption) | omega)] | rw [if_neg (by first | assumption | exact Int32.not_lt.mpr (by assumption) | exact Int32.not_le.mpr (by assumption) | exact bne_of (by assumption) | exact not_not_intro (by assumption) | omega)])); first | done | rfl))
  · skip
    refine r_iconst (v := nI 1) dX9_bathOf_8 (by decide) ?_
    refine r_goto (tgt := 26) dX9_bathOf_9 (by decide) ?_
    refine r_callV (As := [.int (nI (1))]) dX9_bathOf_26 (tX9_holds_f hD (by omega) (by omega)) rfl RM_0 rfl rfl oX9_holds rfl kX9_94M nX9_holds eX9_holds (by unfold fRoom; decide) (Nat.le_of_ble_eq_true rfl) rfl (bc' := 0) (bs' := 0) rfl rfl ?_
    show fR _ _ _ 29 _ (.int (bI (false)) :: _) _ _ _ _
    refine r_if_eqB (tgt := 41) dX9_bathOf_29 (by decide) (fun c5 => ?_) (fun c5 => absurd c5 (by decide))
    refine r_iconst (v := nI 0) dX9_bathOf_41 (by decide) ?_
    exact fR_iret dX9_bathOf_42 rfl (rPost_of (t := 1) (kp := kp) (by unfold oBathOf; (first | simp only [ck0, ck1, ck2] | simp only [ck0, ck1] | simp only [ck0, ck2] | simp only [ck1, ck2] | simp only [ck0] | simp only [ck1] | simp only [ck2] | skip); (repeat (first | rw [if_pos (by first | assumption | exact Int32.not_le.mp (by assumption) | exact Int32.not_lt.mp (by assumption) | omega)] | rw [if_neg (by first | assumption | exact Int32.not_lt.mpr (by assumption) | exact Int32.not_le.mpr (by assumption) | exact bne_of (by assumption) | exact not_not_intro (by assumption) | omega)])); first | done | rfl))
def oCount (z : Zs) (dn n : Nat) (p0 : Int32) : Oc := if pIn p0 (nI 0) (nI 11) = true then (0, pCounted z.1 (nI z.2.1) n dn (cN p0), z) else (1, 0, z)
theorem tX9_count_o {l : Launch} {κ : KP} {M : Mem} {m sA tA nA : Nat} {th ap pt : Int32} {hs : Int64} {g tx nu : Nat → Int32} {kp : Bool} {sn ln dn n : Nat} (hD : rDis m sA tA nA) (hI : BI g dn n) (hsn : sn ≤ 6) (hln : ln ≤ 60)  {p0 : Int32} : fM l κ mX9_count [.ref (m), .int (p0)] (RM M m sA tA nA (th) (nI (sn)) (bI (kp)) (nI (ln)) (ap) (pt) (hs) (g) (tx) (nu)) (rPost M m sA tA nA (oCount ⟨g, sn, kp, tx, ln⟩ dn n p0)) := by
  refine fM_of rfl (by decide +kernel) (Nat.le_of_ble_eq_true rfl) ?_
  have hn := hI.nle
  have hg := hI.n0
  have hdn := hI.dle
  have hg0 := hI.d0
  have hM := hI.mM
  have hB := hI.mB
  have h1 := hI.m1
  have hs0 := hI.s0
  show fR l κ mX9_count 0 [(0, .ref (m)), (1, .int (p0))] [] (RM M m sA tA nA (th) (nI (sn)) (bI (kp)) (nI (ln)) (ap) (pt) (hs) (g) (tx) (nu)) 0 0 _
  refine r_aload_n dX9_count_0 rfl ?_
  refine r_iload_n dX9_count_1 rfl ?_
  refine r_iconst (v := nI 0) dX9_count_2 (by decide) ?_
  refine r_bipush (v := nI 11) dX9_count_3 (by decide) ?_
  refine r_callS (As := [.int (p0), .int (nI (0)), .int (nI (11))]) dX9_count_5 tX9_in rfl oX9_in rfl kX9_23M sX9_in (by unfold fRoom; decide) (Nat.le_of_ble_eq_true rfl) rfl (bc' := 0) (bs' := 0) rfl rfl ?_
  show fR _ _ _ 8 _ (.int (bI (pIn (p0) (nI (0)) (nI (11)))) :: _) _ _ _ _
  refine r_if_eqB (tgt := 15) dX9_count_8 (by decide) (fun c1 => ?_) (fun c1 => ?_)
  · skip
    refine r_iconst (v := nI 1) dX9_count_15 (by decide) ?_
    refine r_callV (As := [.int (nI (1))]) dX9_count_16 (tX9_holds_f hD (by omega) (by omega)) rfl RM_0 rfl rfl oX9_holds rfl kX9_94M nX9_holds eX9_holds (by unfold fRoom; decide) (Nat.le_of_ble_eq_true rfl) rfl (bc' := 0) (bs' := 0) rfl rfl ?_
    show fR _ _ _ 19 _ (.int (bI (false)) :: _) _ _ _ _
    refine r_if_eqB (tgt := 30) dX9_count_19 (by decide) (fun c2 => ?_) (fun c2 => absurd c2 (by decide))
    refine r_iconst (v := nI 0) dX9_count_30 (by decide) ?_
    exact fR_iret dX9_count_31 rfl (rPost_of (t := 1) (kp := kp) (by unfold oCount; (first | simp only [ck0, ck1, ck2] | simp only [ck0, ck1] | simp only [ck0, ck2] | simp only [ck1, ck2] | simp only [ck0] | simp only [ck1] | simp only [ck2] | skip); (repeat (first | rw [if_pos (by first | assumption | exact Int32.not_le.mp (by assumption) | exact Int32.not_lt.mp (by assumption) | omega)] | rw [if_neg (by first | assumption | exact Int32.not_lt.mpr (by assumption) | exact Int32.not_le.mpr (by assumption) | exact bne_of (by assumption) | exact not_not_intro (by assumption) | omega)])); first | done | rfl))
  · skip
    obtain ⟨k0, hk0, ek0⟩ := pIn_nat2 (by omega) c1
    subst ek0
    have ck0 : cN (nI k0) = k0 := nI_clamp (by omega)
    refine r_iconst (v := nI 0) dX9_count_11 (by decide) ?_
    refine r_goto (tgt := 16) dX9_count_12 (by decide) ?_
    refine r_callV (As := [.int (nI (0))]) dX9_count_16 (tX9_holds_t hD) rfl RM_0 rfl rfl oX9_holds rfl kX9_94M nX9_holds eX9_holds (by unfold fRoom; decide) (Nat.le_of_ble_eq_true rfl) rfl (bc' := 0) (bs' := 0) rfl rfl ?_
    show fR _ _ _ 19 _ (.int (bI (true)) :: _) _ _ _ _
    refine r_if_eqB (tgt := 30) dX9_count_19 (by decide) (fun c3 => absurd c3 (by decide)) (fun c3 => ?_)
    refine r_aload_n dX9_count_22 rfl ?_
    refine r_iload_n dX9_count_23 rfl ?_
    refine r_callV (As := [.int (nI (k0))]) dX9_count_24 (tX9_counted hD hn hg hM hdn hg0 (by omega)) rfl RM_0 rfl rfl oX9_counted rfl kX9_198M nX9_counted eX9_counted (by unfold fRoom; decide) (Nat.le_of_ble_eq_true rfl) rfl (bc' := 0) (bs' := 0) rfl rfl ?_
    show fR _ _ _ 27 _ (.int (pCounted (g) (nI sn) n dn (k0)) :: _) _ _ _ _
    refine r_goto (tgt := 31) dX9_count_27 (by decide) ?_
    exact fR_iret dX9_count_31 rfl (rPost_of (t := 0) (kp := kp) (by unfold oCount; (first | simp only [ck0, ck1, ck2] | simp only [ck0, ck1] | simp only [ck0, ck2] | simp only [ck1, ck2] | simp only [ck0] | simp only [ck1] | simp only [ck2] | skip); (repeat (first | rw [if_pos (by first | assumption | exact Int32.not_le.mp (by assumption) | exact Int32.not_lt.mp (by assumption) | omega)] | rw [if_neg (by first | assumption | exact Int32.not_lt.mpr (by assumption) | exact Int32.not_le.mpr (by assumption) | exact bne_of (by assumption) | exact not_not_intro (by assumption) | omega)])); first | done | rfl))
def oStopped (z : Zs) (dn n : Nat) (p0 : Int32) : Oc := if pIn p0 (nI 0) (nI 1) = true then (0, z.1 (8 + cN p0), z) else (1, 0, z)
theorem tX9_stopped_o {l : Launch} {κ : KP} {M : Mem} {m sA tA nA : Nat} {th ap pt : Int32} {hs : Int64} {g tx nu : Nat → Int32} {kp : Bool} {sn ln dn n : Nat} (hD : rDis m sA tA nA) (hI : BI g dn n) (hsn : sn ≤ 6) (hln : ln ≤ 60)  {p0 : Int32} : fM l κ mX9_stopped [.ref (m), .int (p0)] (RM M m sA tA nA (th) (nI (sn)) (bI (kp)) (nI (ln)) (ap) (pt) (hs) (g) (tx) (nu)) (rPost M m sA tA nA (oStopped ⟨g, sn, kp, tx, ln⟩ dn n p0)) := by
  refine fM_of rfl (by decide +kernel) (Nat.le_of_ble_eq_true rfl) ?_
  have hn := hI.nle
  have hg := hI.n0
  have hdn := hI.dle
  have hg0 := hI.d0
  have hM := hI.mM
  have hB := hI.mB
  have h1 := hI.m1
  have hs0 := hI.s0
  show fR l κ mX9_stopped 0 [(0, .ref (m)), (1, .int (p0))] [] (RM M m sA tA nA (th) (nI (sn)) (bI (kp)) (nI (ln)) (ap) (pt) (hs) (g) (tx) (nu)) 0 0 _
  refine r_aload_n dX9_stopped_0 rfl ?_
  refine r_iload_n dX9_stopped_1 rfl ?_
  refine r_iconst (v := nI 0) dX9_stopped_2 (by decide) ?_
  refine r_iconst (v := nI 1) dX9_stopped_3 (by decide) ?_
  refine r_callS (As := [.int (p0), .int (nI (0)), .int (nI (1))]) dX9_stopped_4 tX9_in rfl oX9_in rfl kX9_23M sX9_in (by unfold fRoom; decide) (Nat.le_of_ble_eq_true rfl) rfl (bc' := 0) (bs' := 0) rfl rfl ?_
  show fR _ _ _ 7 _ (.int (bI (pIn (p0) (nI (0)) (nI (1)))) :: _) _ _ _ _
  refine r_if_eqB (tgt := 14) dX9_stopped_7 (by decide) (fun c1 => ?_) (fun c1 => ?_)
  · skip
    refine r_iconst (v := nI 1) dX9_stopped_14 (by decide) ?_
    refine r_callV (As := [.int (nI (1))]) dX9_stopped_15 (tX9_holds_f hD (by omega) (by omega)) rfl RM_0 rfl rfl oX9_holds rfl kX9_94M nX9_holds eX9_holds (by unfold fRoom; decide) (Nat.le_of_ble_eq_true rfl) rfl (bc' := 0) (bs' := 0) rfl rfl ?_
    show fR _ _ _ 18 _ (.int (bI (false)) :: _) _ _ _ _
    refine r_if_eqB (tgt := 33) dX9_stopped_18 (by decide) (fun c2 => ?_) (fun c2 => absurd c2 (by decide))
    refine r_iconst (v := nI 0) dX9_stopped_33 (by decide) ?_
    exact fR_iret dX9_stopped_34 rfl (rPost_of (t := 1) (kp := kp) (by unfold oStopped; (first | simp only [ck0, ck1, ck2] | simp only [ck0, ck1] | simp only [ck0, ck2] | simp only [ck1, ck2] | simp only [ck0] | simp only [ck1] | simp only [ck2] | skip); (repeat (first | rw [if_pos (by first | assumption | exact Int32.not_le.mp (by assumption) | exact Int32.not_lt.mp (by assumption) | omega)] | rw [if_neg (by first | assumption | exact Int32.not_lt.mpr (by assumption) | exact Int32.not_le.mpr (by assumption) | exact bne_of (by assumption) | exact not_not_intro (by assumption) | omega)])); first | done | rfl))
  · skip
    obtain ⟨k0, hk0, ek0⟩ := pIn_nat2 (by omega) c1
    subst ek0
    have ck0 : cN (nI k0) = k0 := nI_clamp (by omega)
    refine r_iconst (v := nI 0) dX9_stopped_10 (by decide) ?_
    refine r_goto (tgt := 15) dX9_stopped_11 (by decide) ?_
    refine r_callV (As := [.int (nI (0))]) dX9_stopped_15 (tX9_holds_t hD) rfl RM_0 rfl rfl oX9_holds rfl kX9_94M nX9_holds eX9_holds (by unfold fRoom; decide) (Nat.le_of_ble_eq_true rfl) rfl (bc' := 0) (bs' := 0) rfl rfl ?_
    show fR _ _ _ 18 _ (.int (bI (true)) :: _) _ _ _ _
    refine r_if_eqB (tgt := 33) dX9_stopped_18 (by decide) (fun c3 => absurd c3 (by decide)) (fun c3 => ?_)
    refine r_aload_n dX9_stopped_21 rfl ?_
    refine r_get (k := 1) dX9_stopped_22 RM_0 rfl rfl (by decide) kX9_7F ?_
    refine r_bipush (v := nI 8) dX9_stopped_25 (by decide) ?_
    refine r_iload_n dX9_stopped_27 rfl ?_
    refine r_iaddN dX9_stopped_28 ?_
    refine r_ialdN dX9_stopped_29 (RM_1 hD) (by omega) (by decide) rfl ?_
    refine r_goto (tgt := 34) dX9_stopped_30 (by decide) ?_
    exact fR_iret dX9_stopped_34 rfl (rPost_of (t := 0) (kp := kp) (by unfold oStopped; (first | simp only [ck0, ck1, ck2] | simp only [ck0, ck1] | simp only [ck0, ck2] | simp only [ck1, ck2] | simp only [ck0] | simp only [ck1] | simp only [ck2] | skip); (repeat (first | rw [if_pos (by first | assumption | exact Int32.not_le.mp (by assumption) | exact Int32.not_lt.mp (by assumption) | omega)] | rw [if_neg (by first | assumption | exact Int32.not_lt.mpr (by assumption) | exact Int32.not_le.mpr (by assumption) | exact bne_of (by assumption) | exact not_not_intro (by assumption) | omega)])); first | done | rfl))
def oNoSink (z : Zs) (dn n : Nat) (p0 : Int32) (p1 : Int32) : Oc := if pNo p0 3 = true then (if pNo p1 n = true then (0, pWhyNot z.1 (cN p0) (cN p1), z) else (1, 0, z)) else (1, 0, z)
theorem tX9_noSink_o {l : Launch} {κ : KP} {M : Mem} {m sA tA nA : Nat} {th ap pt : Int32} {hs : Int64} {g tx nu : Nat → Int32} {kp : Bool} {sn ln dn n : Nat} (hD : rDis m sA tA nA) (hI : BI g dn n) (hsn : sn ≤ 6) (hln : ln ≤ 60)  {p0 : Int32} {p1 : Int32} : fM l κ mX9_noSink [.ref (m), .int (p0), .int (p1)] (RM M m sA tA nA (th) (nI (sn)) (bI (kp)) (nI (ln)) (ap) (pt) (hs) (g) (tx) (nu)) (rPost M m sA tA nA (oNoSink ⟨g, sn, kp, tx, ln⟩ dn n p0 p1)) := by
  refine fM_of rfl (by decide +kernel) (Nat.le_of_ble_eq_true rfl) ?_
  have hn := hI.nle
  have hg := hI.n0
  have hdn := hI.dle
  have hg0 := hI.d0
  have hM := hI.mM
  have hB := hI.mB
  have h1 := hI.m1
  have hs0 := hI.s0
  show fR l κ mX9_noSink 0 [(0, .ref (m)), (1, .int (p0)), (2, .int (p1))] [] (RM M m sA tA nA (th) (nI (sn)) (bI (kp)) (nI (ln)) (ap) (pt) (hs) (g) (tx) (nu)) 0 0 _
  refine r_aload_n dX9_noSink_0 rfl ?_
  refine r_iload_n dX9_noSink_1 rfl ?_
  refine r_callS (As := [.int (p0)]) dX9_noSink_2 tX9_isOne2 rfl oX9_isOne rfl kX9_107M sX9_isOne (by unfold fRoom; decide) (Nat.le_of_ble_eq_true rfl) rfl (bc' := 0) (bs' := 0) rfl rfl ?_
  show fR _ _ _ 5 _ (.int (bI (pNo (p0) 3)) :: _) _ _ _ _
  refine r_if_eqB (tgt := 20) dX9_noSink_5 (by decide) (fun c1 => ?_) (fun c1 => ?_)
  · skip
    refine r_iconst (v := nI 1) dX9_noSink_20 (by decide) ?_
    refine r_callV (As := [.int (nI (1))]) dX9_noSink_21 (tX9_holds_f hD (by omega) (by omega)) rfl RM_0 rfl rfl oX9_holds rfl kX9_94M nX9_holds eX9_holds (by unfold fRoom; decide) (Nat.le_of_ble_eq_true rfl) rfl (bc' := 0) (bs' := 0) rfl rfl ?_
    show fR _ _ _ 24 _ (.int (bI (false)) :: _) _ _ _ _
    refine r_if_eqB (tgt := 36) dX9_noSink_24 (by decide) (fun c2 => ?_) (fun c2 => absurd c2 (by decide))
    refine r_iconst (v := nI 0) dX9_noSink_36 (by decide) ?_
    exact fR_iret dX9_noSink_37 rfl (rPost_of (t := 1) (kp := kp) (by unfold oNoSink; (first | simp only [ck0, ck1, ck2] | simp only [ck0, ck1] | simp only [ck0, ck2] | simp only [ck1, ck2] | simp only [ck0] | simp only [ck1] | simp only [ck2] | skip); (repeat (first | rw [if_pos (by first | assumption | exact Int32.not_le.mp (by assumption) | exact Int32.not_lt.mp (by assumption) | omega)] | rw [if_neg (by first | assumption | exact Int32.not_lt.mpr (by assumption) | exact Int32.not_le.mpr (by assumption) | exact bne_of (by assumption) | exact not_not_intro (by assumption) | omega)])); first | done | rfl))
  · skip
    obtain ⟨k0, hk0, ek0⟩ := pNo_t c1 (by omega)
    subst ek0
    have ck0 : cN (nI k0) = k0 := nI_clamp (by omega)
    refine r_aload_n dX9_noSink_8 rfl ?_
    refine r_iload_n dX9_noSink_9 rfl ?_
    refine r_callV (As := [.int (p1)]) dX9_noSink_10 (tX9_isSample2 hD hg) rfl RM_0 rfl rfl oX9_isSample rfl kX9_104M nX9_isSample eX9_isSample (by unfold fRoom; decide) (Nat.le_of_ble_eq_true rfl) rfl (bc' := 0) (bs' := 0) rfl rfl ?_
    show fR _ _ _ 13 _ (.int (bI (pNo (p1) n)) :: _) _ _ _ _
    refine r_if_eqB (tgt := 20) dX9_noSink_13 (by decide) (fun c3 => ?_) (fun c3 => ?_)
    · skip
      refine r_iconst (v := nI 1) dX9_noSink_20 (by decide) ?_
      refine r_callV (As := [.int (nI (1))]) dX9_noSink_21 (tX9_holds_f hD (by omega) (by omega)) rfl RM_0 rfl rfl oX9_holds rfl kX9_94M nX9_holds eX9_holds (by unfold fRoom; decide) (Nat.le_of_ble_eq_true rfl) rfl (bc' := 0) (bs' := 0) rfl rfl ?_
      show fR _ _ _ 24 _ (.int (bI (false)) :: _) _ _ _ _
      refine r_if_eqB (tgt := 36) dX9_noSink_24 (by decide) (fun c4 => ?_) (fun c4 => absurd c4 (by decide))
      refine r_iconst (v := nI 0) dX9_noSink_36 (by decide) ?_
      exact fR_iret dX9_noSink_37 rfl (rPost_of (t := 1) (kp := kp) (by unfold oNoSink; (first | simp only [ck0, ck1, ck2] | simp only [ck0, ck1] | simp only [ck0, ck2] | simp only [ck1, ck2] | simp only [ck0] | simp only [ck1] | simp only [ck2] | skip); (repeat (first | rw [if_pos (by first | assumption | exact Int32.not_le.mp (by assumption) | exact Int32.not_lt.mp (by assumption) | omega)] | rw [if_neg (by first | assumption | exact Int32.not_lt.mpr (by assumption) | exact Int32.not_le.mpr (by assumption) | exact bne_of (by assumption) | exact not_not_intro (by assumption) | omega)])); first | done | rfl))
    · skip
      obtain ⟨k1, hk1, ek1⟩ := pNo_t c3 (by omega)
      subst ek1
      have ck1 : cN (nI k1) = k1 := nI_clamp (by omega)
      refine r_iconst (v := nI 0) dX9_noSink_16 (by decide) ?_
      refine r_goto (tgt := 21) dX9_noSink_17 (by decide) ?_
      refine r_callV (As := [.int (nI (0))]) dX9_noSink_21 (tX9_holds_t hD) rfl RM_0 rfl rfl oX9_holds rfl kX9_94M nX9_holds eX9_holds (by unfold fRoom; decide) (Nat.le_of_ble_eq_true rfl) rfl (bc' := 0) (bs' := 0) rfl rfl ?_
      show fR _ _ _ 24 _ (.int (bI (true)) :: _) _ _ _ _
      refine r_if_eqB (tgt := 36) dX9_noSink_24 (by decide) (fun c5 => absurd c5 (by decide)) (fun c5 => ?_)
      refine r_aload_n dX9_noSink_27 rfl ?_
      refine r_iload_n dX9_noSink_28 rfl ?_
      refine r_iload_n dX9_noSink_29 rfl ?_
      refine r_callV (As := [.int (nI (k0)), .int (nI (k1))]) dX9_noSink_30 (tX9_whyNot hD (by omega) (by omega) (hM _ (by omega)).1 (hM _ (by omega)).2 (hB _ (by omega))) rfl RM_0 rfl rfl oX9_whyNot rfl kX9_120M nX9_whyNot eX9_whyNot (by unfold fRoom; decide) (Nat.le_of_ble_eq_true rfl) rfl (bc' := 0) (bs' := 0) rfl rfl ?_
      show fR _ _ _ 33 _ (.int (pWhyNot (g) (k0) (k1)) :: _) _ _ _ _
      refine r_goto (tgt := 37) dX9_noSink_33 (by decide) ?_
      exact fR_iret dX9_noSink_37 rfl (rPost_of (t := 0) (kp := kp) (by unfold oNoSink; (first | simp only [ck0, ck1, ck2] | simp only [ck0, ck1] | simp only [ck0, ck2] | simp only [ck1, ck2] | simp only [ck0] | simp only [ck1] | simp only [ck2] | skip); (repeat (first | rw [if_pos (by first | assumption | exact Int32.not_le.mp (by assumption) | exact Int32.not_lt.mp (by assumption) | omega)] | rw [if_neg (by first | assumption | exact Int32.not_lt.mpr (by assumption) | exact Int32.not_le.mpr (by assumption) | exact bne_of (by assumption) | exact not_not_intro (by assumption) | omega)])); first | done | rfl))
def oNoSale (z : Zs) (dn n : Nat) (p0 : Int32) : Oc := if pNo p0 dn = true then (0, pWhyS z.1 n (cN p0), z) else (1, 0, z)
theorem tX9_noSale_o {l : Launch} {κ : KP} {M : Mem} {m sA tA nA : Nat} {th ap pt : Int32} {hs : Int64} {g tx nu : Nat → Int32} {kp : Bool} {sn ln dn n : Nat} (hD : rDis m sA tA nA) (hI : BI g dn n) (hsn : sn ≤ 6) (hln : ln ≤ 60)  {p0 : Int32} : fM l κ mX9_noSale [.ref (m), .int (p0)] (RM M m sA tA nA (th) (nI (sn)) (bI (kp)) (nI (ln)) (ap) (pt) (hs) (g) (tx) (nu)) (rPost M m sA tA nA (oNoSale ⟨g, sn, kp, tx, ln⟩ dn n p0)) := by
  refine fM_of rfl (by decide +kernel) (Nat.le_of_ble_eq_true rfl) ?_
  have hn := hI.nle
  have hg := hI.n0
  have hdn := hI.dle
  have hg0 := hI.d0
  have hM := hI.mM
  have hB := hI.mB
  have h1 := hI.m1
  have hs0 := hI.s0
  show fR l κ mX9_noSale 0 [(0, .ref (m)), (1, .int (p0))] [] (RM M m sA tA nA (th) (nI (sn)) (bI (kp)) (nI (ln)) (ap) (pt) (hs) (g) (tx) (nu)) 0 0 _
  refine r_aload_n dX9_noSale_0 rfl ?_
  refine r_aload_n dX9_noSale_1 rfl ?_
  refine r_iload_n dX9_noSale_2 rfl ?_
  refine r_callV (As := [.int (p0)]) dX9_noSale_3 (tX9_isDrum2 hD hg0) rfl RM_0 rfl rfl oX9_isDrum rfl kX9_98M nX9_isDrum eX9_isDrum (by unfold fRoom; decide) (Nat.le_of_ble_eq_true rfl) rfl (bc' := 0) (bs' := 0) rfl rfl ?_
  show fR _ _ _ 6 _ (.int (bI (pNo (p0) dn)) :: _) _ _ _ _
  refine r_if_eqB (tgt := 13) dX9_noSale_6 (by decide) (fun c1 => ?_) (fun c1 => ?_)
  · skip
    refine r_iconst (v := nI 1) dX9_noSale_13 (by decide) ?_
    refine r_callV (As := [.int (nI (1))]) dX9_noSale_14 (tX9_holds_f hD (by omega) (by omega)) rfl RM_0 rfl rfl oX9_holds rfl kX9_94M nX9_holds eX9_holds (by unfold fRoom; decide) (Nat.le_of_ble_eq_true rfl) rfl (bc' := 0) (bs' := 0) rfl rfl ?_
    show fR _ _ _ 17 _ (.int (bI (false)) :: _) _ _ _ _
    refine r_if_eqB (tgt := 28) dX9_noSale_17 (by decide) (fun c2 => ?_) (fun c2 => absurd c2 (by decide))
    refine r_iconst (v := nI 0) dX9_noSale_28 (by decide) ?_
    exact fR_iret dX9_noSale_29 rfl (rPost_of (t := 1) (kp := kp) (by unfold oNoSale; (first | simp only [ck0, ck1, ck2] | simp only [ck0, ck1] | simp only [ck0, ck2] | simp only [ck1, ck2] | simp only [ck0] | simp only [ck1] | simp only [ck2] | skip); (repeat (first | rw [if_pos (by first | assumption | exact Int32.not_le.mp (by assumption) | exact Int32.not_lt.mp (by assumption) | omega)] | rw [if_neg (by first | assumption | exact Int32.not_lt.mpr (by assumption) | exact Int32.not_le.mpr (by assumption) | exact bne_of (by assumption) | exact not_not_intro (by assumption) | omega)])); first | done | rfl))
  · skip
    obtain ⟨k0, hk0, ek0⟩ := pNo_t c1 (by omega)
    subst ek0
    have ck0 : cN (nI k0) = k0 := nI_clamp (by omega)
    refine r_iconst (v := nI 0) dX9_noSale_9 (by decide) ?_
    refine r_goto (tgt := 14) dX9_noSale_10 (by decide) ?_
    refine r_callV (As := [.int (nI (0))]) dX9_noSale_14 (tX9_holds_t hD) rfl RM_0 rfl rfl oX9_holds rfl kX9_94M nX9_holds eX9_holds (by unfold fRoom; decide) (Nat.le_of_ble_eq_true rfl) rfl (bc' := 0) (bs' := 0) rfl rfl ?_
    show fR _ _ _ 17 _ (.int (bI (true)) :: _) _ _ _ _
    refine r_if_eqB (tgt := 28) dX9_noSale_17 (by decide) (fun c3 => absurd c3 (by decide)) (fun c3 => ?_)
    refine r_aload_n dX9_noSale_20 rfl ?_
    refine r_iload_n dX9_noSale_21 rfl ?_
    refine r_callV (As := [.int (nI (k0))]) dX9_noSale_22 (tX9_whyNotSold hD hn hg hM (by omega)) rfl RM_0 rfl rfl oX9_whyNotSold rfl kX9_129M nX9_whyNotSold eX9_whyNotSold (by unfold fRoom; decide) (Nat.le_of_ble_eq_true rfl) rfl (bc' := 0) (bs' := 0) rfl rfl ?_
    show fR _ _ _ 25 _ (.int (pWhyS (g) n (k0)) :: _) _ _ _ _
    refine r_goto (tgt := 29) dX9_noSale_25 (by decide) ?_
    exact fR_iret dX9_noSale_29 rfl (rPost_of (t := 0) (kp := kp) (by unfold oNoSale; (first | simp only [ck0, ck1, ck2] | simp only [ck0, ck1] | simp only [ck0, ck2] | simp only [ck1, ck2] | simp only [ck0] | simp only [ck1] | simp only [ck2] | skip); (repeat (first | rw [if_pos (by first | assumption | exact Int32.not_le.mp (by assumption) | exact Int32.not_lt.mp (by assumption) | omega)] | rw [if_neg (by first | assumption | exact Int32.not_lt.mpr (by assumption) | exact Int32.not_le.mpr (by assumption) | exact bne_of (by assumption) | exact not_not_intro (by assumption) | omega)])); first | done | rfl))
def oIfSunk (z : Zs) (dn n : Nat) (p0 : Int32) (p1 : Int32) (p2 : Int32) (p3 : Int32) : Oc := if pNo p0 3 = true then (if pNo p1 n = true then (if pIn p2 (nI 50) (nI 200) = true then (if pIn p3 (nI 1) (nI 60) = true then (0, pDep z.1 (cN p0) (cN p1) p2 p3, z) else (2, 0, z)) else (2, 0, z)) else (1, 0, z)) else (1, 0, z)
theorem tX9_ifSunk_o {l : Launch} {κ : KP} {M : Mem} {m sA tA nA : Nat} {th ap pt : Int32} {hs : Int64} {g tx nu : Nat → Int32} {kp : Bool} {sn ln dn n : Nat} (hD : rDis m sA tA nA) (hI : BI g dn n) (hsn : sn ≤ 6) (hln : ln ≤ 60)  {p0 : Int32} {p1 : Int32} {p2 : Int32} {p3 : Int32} : fM l κ mX9_ifSunk [.ref (m), .int (p0), .int (p1), .int (p2), .int (p3)] (RM M m sA tA nA (th) (nI (sn)) (bI (kp)) (nI (ln)) (ap) (pt) (hs) (g) (tx) (nu)) (rPost M m sA tA nA (oIfSunk ⟨g, sn, kp, tx, ln⟩ dn n p0 p1 p2 p3)) := by
  refine fM_of rfl (by decide +kernel) (Nat.le_of_ble_eq_true rfl) ?_
  have hn := hI.nle
  have hg := hI.n0
  have hdn := hI.dle
  have hg0 := hI.d0
  have hM := hI.mM
  have hB := hI.mB
  have h1 := hI.m1
  have hs0 := hI.s0
  show fR l κ mX9_ifSunk 0 [(0, .ref (m)), (1, .int (p0)), (2, .int (p1)), (3, .int (p2)), (4, .int (p3))] [] (RM M m sA tA nA (th) (nI (sn)) (bI (kp)) (nI (ln)) (ap) (pt) (hs) (g) (tx) (nu)) 0 0 _
  refine r_iload_n dX9_ifSunk_0 rfl ?_
  refine r_callS (As := [.int (p0)]) dX9_ifSunk_1 tX9_isOne2 rfl oX9_isOne rfl kX9_107M sX9_isOne (by unfold fRoom; decide) (Nat.le_of_ble_eq_true rfl) rfl (bc' := 0) (bs' := 0) rfl rfl ?_
  show fR _ _ _ 4 _ (.int (bI (pNo (p0) 3)) :: _) _ _ _ _
  refine r_if_eqB (tgt := 19) dX9_ifSunk_4 (by decide) (fun c1 => ?_) (fun c1 => ?_)
  · skip
    refine r_iconst (v := nI 0) dX9_ifSunk_19 (by decide) ?_
    refine r_istore (lv' := [(5, .int (nI (0))), (0, .ref (m)), (1, .int (p0)), (2, .int (p1)), (3, .int (p2)), (4, .int (p3))]) dX9_ifSunk_20 (by decide) rfl ?_
    refine r_iload_n dX9_ifSunk_22 rfl ?_
    refine r_bipush (v := nI 50) dX9_ifSunk_23 (by decide) ?_
    refine r_sipush (v := nI 200) dX9_ifSunk_25 (by decide) ?_
    refine r_callS (As := [.int (p2), .int (nI (50)), .int (nI (200))]) dX9_ifSunk_28 tX9_in rfl oX9_in rfl kX9_23M sX9_in (by unfold fRoom; decide) (Nat.le_of_ble_eq_true rfl) rfl (bc' := 0) (bs' := 0) rfl rfl ?_
    show fR _ _ _ 31 _ (.int (bI (pIn (p2) (nI (50)) (nI (200)))) :: _) _ _ _ _
    refine r_if_eqB (tgt := 49) dX9_ifSunk_31 (by decide) (fun c2 => ?_) (fun c2 => ?_)
    · skip
      refine r_iconst (v := nI 0) dX9_ifSunk_49 (by decide) ?_
      refine r_istore (lv' := [(6, .int (nI (0))), (5, .int (nI (0))), (0, .ref (m)), (1, .int (p0)), (2, .int (p1)), (3, .int (p2)), (4, .int (p3))]) dX9_ifSunk_50 (by decide) rfl ?_
      refine r_aload_n dX9_ifSunk_52 rfl ?_
      refine r_iload dX9_ifSunk_53 rfl ?_
      refine r_if_neN (tgt := 62) dX9_ifSunk_55 (by decide) (by omega) (fun c3 => absurd c3 (by omega)) (fun c3 => ?_)
      refine r_iconst (v := nI 1) dX9_ifSunk_58 (by decide) ?_
      refine r_goto (tgt := 72) dX9_ifSunk_59 (by decide) ?_
      refine r_callV (As := [.int (nI (1))]) dX9_ifSunk_72 (tX9_holds_f hD (by omega) (by omega)) rfl RM_0 rfl rfl oX9_holds rfl kX9_94M nX9_holds eX9_holds (by unfold fRoom; decide) (Nat.le_of_ble_eq_true rfl) rfl (bc' := 0) (bs' := 0) rfl rfl ?_
      show fR _ _ _ 75 _ (.int (bI (false)) :: _) _ _ _ _
      refine r_if_eqB (tgt := 90) dX9_ifSunk_75 (by decide) (fun c4 => ?_) (fun c4 => absurd c4 (by decide))
      refine r_iconst (v := nI 0) dX9_ifSunk_90 (by decide) ?_
      exact fR_iret dX9_ifSunk_91 rfl (rPost_of (t := 1) (kp := kp) (by unfold oIfSunk; (first | simp only [ck0, ck1, ck2] | simp only [ck0, ck1] | simp only [ck0, ck2] | simp only [ck1, ck2] | simp only [ck0] | simp only [ck1] | simp only [ck2] | skip); (repeat (first | rw [if_pos (by first | assumption | exact Int32.not_le.mp (by assumption) | exact Int32.not_lt.mp (by assumption) | omega)] | rw [if_neg (by first | assumption | exact Int32.not_lt.mpr (by assumption) | exact Int32.not_le.mpr (by assumption) | exact bne_of (by assumption) | exact not_not_intro (by assumption) | omega)])); first | done | rfl))
    · skip
      refine r_iload dX9_ifSunk_34 rfl ?_
      refine r_iconst (v := nI 1) dX9_ifSunk_36 (by decide) ?_
      refine r_bipush (v := nI 60) dX9_ifSunk_37 (by decide) ?_
      refine r_callS (As := [.int (p3), .int (nI (1)), .int (nI (60))]) dX9_ifSunk_39 tX9_in rfl oX9_in rfl kX9_23M sX9_in (by unfold fRoom; decide) (Nat.le_of_ble_eq_true rfl) rfl (bc' := 0) (bs' := 0) rfl rfl ?_
      show fR _ _ _ 42 _ (.int (bI (pIn (p3) (nI (1)) (nI (60)))) :: _) _ _ _ _
      refine r_if_eqB (tgt := 49) dX9_ifSunk_42 (by decide) (fun c5 => ?_) (fun c5 => ?_)
      · skip
        refine r_iconst (v := nI 0) dX9_ifSunk_49 (by decide) ?_
        refine r_istore (lv' := [(6, .int (nI (0))), (5, .int (nI (0))), (0, .ref (m)), (1, .int (p0)), (2, .int (p1)), (3, .int (p2)), (4, .int (p3))]) dX9_ifSunk_50 (by decide) rfl ?_
        refine r_aload_n dX9_ifSunk_52 rfl ?_
        refine r_iload dX9_ifSunk_53 rfl ?_
        refine r_if_neN (tgt := 62) dX9_ifSunk_55 (by decide) (by omega) (fun c6 => absurd c6 (by omega)) (fun c6 => ?_)
        refine r_iconst (v := nI 1) dX9_ifSunk_58 (by decide) ?_
        refine r_goto (tgt := 72) dX9_ifSunk_59 (by decide) ?_
        refine r_callV (As := [.int (nI (1))]) dX9_ifSunk_72 (tX9_holds_f hD (by omega) (by omega)) rfl RM_0 rfl rfl oX9_holds rfl kX9_94M nX9_holds eX9_holds (by unfold fRoom; decide) (Nat.le_of_ble_eq_true rfl) rfl (bc' := 0) (bs' := 0) rfl rfl ?_
        show fR _ _ _ 75 _ (.int (bI (false)) :: _) _ _ _ _
        refine r_if_eqB (tgt := 90) dX9_ifSunk_75 (by decide) (fun c7 => ?_) (fun c7 => absurd c7 (by decide))
        refine r_iconst (v := nI 0) dX9_ifSunk_90 (by decide) ?_
        exact fR_iret dX9_ifSunk_91 rfl (rPost_of (t := 1) (kp := kp) (by unfold oIfSunk; (first | simp only [ck0, ck1, ck2] | simp only [ck0, ck1] | simp only [ck0, ck2] | simp only [ck1, ck2] | simp only [ck0] | simp only [ck1] | simp only [ck2] | skip); (repeat (first | rw [if_pos (by first | assumption | exact Int32.not_le.mp (by assumption) | exact Int32.not_lt.mp (by assumption) | omega)] | rw [if_neg (by first | assumption | exact Int32.not_lt.mpr (by assumption) | exact Int32.not_le.mpr (by assumption) | exact bne_of (by assumption) | exact not_not_intro (by assumption) | omega)])); first | done | rfl))
      · skip
        refine r_iconst (v := nI 1) dX9_ifSunk_45 (by decide) ?_
        refine r_goto (tgt := 50) dX9_ifSunk_46 (by decide) ?_
        refine r_istore (lv' := [(6, .int (nI (1))), (5, .int (nI (0))), (0, .ref (m)), (1, .int (p0)), (2, .int (p1)), (3, .int (p2)), (4, .int (p3))]) dX9_ifSunk_50 (by decide) rfl ?_
        refine r_aload_n dX9_ifSunk_52 rfl ?_
        refine r_iload dX9_ifSunk_53 rfl ?_
        refine r_if_neN (tgt := 62) dX9_ifSunk_55 (by decide) (by omega) (fun c8 => absurd c8 (by omega)) (fun c8 => ?_)
        refine r_iconst (v := nI 1) dX9_ifSunk_58 (by decide) ?_
        refine r_goto (tgt := 72) dX9_ifSunk_59 (by decide) ?_
        refine r_callV (As := [.int (nI (1))]) dX9_ifSunk_72 (tX9_holds_f hD (by omega) (by omega)) rfl RM_0 rfl rfl oX9_holds rfl kX9_94M nX9_holds eX9_holds (by unfold fRoom; decide) (Nat.le_of_ble_eq_true rfl) rfl (bc' := 0) (bs' := 0) rfl rfl ?_
        show fR _ _ _ 75 _ (.int (bI (false)) :: _) _ _ _ _
        refine r_if_eqB (tgt := 90) dX9_ifSunk_75 (by decide) (fun c9 => ?_) (fun c9 => absurd c9 (by decide))
        refine r_iconst (v := nI 0) dX9_ifSunk_90 (by decide) ?_
        exact fR_iret dX9_ifSunk_91 rfl (rPost_of (t := 1) (kp := kp) (by unfold oIfSunk; (first | simp only [ck0, ck1, ck2] | simp only [ck0, ck1] | simp only [ck0, ck2] | simp only [ck1, ck2] | simp only [ck0] | simp only [ck1] | simp only [ck2] | skip); (repeat (first | rw [if_pos (by first | assumption | exact Int32.not_le.mp (by assumption) | exact Int32.not_lt.mp (by assumption) | omega)] | rw [if_neg (by first | assumption | exact Int32.not_lt.mpr (by assumption) | exact Int32.not_le.mpr (by assumption) | exact bne_of (by assumption) | exact not_not_intro (by assumption) | omega)])); first | done | rfl))
  · skip
    obtain ⟨k0, hk0, ek0⟩ := pNo_t c1 (by omega)
    subst ek0
    have ck0 : cN (nI k0) = k0 := nI_clamp (by omega)
    refine r_aload_n dX9_ifSunk_7 rfl ?_
    refine r_iload_n dX9_ifSunk_8 rfl ?_
    refine r_callV (As := [.int (p1)]) dX9_ifSunk_9 (tX9_isSample2 hD hg) rfl RM_0 rfl rfl oX9_isSample rfl kX9_104M nX9_isSample eX9_isSample (by unfold fRoom; decide) (Nat.le_of_ble_eq_true rfl) rfl (bc' := 0) (bs' := 0) rfl rfl ?_
    show fR _ _ _ 12 _ (.int (bI (pNo (p1) n)) :: _) _ _ _ _
    refine r_if_eqB (tgt := 19) dX9_ifSunk_12 (by decide) (fun c10 => ?_) (fun c10 => ?_)
    · skip
      refine r_iconst (v := nI 0) dX9_ifSunk_19 (by decide) ?_
      refine r_istore (lv' := [(5, .int (nI (0))), (0, .ref (m)), (1, .int (nI (k0))), (2, .int (p1)), (3, .int (p2)), (4, .int (p3))]) dX9_ifSunk_20 (by decide) rfl ?_
      refine r_iload_n dX9_ifSunk_22 rfl ?_
      refine r_bipush (v := nI 50) dX9_ifSunk_23 (by decide) ?_
      refine r_sipush (v := nI 200) dX9_ifSunk_25 (by decide) ?_
      refine r_callS (As := [.int (p2), .int (nI (50)), .int (nI (200))]) dX9_ifSunk_28 tX9_in rfl oX9_in rfl kX9_23M sX9_in (by unfold fRoom; decide) (Nat.le_of_ble_eq_true rfl) rfl (bc' := 0) (bs' := 0) rfl rfl ?_
      show fR _ _ _ 31 _ (.int (bI (pIn (p2) (nI (50)) (nI (200)))) :: _) _ _ _ _
      refine r_if_eqB (tgt := 49) dX9_ifSunk_31 (by decide) (fun c11 => ?_) (fun c11 => ?_)
      · skip
        refine r_iconst (v := nI 0) dX9_ifSunk_49 (by decide) ?_
        refine r_istore (lv' := [(6, .int (nI (0))), (5, .int (nI (0))), (0, .ref (m)), (1, .int (nI (k0))), (2, .int (p1)), (3, .int (p2)), (4, .int (p3))]) dX9_ifSunk_50 (by decide) rfl ?_
        refine r_aload_n dX9_ifSunk_52 rfl ?_
        refine r_iload dX9_ifSunk_53 rfl ?_
        refine r_if_neN (tgt := 62) dX9_ifSunk_55 (by decide) (by omega) (fun c12 => absurd c12 (by omega)) (fun c12 => ?_)
        refine r_iconst (v := nI 1) dX9_ifSunk_58 (by decide) ?_
        refine r_goto (tgt := 72) dX9_ifSunk_59 (by decide) ?_
        refine r_callV (As := [.int (nI (1))]) dX9_ifSunk_72 (tX9_holds_f hD (by omega) (by omega)) rfl RM_0 rfl rfl oX9_holds rfl kX9_94M nX9_holds eX9_holds (by unfold fRoom; decide) (Nat.le_of_ble_eq_true rfl) rfl (bc' := 0) (bs' := 0) rfl rfl ?_
        show fR _ _ _ 75 _ (.int (bI (false)) :: _) _ _ _ _
        refine r_if_eqB (tgt := 90) dX9_ifSunk_75 (by decide) (fun c13 => ?_) (fun c13 => absurd c13 (by decide))
        refine r_iconst (v := nI 0) dX9_ifSunk_90 (by decide) ?_
        exact fR_iret dX9_ifSunk_91 rfl (rPost_of (t := 1) (kp := kp) (by unfold oIfSunk; (first | simp only [ck0, ck1, ck2] | simp only [ck0, ck1] | simp only [ck0, ck2] | simp only [ck1, ck2] | simp only [ck0] | simp only [ck1] | simp only [ck2] | skip); (repeat (first | rw [if_pos (by first | assumption | exact Int32.not_le.mp (by assumption) | exact Int32.not_lt.mp (by assumption) | omega)] | rw [if_neg (by first | assumption | exact Int32.not_lt.mpr (by assumption) | exact Int32.not_le.mpr (by assumption) | exact bne_of (by assumption) | exact not_not_intro (by assumption) | omega)])); first | done | rfl))
      · skip
        refine r_iload dX9_ifSunk_34 rfl ?_
        refine r_iconst (v := nI 1) dX9_ifSunk_36 (by decide) ?_
        refine r_bipush (v := nI 60) dX9_ifSunk_37 (by decide) ?_
        refine r_callS (As := [.int (p3), .int (nI (1)), .int (nI (60))]) dX9_ifSunk_39 tX9_in rfl oX9_in rfl kX9_23M sX9_in (by unfold fRoom; decide) (Nat.le_of_ble_eq_true rfl) rfl (bc' := 0) (bs' := 0) rfl rfl ?_
        show fR _ _ _ 42 _ (.int (bI (pIn (p3) (nI (1)) (nI (60)))) :: _) _ _ _ _
        refine r_if_eqB (tgt := 49) dX9_ifSunk_42 (by decide) (fun c14 => ?_) (fun c14 => ?_)
        · skip
          refine r_iconst (v := nI 0) dX9_ifSunk_49 (by decide) ?_
          refine r_istore (lv' := [(6, .int (nI (0))), (5, .int (nI (0))), (0, .ref (m)), (1, .int (nI (k0))), (2, .int (p1)), (3, .int (p2)), (4, .int (p3))]) dX9_ifSunk_50 (by decide) rfl ?_
          refine r_aload_n dX9_ifSunk_52 rfl ?_
          refine r_iload dX9_ifSunk_53 rfl ?_
          refine r_if_neN (tgt := 62) dX9_ifSunk_55 (by decide) (by omega) (fun c15 => absurd c15 (by omega)) (fun c15 => ?_)
          refine r_iconst (v := nI 1) dX9_ifSunk_58 (by decide) ?_
          refine r_goto (tgt := 72) dX9_ifSunk_59 (by decide) ?_
          refine r_callV (As := [.int (nI (1))]) dX9_ifSunk_72 (tX9_holds_f hD (by omega) (by omega)) rfl RM_0 rfl rfl oX9_holds rfl kX9_94M nX9_holds eX9_holds (by unfold fRoom; decide) (Nat.le_of_ble_eq_true rfl) rfl (bc' := 0) (bs' := 0) rfl rfl ?_
          show fR _ _ _ 75 _ (.int (bI (false)) :: _) _ _ _ _
          refine r_if_eqB (tgt := 90) dX9_ifSunk_75 (by decide) (fun c16 => ?_) (fun c16 => absurd c16 (by decide))
          refine r_iconst (v := nI 0) dX9_ifSunk_90 (by decide) ?_
          exact fR_iret dX9_ifSunk_91 rfl (rPost_of (t := 1) (kp := kp) (by unfold oIfSunk; (first | simp only [ck0, ck1, ck2] | simp only [ck0, ck1] | simp only [ck0, ck2] | simp only [ck1, ck2] | simp only [ck0] | simp only [ck1] | simp only [ck2] | skip); (repeat (first | rw [if_pos (by first | assumption | exact Int32.not_le.mp (by assumption) | exact Int32.not_lt.mp (by assumption) | omega)] | rw [if_neg (by first | assumption | exact Int32.not_lt.mpr (by assumption) | exact Int32.not_le.mpr (by assumption) | exact bne_of (by assumption) | exact not_not_intro (by assumption) | omega)])); first | done | rfl))
        · skip
          refine r_iconst (v := nI 1) dX9_ifSunk_45 (by decide) ?_
          refine r_goto (tgt := 50) dX9_ifSunk_46 (by decide) ?_
          refine r_istore (lv' := [(6, .int (nI (1))), (5, .int (nI (0))), (0, .ref (m)), (1, .int (nI (k0))), (2, .int (p1)), (3, .int (p2)), (4, .int (p3))]) dX9_ifSunk_50 (by decide) rfl ?_
          refine r_aload_n dX9_ifSunk_52 rfl ?_
          refine r_iload dX9_ifSunk_53 rfl ?_
          refine r_if_neN (tgt := 62) dX9_ifSunk_55 (by decide) (by omega) (fun c17 => absurd c17 (by omega)) (fun c17 => ?_)
          refine r_iconst (v := nI 1) dX9_ifSunk_58 (by decide) ?_
          refine r_goto (tgt := 72) dX9_ifSunk_59 (by decide) ?_
          refine r_callV (As := [.int (nI (1))]) dX9_ifSunk_72 (tX9_holds_f hD (by omega) (by omega)) rfl RM_0 rfl rfl oX9_holds rfl kX9_94M nX9_holds eX9_holds (by unfold fRoom; decide) (Nat.le_of_ble_eq_true rfl) rfl (bc' := 0) (bs' := 0) rfl rfl ?_
          show fR _ _ _ 75 _ (.int (bI (false)) :: _) _ _ _ _
          refine r_if_eqB (tgt := 90) dX9_ifSunk_75 (by decide) (fun c18 => ?_) (fun c18 => absurd c18 (by decide))
          refine r_iconst (v := nI 0) dX9_ifSunk_90 (by decide) ?_
          exact fR_iret dX9_ifSunk_91 rfl (rPost_of (t := 1) (kp := kp) (by unfold oIfSunk; (first | simp only [ck0, ck1, ck2] | simp only [ck0, ck1] | simp only [ck0, ck2] | simp only [ck1, ck2] | simp only [ck0] | simp only [ck1] | simp only [ck2] | skip); (repeat (first | rw [if_pos (by first | assumption | exact Int32.not_le.mp (by assumption) | exact Int32.not_lt.mp (by assumption) | omega)] | rw [if_neg (by first | assumption | exact Int32.not_lt.mpr (by assumption) | exact Int32.not_le.mpr (by assumption) | exact bne_of (by assumption) | exact not_not_intro (by assumption) | omega)])); first | done | rfl))
    · skip
      obtain ⟨k1, hk1, ek1⟩ := pNo_t c10 (by omega)
      subst ek1
      have ck1 : cN (nI k1) = k1 := nI_clamp (by omega)
      refine r_iconst (v := nI 1) dX9_ifSunk_15 (by decide) ?_
      refine r_goto (tgt := 20) dX9_ifSunk_16 (by decide) ?_
      refine r_istore (lv' := [(5, .int (nI (1))), (0, .ref (m)), (1, .int (nI (k0))), (2, .int (nI (k1))), (3, .int (p2)), (4, .int (p3))]) dX9_ifSunk_20 (by decide) rfl ?_
      refine r_iload_n dX9_ifSunk_22 rfl ?_
      refine r_bipush (v := nI 50) dX9_ifSunk_23 (by decide) ?_
      refine r_sipush (v := nI 200) dX9_ifSunk_25 (by decide) ?_
      refine r_callS (As := [.int (p2), .int (nI (50)), .int (nI (200))]) dX9_ifSunk_28 tX9_in rfl oX9_in rfl kX9_23M sX9_in (by unfold fRoom; decide) (Nat.le_of_ble_eq_true rfl) rfl (bc' := 0) (bs' := 0) rfl rfl ?_
      show fR _ _ _ 31 _ (.int (bI (pIn (p2) (nI (50)) (nI (200)))) :: _) _ _ _ _
      refine r_if_eqB (tgt := 49) dX9_ifSunk_31 (by decide) (fun c19 => ?_) (fun c19 => ?_)
      · skip
        refine r_iconst (v := nI 0) dX9_ifSunk_49 (by decide) ?_
        refine r_istore (lv' := [(6, .int (nI (0))), (5, .int (nI (1))), (0, .ref (m)), (1, .int (nI (k0))), (2, .int (nI (k1))), (3, .int (p2)), (4, .int (p3))]) dX9_ifSunk_50 (by decide) rfl ?_
        refine r_aload_n dX9_ifSunk_52 rfl ?_
        refine r_iload dX9_ifSunk_53 rfl ?_
        refine r_if_neN (tgt := 62) dX9_ifSunk_55 (by decide) (by omega) (fun c20 => ?_) (fun c20 => absurd c20 (by omega))
        refine r_iload dX9_ifSunk_62 rfl ?_
        refine r_if_neN (tgt := 71) dX9_ifSunk_64 (by decide) (by omega) (fun c21 => absurd c21 (by omega)) (fun c21 => ?_)
        refine r_iconst (v := nI 2) dX9_ifSunk_67 (by decide) ?_
        refine r_goto (tgt := 72) dX9_ifSunk_68 (by decide) ?_
        refine r_callV (As := [.int (nI (2))]) dX9_ifSunk_72 (tX9_holds_f hD (by omega) (by omega)) rfl RM_0 rfl rfl oX9_holds rfl kX9_94M nX9_holds eX9_holds (by unfold fRoom; decide) (Nat.le_of_ble_eq_true rfl) rfl (bc' := 0) (bs' := 0) rfl rfl ?_
        show fR _ _ _ 75 _ (.int (bI (false)) :: _) _ _ _ _
        refine r_if_eqB (tgt := 90) dX9_ifSunk_75 (by decide) (fun c22 => ?_) (fun c22 => absurd c22 (by decide))
        refine r_iconst (v := nI 0) dX9_ifSunk_90 (by decide) ?_
        exact fR_iret dX9_ifSunk_91 rfl (rPost_of (t := 2) (kp := kp) (by unfold oIfSunk; (first | simp only [ck0, ck1, ck2] | simp only [ck0, ck1] | simp only [ck0, ck2] | simp only [ck1, ck2] | simp only [ck0] | simp only [ck1] | simp only [ck2] | skip); (repeat (first | rw [if_pos (by first | assumption | exact Int32.not_le.mp (by assumption) | exact Int32.not_lt.mp (by assumption) | omega)] | rw [if_neg (by first | assumption | exact Int32.not_lt.mpr (by assumption) | exact Int32.not_le.mpr (by assumption) | exact bne_of (by assumption) | exact not_not_intro (by assumption) | omega)])); first | done | rfl))
      · skip
        refine r_iload dX9_ifSunk_34 rfl ?_
        refine r_iconst (v := nI 1) dX9_ifSunk_36 (by decide) ?_
        refine r_bipush (v := nI 60) dX9_ifSunk_37 (by decide) ?_
        refine r_callS (As := [.int (p3), .int (nI (1)), .int (nI (60))]) dX9_ifSunk_39 tX9_in rfl oX9_in rfl kX9_23M sX9_in (by unfold fRoom; decide) (Nat.le_of_ble_eq_true rfl) rfl (bc' := 0) (bs' := 0) rfl rfl ?_
        show fR _ _ _ 42 _ (.int (bI (pIn (p3) (nI (1)) (nI (60)))) :: _) _ _ _ _
        refine r_if_eqB (tgt := 49) dX9_ifSunk_42 (by decide) (fun c23 => ?_) (fun c23 => ?_)
        · skip
          refine r_iconst (v := nI 0) dX9_ifSunk_49 (by decide) ?_
          refine r_istore (lv' := [(6, .int (nI (0))), (5, .int (nI (1))), (0, .ref (m)), (1, .int (nI (k0))), (2, .int (nI (k1))), (3, .int (p2)), (4, .int (p3))]) dX9_ifSunk_50 (by decide) rfl ?_
          refine r_aload_n dX9_ifSunk_52 rfl ?_
          refine r_iload dX9_ifSunk_53 rfl ?_
          refine r_if_neN (tgt := 62) dX9_ifSunk_55 (by decide) (by omega) (fun c24 => ?_) (fun c24 => absurd c24 (by omega))
          refine r_iload dX9_ifSunk_62 rfl ?_
          refine r_if_neN (tgt := 71) dX9_ifSunk_64 (by decide) (by omega) (fun c25 => absurd c25 (by omega)) (fun c25 => ?_)
          refine r_iconst (v := nI 2) dX9_ifSunk_67 (by decide) ?_
          refine r_goto (tgt := 72) dX9_ifSunk_68 (by decide) ?_
          refine r_callV (As := [.int (nI (2))]) dX9_ifSunk_72 (tX9_holds_f hD (by omega) (by omega)) rfl RM_0 rfl rfl oX9_holds rfl kX9_94M nX9_holds eX9_holds (by unfold fRoom; decide) (Nat.le_of_ble_eq_true rfl) rfl (bc' := 0) (bs' := 0) rfl rfl ?_
          show fR _ _ _ 75 _ (.int (bI (false)) :: _) _ _ _ _
          refine r_if_eqB (tgt := 90) dX9_ifSunk_75 (by decide) (fun c26 => ?_) (fun c26 => absurd c26 (by decide))
          refine r_iconst (v := nI 0) dX9_ifSunk_90 (by decide) ?_
          exact fR_iret dX9_ifSunk_91 rfl (rPost_of (t := 2) (kp := kp) (by unfold oIfSunk; (first | simp only [ck0, ck1, ck2] | simp only [ck0, ck1] | simp only [ck0, ck2] | simp only [ck1, ck2] | simp only [ck0] | simp only [ck1] | simp only [ck2] | skip); (repeat (first | rw [if_pos (by first | assumption | exact Int32.not_le.mp (by assumption) | exact Int32.not_lt.mp (by assumption) | omega)] | rw [if_neg (by first | assumption | exact Int32.not_lt.mpr (by assumption) | exact Int32.not_le.mpr (by assumption) | exact bne_of (by assumption) | exact not_not_intro (by assumption) | omega)])); first | done | rfl))
        · skip
          refine r_iconst (v := nI 1) dX9_ifSunk_45 (by decide) ?_
          refine r_goto (tgt := 50) dX9_ifSunk_46 (by decide) ?_
          refine r_istore (lv' := [(6, .int (nI (1))), (5, .int (nI (1))), (0, .ref (m)), (1, .int (nI (k0))), (2, .int (nI (k1))), (3, .int (p2)), (4, .int (p3))]) dX9_ifSunk_50 (by decide) rfl ?_
          refine r_aload_n dX9_ifSunk_52 rfl ?_
          refine r_iload dX9_ifSunk_53 rfl ?_
          refine r_if_neN (tgt := 62) dX9_ifSunk_55 (by decide) (by omega) (fun c27 => ?_) (fun c27 => absurd c27 (by omega))
          refine r_iload dX9_ifSunk_62 rfl ?_
          refine r_if_neN (tgt := 71) dX9_ifSunk_64 (by decide) (by omega) (fun c28 => ?_) (fun c28 => absurd c28 (by omega))
          refine r_iconst (v := nI 0) dX9_ifSunk_71 (by decide) ?_
          refine r_callV (As := [.int (nI (0))]) dX9_ifSunk_72 (tX9_holds_t hD) rfl RM_0 rfl rfl oX9_holds rfl kX9_94M nX9_holds eX9_holds (by unfold fRoom; decide) (Nat.le_of_ble_eq_true rfl) rfl (bc' := 0) (bs' := 0) rfl rfl ?_
          show fR _ _ _ 75 _ (.int (bI (true)) :: _) _ _ _ _
          refine r_if_eqB (tgt := 90) dX9_ifSunk_75 (by decide) (fun c29 => absurd c29 (by decide)) (fun c29 => ?_)
          refine r_aload_n dX9_ifSunk_78 rfl ?_
          refine r_iload_n dX9_ifSunk_79 rfl ?_
          refine r_iload_n dX9_ifSunk_80 rfl ?_
          refine r_iload_n dX9_ifSunk_81 rfl ?_
          refine r_iload dX9_ifSunk_82 rfl ?_
          refine r_callV (As := [.int (nI (k0)), .int (nI (k1)), .int (p2), .int (p3)]) dX9_ifSunk_84 (tX9_depth hD (by omega) (by omega) (h1 _ (by omega))) rfl RM_0 rfl rfl oX9_depth rfl kX9_51M nX9_depth eX9_depth (by unfold fRoom; decide) (Nat.le_of_ble_eq_true rfl) rfl (bc' := 0) (bs' := 0) rfl rfl ?_
          show fR _ _ _ 87 _ (.int (pDep (g) (k0) (k1) (p2) (p3)) :: _) _ _ _ _
          refine r_goto (tgt := 91) dX9_ifSunk_87 (by decide) ?_
          exact fR_iret dX9_ifSunk_91 rfl (rPost_of (t := 0) (kp := kp) (by unfold oIfSunk; (first | simp only [ck0, ck1, ck2] | simp only [ck0, ck1] | simp only [ck0, ck2] | simp only [ck1, ck2] | simp only [ck0] | simp only [ck1] | simp only [ck2] | skip); (repeat (first | rw [if_pos (by first | assumption | exact Int32.not_le.mp (by assumption) | exact Int32.not_lt.mp (by assumption) | omega)] | rw [if_neg (by first | assumption | exact Int32.not_lt.mpr (by assumption) | exact Int32.not_le.mpr (by assumption) | exact bne_of (by assumption) | exact not_not_intro (by assumption) | omega)])); first | done | rfl))
def oReadyIn (z : Zs) (dn n : Nat) (p0 : Int32) : Oc := if pNo p0 n = true then (0, pReadyNow z.1 (cN p0), z) else (1, 0, z)
theorem tX9_readyIn_o {l : Launch} {κ : KP} {M : Mem} {m sA tA nA : Nat} {th ap pt : Int32} {hs : Int64} {g tx nu : Nat → Int32} {kp : Bool} {sn ln dn n : Nat} (hD : rDis m sA tA nA) (hI : BI g dn n) (hsn : sn ≤ 6) (hln : ln ≤ 60)  {p0 : Int32} : fM l κ mX9_readyIn [.ref (m), .int (p0)] (RM M m sA tA nA (th) (nI (sn)) (bI (kp)) (nI (ln)) (ap) (pt) (hs) (g) (tx) (nu)) (rPost M m sA tA nA (oReadyIn ⟨g, sn, kp, tx, ln⟩ dn n p0)) := by
  refine fM_of rfl (by decide +kernel) (Nat.le_of_ble_eq_true rfl) ?_
  have hn := hI.nle
  have hg := hI.n0
  have hdn := hI.dle
  have hg0 := hI.d0
  have hM := hI.mM
  have hB := hI.mB
  have h1 := hI.m1
  have hs0 := hI.s0
  show fR l κ mX9_readyIn 0 [(0, .ref (m)), (1, .int (p0))] [] (RM M m sA tA nA (th) (nI (sn)) (bI (kp)) (nI (ln)) (ap) (pt) (hs) (g) (tx) (nu)) 0 0 _
  refine r_aload_n dX9_readyIn_0 rfl ?_
  refine r_aload_n dX9_readyIn_1 rfl ?_
  refine r_iload_n dX9_readyIn_2 rfl ?_
  refine r_callV (As := [.int (p0)]) dX9_readyIn_3 (tX9_isSample2 hD hg) rfl RM_0 rfl rfl oX9_isSample rfl kX9_104M nX9_isSample eX9_isSample (by unfold fRoom; decide) (Nat.le_of_ble_eq_true rfl) rfl (bc' := 0) (bs' := 0) rfl rfl ?_
  show fR _ _ _ 6 _ (.int (bI (pNo (p0) n)) :: _) _ _ _ _
  refine r_if_eqB (tgt := 13) dX9_readyIn_6 (by decide) (fun c1 => ?_) (fun c1 => ?_)
  · skip
    refine r_iconst (v := nI 1) dX9_readyIn_13 (by decide) ?_
    refine r_callV (As := [.int (nI (1))]) dX9_readyIn_14 (tX9_holds_f hD (by omega) (by omega)) rfl RM_0 rfl rfl oX9_holds rfl kX9_94M nX9_holds eX9_holds (by unfold fRoom; decide) (Nat.le_of_ble_eq_true rfl) rfl (bc' := 0) (bs' := 0) rfl rfl ?_
    show fR _ _ _ 17 _ (.int (bI (false)) :: _) _ _ _ _
    refine r_if_eqB (tgt := 28) dX9_readyIn_17 (by decide) (fun c2 => ?_) (fun c2 => absurd c2 (by decide))
    refine r_iconst (v := nI 0) dX9_readyIn_28 (by decide) ?_
    exact fR_iret dX9_readyIn_29 rfl (rPost_of (t := 1) (kp := kp) (by unfold oReadyIn; (first | simp only [ck0, ck1, ck2] | simp only [ck0, ck1] | simp only [ck0, ck2] | simp only [ck1, ck2] | simp only [ck0] | simp only [ck1] | simp only [ck2] | skip); (repeat (first | rw [if_pos (by first | assumption | exact Int32.not_le.mp (by assumption) | exact Int32.not_lt.mp (by assumption) | omega)] | rw [if_neg (by first | assumption | exact Int32.not_lt.mpr (by assumption) | exact Int32.not_le.mpr (by assumption) | exact bne_of (by assumption) | exact not_not_intro (by assumption) | omega)])); first | done | rfl))
  · skip
    obtain ⟨k0, hk0, ek0⟩ := pNo_t c1 (by omega)
    subst ek0
    have ck0 : cN (nI k0) = k0 := nI_clamp (by omega)
    refine r_iconst (v := nI 0) dX9_readyIn_9 (by decide) ?_
    refine r_goto (tgt := 14) dX9_readyIn_10 (by decide) ?_
    refine r_callV (As := [.int (nI (0))]) dX9_readyIn_14 (tX9_holds_t hD) rfl RM_0 rfl rfl oX9_holds rfl kX9_94M nX9_holds eX9_holds (by unfold fRoom; decide) (Nat.le_of_ble_eq_true rfl) rfl (bc' := 0) (bs' := 0) rfl rfl ?_
    show fR _ _ _ 17 _ (.int (bI (true)) :: _) _ _ _ _
    refine r_if_eqB (tgt := 28) dX9_readyIn_17 (by decide) (fun c3 => absurd c3 (by decide)) (fun c3 => ?_)
    refine r_aload_n dX9_readyIn_20 rfl ?_
    refine r_iload_n dX9_readyIn_21 rfl ?_
    refine r_callV (As := [.int (nI (k0))]) dX9_readyIn_22 (tX9_readyNow hD (by omega) (hB _ (by omega))) rfl RM_0 rfl rfl oX9_readyNow rfl kX9_204M nX9_readyNow eX9_readyNow (by unfold fRoom; decide) (Nat.le_of_ble_eq_true rfl) rfl (bc' := 0) (bs' := 0) rfl rfl ?_
    show fR _ _ _ 25 _ (.int (pReadyNow (g) (k0)) :: _) _ _ _ _
    refine r_goto (tgt := 29) dX9_readyIn_25 (by decide) ?_
    exact fR_iret dX9_readyIn_29 rfl (rPost_of (t := 0) (kp := kp) (by unfold oReadyIn; (first | simp only [ck0, ck1, ck2] | simp only [ck0, ck1] | simp only [ck0, ck2] | simp only [ck1, ck2] | simp only [ck0] | simp only [ck1] | simp only [ck2] | skip); (repeat (first | rw [if_pos (by first | assumption | exact Int32.not_le.mp (by assumption) | exact Int32.not_lt.mp (by assumption) | omega)] | rw [if_neg (by first | assumption | exact Int32.not_lt.mpr (by assumption) | exact Int32.not_le.mpr (by assumption) | exact bne_of (by assumption) | exact not_not_intro (by assumption) | omega)])); first | done | rfl))
def oBestBath (z : Zs) (dn n : Nat) (p0 : Int32) : Oc := if pNo p0 n = true then (0, pBF z.1 n (cN p0) 3, z) else (1, 0, z)
theorem tX9_bestBath_o {l : Launch} {κ : KP} {M : Mem} {m sA tA nA : Nat} {th ap pt : Int32} {hs : Int64} {g tx nu : Nat → Int32} {kp : Bool} {sn ln dn n : Nat} (hD : rDis m sA tA nA) (hI : BI g dn n) (hsn : sn ≤ 6) (hln : ln ≤ 60)  {p0 : Int32} : fM l κ mX9_bestBath [.ref (m), .int (p0)] (RM M m sA tA nA (th) (nI (sn)) (bI (kp)) (nI (ln)) (ap) (pt) (hs) (g) (tx) (nu)) (rPost M m sA tA nA (oBestBath ⟨g, sn, kp, tx, ln⟩ dn n p0)) := by
  refine fM_of rfl (by decide +kernel) (Nat.le_of_ble_eq_true rfl) ?_
  have hn := hI.nle
  have hg := hI.n0
  have hdn := hI.dle
  have hg0 := hI.d0
  have hM := hI.mM
  have hB := hI.mB
  have h1 := hI.m1
  have hs0 := hI.s0
  show fR l κ mX9_bestBath 0 [(0, .ref (m)), (1, .int (p0))] [] (RM M m sA tA nA (th) (nI (sn)) (bI (kp)) (nI (ln)) (ap) (pt) (hs) (g) (tx) (nu)) 0 0 _
  refine r_aload_n dX9_bestBath_0 rfl ?_
  refine r_aload_n dX9_bestBath_1 rfl ?_
  refine r_iload_n dX9_bestBath_2 rfl ?_
  refine r_callV (As := [.int (p0)]) dX9_bestBath_3 (tX9_isSample2 hD hg) rfl RM_0 rfl rfl oX9_isSample rfl kX9_104M nX9_isSample eX9_isSample (by unfold fRoom; decide) (Nat.le_of_ble_eq_true rfl) rfl (bc' := 0) (bs' := 0) rfl rfl ?_
  show fR _ _ _ 6 _ (.int (bI (pNo (p0) n)) :: _) _ _ _ _
  refine r_if_eqB (tgt := 13) dX9_bestBath_6 (by decide) (fun c1 => ?_) (fun c1 => ?_)
  · skip
    refine r_iconst (v := nI 1) dX9_bestBath_13 (by decide) ?_
    refine r_callV (As := [.int (nI (1))]) dX9_bestBath_14 (tX9_holds_f hD (by omega) (by omega)) rfl RM_0 rfl rfl oX9_holds rfl kX9_94M nX9_holds eX9_holds (by unfold fRoom; decide) (Nat.le_of_ble_eq_true rfl) rfl (bc' := 0) (bs' := 0) rfl rfl ?_
    show fR _ _ _ 17 _ (.int (bI (false)) :: _) _ _ _ _
    refine r_if_eqB (tgt := 28) dX9_bestBath_17 (by decide) (fun c2 => ?_) (fun c2 => absurd c2 (by decide))
    refine r_iconst (v := nI 0) dX9_bestBath_28 (by decide) ?_
    exact fR_iret dX9_bestBath_29 rfl (rPost_of (t := 1) (kp := kp) (by unfold oBestBath; (first | simp only [ck0, ck1, ck2] | simp only [ck0, ck1] | simp only [ck0, ck2] | simp only [ck1, ck2] | simp only [ck0] | simp only [ck1] | simp only [ck2] | skip); (repeat (first | rw [if_pos (by first | assumption | exact Int32.not_le.mp (by assumption) | exact Int32.not_lt.mp (by assumption) | omega)] | rw [if_neg (by first | assumption | exact Int32.not_lt.mpr (by assumption) | exact Int32.not_le.mpr (by assumption) | exact bne_of (by assumption) | exact not_not_intro (by assumption) | omega)])); first | done | rfl))
  · skip
    obtain ⟨k0, hk0, ek0⟩ := pNo_t c1 (by omega)
    subst ek0
    have ck0 : cN (nI k0) = k0 := nI_clamp (by omega)
    refine r_iconst (v := nI 0) dX9_bestBath_9 (by decide) ?_
    refine r_goto (tgt := 14) dX9_bestBath_10 (by decide) ?_
    refine r_callV (As := [.int (nI (0))]) dX9_bestBath_14 (tX9_holds_t hD) rfl RM_0 rfl rfl oX9_holds rfl kX9_94M nX9_holds eX9_holds (by unfold fRoom; decide) (Nat.le_of_ble_eq_true rfl) rfl (bc' := 0) (bs' := 0) rfl rfl ?_
    show fR _ _ _ 17 _ (.int (bI (true)) :: _) _ _ _ _
    refine r_if_eqB (tgt := 28) dX9_bestBath_17 (by decide) (fun c3 => absurd c3 (by decide)) (fun c3 => ?_)
    refine r_aload_n dX9_bestBath_20 rfl ?_
    refine r_iload_n dX9_bestBath_21 rfl ?_
    refine r_callV (As := [.int (nI (k0))]) dX9_bestBath_22 (tX9_best hD hn hg (by omega)) rfl RM_0 rfl rfl oX9_best rfl kX9_207M nX9_best eX9_best (by unfold fRoom; decide) (Nat.le_of_ble_eq_true rfl) rfl (bc' := 0) (bs' := 0) rfl rfl ?_
    show fR _ _ _ 25 _ (.int (pBF (g) n (k0) 3) :: _) _ _ _ _
    refine r_goto (tgt := 29) dX9_bestBath_25 (by decide) ?_
    exact fR_iret dX9_bestBath_29 rfl (rPost_of (t := 0) (kp := kp) (by unfold oBestBath; (first | simp only [ck0, ck1, ck2] | simp only [ck0, ck1] | simp only [ck0, ck2] | simp only [ck1, ck2] | simp only [ck0] | simp only [ck1] | simp only [ck2] | skip); (repeat (first | rw [if_pos (by first | assumption | exact Int32.not_le.mp (by assumption) | exact Int32.not_lt.mp (by assumption) | omega)] | rw [if_neg (by first | assumption | exact Int32.not_lt.mpr (by assumption) | exact Int32.not_le.mpr (by assumption) | exact bne_of (by assumption) | exact not_not_intro (by assumption) | omega)])); first | done | rfl))
