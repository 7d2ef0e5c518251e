/-! THE LABORATORY MADE ANEW -/
def LC (M : Mem) (w : Nat → Nat) (d s n : Nat) : Prop :=
  M (w 0) = some (.inl (2, [.ref (w 1), .ref (w 2), .ref (w 3), .ref (w 4), .ref (w 5), .int 0, .int 0, .int 0, .int 0, .int (-1), .int (-1)])) ∧
  (∃ f, M (w 1) = some (.inr (3, 6, .inr (.inr (.inr (.inr f))))) ∧ ∀ i, i < d → f i = some (w (6 + i))) ∧
  (∃ f, M (w 2) = some (.inr (4, 8, .inr (.inr (.inr (.inr f))))) ∧ ∀ i, i < s → f i = some (w (12 + 2 * i))) ∧
  (∃ f, M (w 3) = some (.inr (5, 3, .inr (.inr (.inr (.inr f))))) ∧ ∀ i, i < n → f i = some (w (28 + i))) ∧
  M (w 4) = some (.inr (0, 3, .inl (fFirst 0))) ∧ M (w 5) = some (.inr (0, 3, .inl (fFirst 1))) ∧
  (∀ i, i < d → M (w (6 + i)) = some (.inl (0, [.int 0, .int 0, .int (-1)]))) ∧
  (∀ i, i < s → M (w (12 + 2 * i)) = some (.inl (6, [.int 0, .int 0, .int 0, .int (-1), .int (-1), .int 0, .ref (w (13 + 2 * i))])) ∧ M (w (13 + 2 * i)) = some (.inr (0, 36, .inl (fun _ => 0)))) ∧
  (∀ i, i < n → M (w (28 + i)) = some (.inl (3, [.int 0, .int 0, .int 0])))
section LCs
variable {M0 M M' : Mem} {w : Nat → Nat} {d s n q r K : Nat}
theorem LC.drum (h : LC M w d 0 0) (hE : Ex M0 M w (6 + d)) (hq : M q = none) {f : Nat → Option Nat} (hf : M (w 1) = some (.inr (3, 6, .inr (.inr (.inr (.inr f)))))) (hfv : ∀ i, i < d → f i = some (w (6 + i)))
    (e1 : M' q = some (.inl (0, [.int 0, .int 0, .int (-1)]))) (e2 : M' (w 1) = some (.inr (3, 6, .inr (.inr (.inr (.inr (va_up f d (some q)))))))) (ho : ∀ b, b ≠ q → b ≠ w 1 → M' b = M b) : Ex M0 M' (nw w (6 + d) q) (6 + d + 1) ∧ LC M' (nw w (6 + d) q) (d + 1) 0 0 := by
  have ha := hE.away hq
  have k : ∀ i, i < 6 + d → nw w (6 + d) q i = w i := fun i hi => nw_lt hi
  have m : ∀ i, i < 6 + d → i ≠ 1 → M' (w i) = M (w i) := fun i hi h1 => ho _ (ha i hi) (fun z => h1 (hE.1 i 1 hi (by omega) z))
  have hE' : Ex M0 M' (nw w (6 + d) q) (6 + d + 1) := by
    have x1 := hE.new (M' := fun b => if b = q then M' q else M b) (by omega) hq (by show (if q = q then _ else _) ≠ _; rw [if_pos rfl, e1]; exact fun z => by cases z) (fun b hb => if_neg hb)
    refine x1.set (i := 1) (by omega) ?_ ?_
    · rw [k 1 (by omega), e2]; exact fun z => by cases z
    · intro b hb
      rw [k 1 (by omega)] at hb
      show M' b = if b = q then M' q else M b
      by_cases c : b = q
      · rw [if_pos c, c]
      · rw [if_neg c]; exact ho b c hb
  obtain ⟨h0, -, ⟨f2, a2, b2⟩, ⟨f3, a3, b3⟩, h4, h5, h6, -, -⟩ := h
  refine ⟨hE', ?_, ⟨va_up f d (some q), ?_, ?_⟩, ⟨f2, ?_, fun i hi => by omega⟩, ⟨f3, ?_, fun i hi => by omega⟩, ?_, ?_, ?_, fun i hi => by omega, fun i hi => by omega⟩
  · rw [k 0 (by omega), k 1 (by omega), k 2 (by omega), k 3 (by omega), k 4 (by omega), k 5 (by omega)]; exact (m 0 (by omega) (by omega)).trans h0
  · rw [k 1 (by omega)]; exact e2
  · intro i hi
    by_cases c : i = d
    · subst c; rw [va_up_self, nw_eq]
    · rw [va_up_ne _ _ c, k _ (by omega)]; exact hfv i (by omega)
  · rw [k 2 (by omega)]; exact (m 2 (by omega) (by omega)).trans a2
  · rw [k 3 (by omega)]; exact (m 3 (by omega) (by omega)).trans a3
  · rw [k 4 (by omega)]; exact (m 4 (by omega) (by omega)).trans h4
  · rw [k 5 (by omega)]; exact (m 5 (by omega) (by omega)).trans h5
  · intro i hi
    by_cases c : i = d
    · subst c; rw [nw_eq]; exact e1
    · rw [k _ (by omega)]; exact (m _ (by omega) (by omega)).trans (h6 i (by omega))
theorem LC.spec (h : LC M w 6 s 0) (hE : Ex M0 M w (12 + 2 * s)) (hq : M q = none) (hr : M r = none) (hqr : q ≠ r) {f : Nat → Option Nat} (hf : M (w 2) = some (.inr (4, 8, .inr (.inr (.inr (.inr f)))))) (hfv : ∀ i, i < s → f i = some (w (12 + 2 * i)))
    (e1 : M' q = some (.inl (6, [.int 0, .int 0, .int 0, .int (-1), .int (-1), .int 0, .ref r]))) (e3 : M' r = some (.inr (0, 36, .inl (fun _ => 0)))) (e2 : M' (w 2) = some (.inr (4, 8, .inr (.inr (.inr (.inr (va_up f s (some q)))))))) (ho : ∀ b, b ≠ q → b ≠ r → b ≠ w 2 → M' b = M b) :
    Ex M0 M' (nw (nw w (12 + 2 * s) q) (12 + 2 * s + 1) r) (12 + 2 * s + 2) ∧ LC M' (nw (nw w (12 + 2 * s) q) (12 + 2 * s + 1) r) 6 (s + 1) 0 := by
  have ha := hE.away hq
  have hb := hE.away hr
  have k : ∀ i, i < 12 + 2 * s → nw (nw w (12 + 2 * s) q) (12 + 2 * s + 1) r i = w i := fun i hi => (nw_lt (by omega)).trans (nw_lt hi)
  have kq : nw (nw w (12 + 2 * s) q) (12 + 2 * s + 1) r (12 + 2 * s) = q := (nw_lt (by omega)).trans nw_eq
  have kr : nw (nw w (12 + 2 * s) q) (12 + 2 * s + 1) r (12 + 2 * s + 1) = r := nw_eq
  have m : ∀ i, i < 12 + 2 * s → i ≠ 2 → M' (w i) = M (w i) := fun i hi h1 => ho _ (ha i hi) (hb i hi) (fun z => h1 (hE.1 i 2 hi (by omega) z))
  have hE' : Ex M0 M' (nw (nw w (12 + 2 * s) q) (12 + 2 * s + 1) r) (12 + 2 * s + 2) := by
    have x1 := hE.new (M' := fun b => if b = q then M' q else M b) (by omega) hq (by show (if q = q then _ else _) ≠ _; rw [if_pos rfl, e1]; exact fun z => by cases z) (fun b hb => if_neg hb)
    have x2 := x1.new (q := r) (M' := fun b => if b = r then M' r else if b = q then M' q else M b) (by omega) ((if_neg hqr.symm).trans hr) (by show (if r = r then _ else _) ≠ _; rw [if_pos rfl, e3]; exact fun z => by cases z) (fun b hb => if_neg hb)
    refine x2.set (i := 2) (by omega) ?_ ?_
    · rw [k 2 (by omega), e2]; exact fun z => by cases z
    · intro b hb
      rw [k 2 (by omega)] at hb
      show M' b = if b = r then M' r else if b = q then M' q else M b
      by_cases c : b = r
      · rw [if_pos c, c]
      · rw [if_neg c]
        by_cases c2 : b = q
        · rw [if_pos c2, c2]
        · rw [if_neg c2]; exact ho b c2 c hb
  obtain ⟨h0, ⟨f1, a1, b1⟩, -, ⟨f3, a3, b3⟩, h4, h5, h6, h7, -⟩ := h
  refine ⟨hE', ?_, ⟨f1, ?_, ?_⟩, ⟨va_up f s (some q), ?_, ?_⟩, ⟨f3, ?_, fun i hi => by omega⟩, ?_, ?_, ?_, ?_, fun i hi => by omega⟩
  · rw [k 0 (by omega), k 1 (by omega), k 2 (by omega), k 3 (by omega), k 4 (by omega), k 5 (by omega)]; exact (m 0 (by omega) (by omega)).trans h0
  · rw [k 1 (by omega)]; exact (m 1 (by omega) (by omega)).trans a1
  · intro i hi; rw [k _ (by omega)]; exact b1 i hi
  · rw [k 2 (by omega)]; exact e2
  · intro i hi
    by_cases c : i = s
    · subst c; rw [va_up_self, kq]
    · rw [va_up_ne _ _ c, k _ (by omega)]; exact hfv i (by omega)
  · rw [k 3 (by omega)]; exact (m 3 (by omega) (by omega)).trans a3
  · rw [k 4 (by omega)]; exact (m 4 (by omega) (by omega)).trans h4
  · rw [k 5 (by omega)]; exact (m 5 (by omega) (by omega)).trans h5
  · intro i hi; rw [k _ (by omega)]; exact (m _ (by omega) (by omega)).trans (h6 i hi)
  · intro i hi
    by_cases c : i = s
    · subst c; rw [kq, show 13 + 2 * i = 12 + 2 * i + 1 by omega, kr]; exact ⟨e1, e3⟩
    · rw [k _ (by omega), k _ (by omega)]; exact ⟨(m _ (by omega) (by omega)).trans (h7 i (by omega)).1, (m _ (by omega) (by omega)).trans (h7 i (by omega)).2⟩
theorem LC.needle (h : LC M w 6 8 n) (hE : Ex M0 M w (28 + n)) (hq : M q = none) {f : Nat → Option Nat} (hf : M (w 3) = some (.inr (5, 3, .inr (.inr (.inr (.inr f)))))) (hfv : ∀ i, i < n → f i = some (w (28 + i)))
    (e1 : M' q = some (.inl (3, [.int 0, .int 0, .int 0]))) (e2 : M' (w 3) = some (.inr (5, 3, .inr (.inr (.inr (.inr (va_up f n (some q)))))))) (ho : ∀ b, b ≠ q → b ≠ w 3 → M' b = M b) : Ex M0 M' (nw w (28 + n) q) (28 + n + 1) ∧ LC M' (nw w (28 + n) q) 6 8 (n + 1) := by
  have ha := hE.away hq
  have k : ∀ i, i < 28 + n → nw w (28 + n) q i = w i := fun i hi => nw_lt hi
  have m : ∀ i, i < 28 + n → i ≠ 3 → M' (w i) = M (w i) := fun i hi h1 => ho _ (ha i hi) (fun z => h1 (hE.1 i 3 hi (by omega) z))
  have hE' : Ex M0 M' (nw w (28 + n) q) (28 + n + 1) := by
    have x1 := hE.new (M' := fun b => if b = q then M' q else M b) (by omega) hq (by show (if q = q then _ else _) ≠ _; rw [if_pos rfl, e1]; exact fun z => by cases z) (fun b hb => if_neg hb)
    refine x1.set (i := 3) (by omega) ?_ ?_
    · rw [k 3 (by omega), e2]; exact fun z => by cases z
    · intro b hb
      rw [k 3 (by omega)] at hb
      show M' b = if b = q then M' q else M b
      by_cases c : b = q
      · rw [if_pos c, c]
      · rw [if_neg c]; exact ho b c hb
  obtain ⟨h0, ⟨f1, a1, b1⟩, ⟨f2, a2, b2⟩, -, h4, h5, h6, h7, h8⟩ := h
  refine ⟨hE', ?_, ⟨f1, ?_, ?_⟩, ⟨f2, ?_, ?_⟩, ⟨va_up f n (some q), ?_, ?_⟩, ?_, ?_, ?_, ?_, ?_⟩
  · rw [k 0 (by omega), k 1 (by omega), k 2 (by omega), k 3 (by omega), k 4 (by omega), k 5 (by omega)]; exact (m 0 (by omega) (by omega)).trans h0
  · rw [k 1 (by omega)]; exact (m 1 (by omega) (by omega)).trans a1
  · intro i hi; rw [k _ (by omega)]; exact b1 i hi
  · rw [k 2 (by omega)]; exact (m 2 (by omega) (by omega)).trans a2
  · intro i hi; rw [k _ (by omega)]; exact b2 i hi
  · rw [k 3 (by omega)]; exact e2
  · intro i hi
    by_cases c : i = n
    · subst c; rw [va_up_self, nw_eq]
    · rw [va_up_ne _ _ c, k _ (by omega)]; exact hfv i (by omega)
  · rw [k 4 (by omega)]; exact (m 4 (by omega) (by omega)).trans h4
  · rw [k 5 (by omega)]; exact (m 5 (by omega) (by omega)).trans h5
  · intro i hi; rw [k _ (by omega)]; exact (m _ (by omega) (by omega)).trans (h6 i hi)
  · intro i hi; rw [k _ (by omega), k _ (by omega)]; exact ⟨(m _ (by omega) (by omega)).trans (h7 i hi).1, (m _ (by omega) (by omega)).trans (h7 i hi).2⟩
  · intro i hi
    by_cases c : i = n
    · subst c; rw [nw_eq]; exact e1
    · rw [k _ (by omega)]; exact (m _ (by omega) (by omega)).trans (h8 i (by omega))
end LCs
theorem kC_Drum : Cond.instantiable "BitumenNeedle$Drum" 3 ∈ lw_tbl := lw_of (i := 50) (by decide +kernel)
theorem kD_Drum : Cond.initialized "BitumenNeedle$Drum" ∈ lw_tbl := lw_of (i := 3) (by decide +kernel)
theorem kC_Spec : Cond.instantiable "BitumenNeedle$Specimen" 7 ∈ lw_tbl := lw_of (i := 71) (by decide +kernel)
theorem kD_Spec : Cond.initialized "BitumenNeedle$Specimen" ∈ lw_tbl := lw_of (i := 4) (by decide +kernel)
theorem kC_Need : Cond.instantiable "BitumenNeedle$Needle" 3 ∈ lw_tbl := lw_of (i := 104) (by decide +kernel)
theorem kD_Need : Cond.initialized "BitumenNeedle$Needle" ∈ lw_tbl := lw_of (i := 5) (by decide +kernel)
theorem le3 {P : Nat → Prop} (h0 : P 0) (h1 : P 1) (h2 : P 2) : ∀ j, j < 3 → P j
  | 0, _ => h0
  | 1, _ => h1
  | 2, _ => h2
  | j + 3, h => by omega
theorem le4 {P : Nat → Prop} (h0 : P 0) (h1 : P 1) (h2 : P 2) (h3 : P 3) : ∀ j, j < 4 → P j
  | 0, _ => h0
  | 1, _ => h1
  | 2, _ => h2
  | 3, _ => h3
  | j + 4, h => by omega
theorem le5 {P : Nat → Prop} (h0 : P 0) (h1 : P 1) (h2 : P 2) (h3 : P 3) (h4 : P 4) : ∀ j, j < 5 → P j
  | 0, _ => h0
  | 1, _ => h1
  | 2, _ => h2
  | 3, _ => h3
  | 4, _ => h4
  | j + 5, h => by omega
theorem le7 {P : Nat → Prop} (h0 : P 0) (h1 : P 1) (h2 : P 2) (h3 : P 3) (h4 : P 4) (h5 : P 5) (h6 : P 6) : ∀ j, j < 7 → P j
  | 0, _ => h0
  | 1, _ => h1
  | 2, _ => h2
  | 3, _ => h3
  | 4, _ => h4
  | 5, _ => h5
  | 6, _ => h6
  | j + 7, h => by omega
theorem le11 {P : Nat → Prop} (h0 : P 0) (h1 : P 1) (h2 : P 2) (h3 : P 3) (h4 : P 4) (h5 : P 5) (h6 : P 6) (h7 : P 7) (h8 : P 8) (h9 : P 9) (h10 : P 10) : ∀ j, j < 11 → P j
  | 0, _ => h0
  | 1, _ => h1
  | 2, _ => h2
  | 3, _ => h3
  | 4, _ => h4
  | 5, _ => h5
  | 6, _ => h6
  | 7, _ => h7
  | 8, _ => h8
  | 9, _ => h9
  | 10, _ => h10
  | j + 11, h => by omega
theorem lX2_i1 {l : Launch} {κ : KP} {M0 : Mem} {a : Nat} {P : FPost} (kk : ∀ (M : Mem) (w : Nat → Nat), w 0 = a → Ex M0 M w (12) → LC M w 6 0 0 → fR l κ mX2_init 93 [(1, .int (nI 6)), (0, .ref a)] [] M 19 353 P) : ∀ (N d : Nat) (M : Mem) (w : Nat → Nat), d + N = 6 → w 0 = a → Ex M0 M w (6 + d) → LC M w d 0 0 → fR l κ mX2_init 68 [(1, .int (nI d)), (0, .ref a)] [] M (19 + N) (353 + 3 * N) P := by
  intro N
  induction N with
  | zero =>
    intro d M w h1 hw hE hL
    have hd : d = 6 := by omega
    subst hd
    refine r_iload_n dX2_init_68 rfl ?_
    refine r_bipush (v := nI 6) dX2_init_69 (by decide) ?_
    refine r_icmp_geN (tgt := 93) dX2_init_71 (by decide) (by omega) (by omega) (fun c1 => ?_) (fun c1 => absurd c1 (by omega))
    exact kk M w hw hE hL
  | succ N ih =>
    intro d M w h1 hw hE hL
    refine r_iload_n dX2_init_68 rfl ?_
    refine r_bipush (v := nI 6) dX2_init_69 (by decide) ?_
    refine r_icmp_geN (tgt := 93) dX2_init_71 (by decide) (by omega) (by omega) (fun c1 => absurd c1 (by omega)) (fun c1 => ?_)
    refine r_aload_n dX2_init_74 rfl ?_
    have hob : M a = some (.inl (2, [.ref (w 1), .ref (w 2), .ref (w 3), .ref (w 4), .ref (w 5), .int 0, .int 0, .int 0, .int 0, .int (-1), .int (-1)])) := by rw [← hw]; exact hL.1
    refine r_get (k := 0) dX2_init_75 hob rfl rfl (by decide) kX2_11F ?_
    refine r_iload_n dX2_init_78 rfl ?_
    refine r_new (ci := 0) (fs := [.int 0, .int 0, .int 0]) (bc' := 19 + N) (bs' := 353 + 3 * N) dX2_init_79 rfl kX2_9C kC_Drum kD_Drum (le3 rfl rfl rfl) (by omega) (by omega) (fun q hq => ?_)
    refine r_dup dX2_init_82 rfl ?_
    refine r_callINP (As := []) dX2_init_83 (tX0_init fup_eq) rfl oX0_init rfl rfl rfl kX2_54M nX0_init ⟨by decide, by decide, Nat.zero_le _, Nat.zero_le _⟩ (Nat.le_of_ble_eq_true rfl) rfl rfl (fun E M9 h => by cases h.1) (fun v M9 hv => ?_)
    obtain ⟨hv1, hv2⟩ := hv
    cases hv1
    subst hv2
    show fR _ _ _ 86 _ (.ref q :: .int (nI d) :: .ref (w 1) :: []) _ _ _ _
    obtain ⟨f, hf, hfv⟩ := hL.2.1
    have h1q := hE.away hq 1 (by omega)
    refine r_astqN dX2_init_86 ((fup_ne h1q).trans ((fup_ne h1q).trans hf)) fup_eq rfl rfl (by omega) (by decide) ?_
    obtain ⟨hE2, hL2⟩ := LC.drum (M' := fup (fup (fup M q (.inl (0, [.int 0, .int 0, .int 0]))) q (.inl (0, [.int 0, .int 0, .int (-1)]))) (w 1) (.inr (3, 6, .inr (.inr (.inr (.inr (va_up f d (some q)))))))) hL hE hq hf hfv ((fup_ne h1q.symm).trans fup_eq) fup_eq (fun b b1 b2 => (fup_ne b2).trans ((fup_ne b1).trans (fup_ne b1)))
    refine r_iinc (v := nI (d + 1)) (lv' := [(1, .int (nI (d + 1))), (0, .ref a)]) dX2_init_87 rfl (nI_inc _) (by decide) rfl ?_
    refine r_goto (tgt := 68) dX2_init_90 (by decide) ?_
    exact ih (d + 1) _ _ (by omega) ((nw_lt (by omega)).trans hw) hE2 hL2
theorem lX2_i2 {l : Launch} {κ : KP} {M0 : Mem} {a : Nat} {P : FPost} (kk : ∀ (M : Mem) (w : Nat → Nat), w 0 = a → Ex M0 M w (28) → LC M w 6 8 0 → fR l κ mX2_init 120 [(1, .int (nI 8)), (0, .ref a)] [] M 3 9 P) : ∀ (N d : Nat) (M : Mem) (w : Nat → Nat), d + N = 8 → w 0 = a → Ex M0 M w (12 + 2 * d) → LC M w 6 d 0 → fR l κ mX2_init 95 [(1, .int (nI d)), (0, .ref a)] [] M (3 + 2 * N) (9 + 43 * N) P := by
  intro N
  induction N with
  | zero =>
    intro d M w h1 hw hE hL
    have hd : d = 8 := by omega
    subst hd
    refine r_iload_n dX2_init_95 rfl ?_
    refine r_bipush (v := nI 8) dX2_init_96 (by decide) ?_
    refine r_icmp_geN (tgt := 120) dX2_init_98 (by decide) (by omega) (by omega) (fun c1 => ?_) (fun c1 => absurd c1 (by omega))
    exact kk M w hw hE hL
  | succ N ih =>
    intro d M w h1 hw hE hL
    refine r_iload_n dX2_init_95 rfl ?_
    refine r_bipush (v := nI 8) dX2_init_96 (by decide) ?_
    refine r_icmp_geN (tgt := 120) dX2_init_98 (by decide) (by omega) (by omega) (fun c1 => absurd c1 (by omega)) (fun c1 => ?_)
    refine r_aload_n dX2_init_101 rfl ?_
    have hob : M a = some (.inl (2, [.ref (w 1), .ref (w 2), .ref (w 3), .ref (w 4), .ref (w 5), .int 0, .int 0, .int 0, .int 0, .int (-1), .int (-1)])) := by rw [← hw]; exact hL.1
    refine r_get (k := 1) dX2_init_102 hob rfl rfl (by decide) kX2_19F ?_
    refine r_iload_n dX2_init_105 rfl ?_
    refine r_new (ci := 6) (fs := [.int 0, .int 0, .int 0, .int 0, .int 0, .int 0, .null]) (bc' := 3 + 2 * N + 1) (bs' := 9 + 43 * N + 36) dX2_init_106 rfl kX2_17C kC_Spec kD_Spec (le7 rfl rfl rfl rfl rfl rfl rfl) (by omega) (by omega) (fun q hq => ?_)
    refine r_dup dX2_init_109 rfl ?_
    refine r_callINP (As := []) dX2_init_110 (tX6_init fup_eq) rfl oX6_init rfl rfl rfl kX2_55M nX6_init ⟨by decide, by decide, show 1 ≤ _ by omega, show 36 ≤ _ by omega⟩ (Nat.le_of_ble_eq_true rfl) (bc' := 3 + 2 * N) (bs' := 9 + 43 * N) rfl rfl (fun E M9 h => by cases h.1) (fun v M9 hv => ?_)
    obtain ⟨hv1, r, hr, hv2, hv3, hv4⟩ := hv
    cases hv1
    show fR _ _ _ 113 _ (.ref q :: .int (nI d) :: .ref (w 2) :: []) _ _ _ _
    have hqr : q ≠ r := nn_ne fup_eq hr
    have hr0 : M r = none := (fup_ne hqr.symm).symm.trans hr
    obtain ⟨f, hf, hfv⟩ := hL.2.2.1
    have h1q := hE.away hq 2 (by omega)
    have h1r := hE.away hr0 2 (by omega)
    refine r_astqN dX2_init_113 ((hv4 _ h1q h1r).trans ((fup_ne h1q).trans hf)) hv2 rfl rfl (by omega) (by decide) ?_
    obtain ⟨hE2, hL2⟩ := LC.spec (M' := fup M9 (w 2) (.inr (4, 8, .inr (.inr (.inr (.inr (va_up f d (some q)))))))) hL hE hq hr0 hqr hf hfv ((fup_ne h1q.symm).trans hv2) ((fup_ne h1r.symm).trans hv3) fup_eq (fun b b1 b2 b3 => (fup_ne b3).trans ((hv4 b b1 b2).trans (fup_ne b1)))
    refine r_iinc (v := nI (d + 1)) (lv' := [(1, .int (nI (d + 1))), (0, .ref a)]) dX2_init_114 rfl (nI_inc _) (by decide) rfl ?_
    refine r_goto (tgt := 95) dX2_init_117 (by decide) ?_
    exact ih (d + 1) _ _ (by omega) ((nw_lt (by omega)).trans ((nw_lt (by omega)).trans hw)) hE2 hL2
theorem lX2_i3 {l : Launch} {κ : KP} {M0 : Mem} {a : Nat} {P : FPost} (kk : ∀ (M : Mem) (w : Nat → Nat), w 0 = a → Ex M0 M w (31) → LC M w 6 8 3 → fR l κ mX2_init 146 [(1, .int (nI 3)), (0, .ref a)] [] M 0 0 P) : ∀ (N d : Nat) (M : Mem) (w : Nat → Nat), d + N = 3 → w 0 = a → Ex M0 M w (28 + d) → LC M w 6 8 d → fR l κ mX2_init 122 [(1, .int (nI d)), (0, .ref a)] [] M (0 + N) (0 + 3 * N) P := by
  intro N
  induction N with
  | zero =>
    intro d M w h1 hw hE hL
    have hd : d = 3 := by omega
    subst hd
    refine r_iload_n dX2_init_122 rfl ?_
    refine r_iconst (v := nI 3) dX2_init_123 (by decide) ?_
    refine r_icmp_geN (tgt := 146) dX2_init_124 (by decide) (by omega) (by omega) (fun c1 => ?_) (fun c1 => absurd c1 (by omega))
    exact kk M w hw hE hL
  | succ N ih =>
    intro d M w h1 hw hE hL
    refine r_iload_n dX2_init_122 rfl ?_
    refine r_iconst (v := nI 3) dX2_init_123 (by decide) ?_
    refine r_icmp_geN (tgt := 146) dX2_init_124 (by decide) (by omega) (by omega) (fun c1 => absurd c1 (by omega)) (fun c1 => ?_)
    refine r_aload_n dX2_init_127 rfl ?_
    have hob : M a = some (.inl (2, [.ref (w 1), .ref (w 2), .ref (w 3), .ref (w 4), .ref (w 5), .int 0, .int 0, .int 0, .int 0, .int (-1), .int (-1)])) := by rw [← hw]; exact hL.1
    refine r_get (k := 2) dX2_init_128 hob rfl rfl (by decide) kX2_25F ?_
    refine r_iload_n dX2_init_131 rfl ?_
    refine r_new (ci := 3) (fs := [.int 0, .int 0, .int 0]) (bc' := 0 + N) (bs' := 0 + 3 * N) dX2_init_132 rfl kX2_23C kC_Need kD_Need (le3 rfl rfl rfl) (by omega) (by omega) (fun q hq => ?_)
    refine r_dup dX2_init_135 rfl ?_
    refine r_callINP (As := []) dX2_init_136 tX3_init rfl oX3_init rfl rfl rfl kX2_56M nX3_init ⟨by decide, by decide, Nat.zero_le _, Nat.zero_le _⟩ (Nat.le_of_ble_eq_true rfl) rfl rfl (fun E M9 h => by cases h.1) (fun v M9 hv => ?_)
    obtain ⟨hv1, hv2⟩ := hv
    cases hv1
    subst hv2
    show fR _ _ _ 139 _ (.ref q :: .int (nI d) :: .ref (w 3) :: []) _ _ _ _
    obtain ⟨f, hf, hfv⟩ := hL.2.2.2.1
    have h1q := hE.away hq 3 (by omega)
    refine r_astqN dX2_init_139 ((fup_ne h1q).trans hf) fup_eq rfl rfl (by omega) (by decide) ?_
    obtain ⟨hE2, hL2⟩ := LC.needle (M' := fup (fup M q (.inl (3, [.int 0, .int 0, .int 0]))) (w 3) (.inr (5, 3, .inr (.inr (.inr (.inr (va_up f d (some q)))))))) hL hE hq hf hfv ((fup_ne h1q.symm).trans fup_eq) fup_eq (fun b b1 b2 => (fup_ne b2).trans (fup_ne b1))
    refine r_iinc (v := nI (d + 1)) (lv' := [(1, .int (nI (d + 1))), (0, .ref a)]) dX2_init_140 rfl (nI_inc _) (by decide) rfl ?_
    refine r_goto (tgt := 122) dX2_init_143 (by decide) ?_
    exact ih (d + 1) _ _ (by omega) ((nw_lt (by omega)).trans hw) hE2 hL2
theorem tX2_init {l : Launch} {κ : KP} {M : Mem} {a : Nat} (ha : M a = some (.inl (2, [.null, .null, .null, .null, .null, .int 0, .int 0, .int 0, .int 0, .int 0, .int 0]))) : fM l κ mX2_init [.ref a] M (fun o M' => o = .inl none ∧ ∃ w, w 0 = a ∧ Ex M M' w 31 ∧ LC M' w 6 8 3) := by
  refine fM_of rfl (by decide +kernel) (Nat.le_of_ble_eq_true rfl) ?_
  show fR l κ mX2_init 0 [(0, .ref a)] [] M 30 394 _
  have e0 : Ex M M (fun _ => a) 1 := Ex.one (by rw [ha]; exact fun z => by cases z)
  refine r_aload_n dX2_init_0 rfl ?_
  refine r_objInit dX2_init_1 kX2_3M kJ_objI kJ_objC (by decide) (by decide) ?_
  refine r_aload_n dX2_init_4 rfl ?_
  refine r_bipush (v := nI 6) dX2_init_5 (by decide) ?_
  refine r_newq (t := 3) (N := 6) (bc' := 29) (bs' := 388) dX2_init_7 kX2_9C (by decide) rfl (by decide) (by decide) (by decide) rfl rfl (fun q1 hq1 => ?_)
  have n_a_q1 := nn_ne ha hq1
  have f1_a := (fup_ne (c := (.inr (3, 6, .inr (.inr (.inr (.inr (fun _ => none))))))) n_a_q1).trans ha
  have f1_q1 : (fup M q1 (.inr (3, 6, .inr (.inr (.inr (.inr (fun _ => none))))))) q1 = some (.inr (3, 6, .inr (.inr (.inr (.inr (fun _ => none)))))) := fup_eq
  have e1a := e0.new (M' := (fup M q1 (.inr (3, 6, .inr (.inr (.inr (.inr (fun _ => none)))))))) (by omega) hq1 (by rw [f1_q1]; exact fun z => by cases z) (fun b hb => fup_ne hb)
  refine r_putF (k := 0) (fs' := [.ref q1, .null, .null, .null, .null, .int 0, .int 0, .int 0, .int 0, .int 0, .int 0]) dX2_init_10 f1_a rfl (by decide) kX2_11F rfl rfl rfl rfl rfl (Nat.le_of_ble_eq_true rfl) rfl ?_
  have f2_q1 := (fup_ne (c := (.inl (2, [.ref q1, .null, .null, .null, .null, .int 0, .int 0, .int 0, .int 0, .int 0, .int 0]))) n_a_q1.symm).trans f1_q1
  have f2_a : (fup (fup M q1 (.inr (3, 6, .inr (.inr (.inr (.inr (fun _ => none))))))) a (.inl (2, [.ref q1, .null, .null, .null, .null, .int 0, .int 0, .int 0, .int 0, .int 0, .int 0]))) a = some (.inl (2, [.ref q1, .null, .null, .null, .null, .int 0, .int 0, .int 0, .int 0, .int 0, .int 0])) := fup_eq
  have e1b := e1a.set (i := 0) (M' := (fup (fup M q1 (.inr (3, 6, .inr (.inr (.inr (.inr (fun _ => none))))))) a (.inl (2, [.ref q1, .null, .null, .null, .null, .int 0, .int 0, .int 0, .int 0, .int 0, .int 0])))) (by omega) (by show (fup (fup M q1 (.inr (3, 6, .inr (.inr (.inr (.inr (fun _ => none))))))) a (.inl (2, [.ref q1, .null, .null, .null, .null, .int 0, .int 0, .int 0, .int 0, .int 0, .int 0]))) a ≠ none; rw [f2_a]; exact fun z => by cases z) (fun b hb => fup_ne hb)
  refine r_aload_n dX2_init_13 rfl ?_
  refine r_bipush (v := nI 8) dX2_init_14 (by decide) ?_
  refine r_newq (t := 4) (N := 8) (bc' := 28) (bs' := 380) dX2_init_16 kX2_17C (by decide) rfl (by decide) (by decide) (by decide) rfl rfl (fun q2 hq2 => ?_)
  have n_a_q2 := nn_ne f2_a hq2
  have n_q1_q2 := nn_ne f2_q1 hq2
  have f3_a := (fup_ne (c := (.inr (4, 8, .inr (.inr (.inr (.inr (fun _ => none))))))) n_a_q2).trans f2_a
  have f3_q1 := (fup_ne (c := (.inr (4, 8, .inr (.inr (.inr (.inr (fun _ => none))))))) n_q1_q2).trans f2_q1
  have f3_q2 : (fup (fup (fup M q1 (.inr (3, 6, .inr (.inr (.inr (.inr (fun _ => none))))))) a (.inl (2, [.ref q1, .null, .null, .null, .null, .int 0, .int 0, .int 0, .int 0, .int 0, .int 0]))) q2 (.inr (4, 8, .inr (.inr (.inr (.inr (fun _ => none))))))) q2 = some (.inr (4, 8, .inr (.inr (.inr (.inr (fun _ => none)))))) := fup_eq
  have e2a := e1b.new (M' := (fup (fup (fup M q1 (.inr (3, 6, .inr (.inr (.inr (.inr (fun _ => none))))))) a (.inl (2, [.ref q1, .null, .null, .null, .null, .int 0, .int 0, .int 0, .int 0, .int 0, .int 0]))) q2 (.inr (4, 8, .inr (.inr (.inr (.inr (fun _ => none)))))))) (by omega) hq2 (by rw [f3_q2]; exact fun z => by cases z) (fun b hb => fup_ne hb)
  refine r_putF (k := 1) (fs' := [.ref q1, .ref q2, .null, .null, .null, .int 0, .int 0, .int 0, .int 0, .int 0, .int 0]) dX2_init_19 f3_a rfl (by decide) kX2_19F rfl rfl rfl rfl rfl (Nat.le_of_ble_eq_true rfl) rfl ?_
  have f4_q1 := (fup_ne (c := (.inl (2, [.ref q1, .ref q2, .null, .null, .null, .int 0, .int 0, .int 0, .int 0, .int 0, .int 0]))) n_a_q1.symm).trans f3_q1
  have f4_q2 := (fup_ne (c := (.inl (2, [.ref q1, .ref q2, .null, .null, .null, .int 0, .int 0, .int 0, .int 0, .int 0, .int 0]))) n_a_q2.symm).trans f3_q2
  have f4_a : (fup (fup (fup (fup M q1 (.inr (3, 6, .inr (.inr (.inr (.inr (fun _ => none))))))) a (.inl (2, [.ref q1, .null, .null, .null, .null, .int 0, .int 0, .int 0, .int 0, .int 0, .int 0]))) q2 (.inr (4, 8, .inr (.inr (.inr (.inr (fun _ => none))))))) a (.inl (2, [.ref q1, .ref q2, .null, .null, .null, .int 0, .int 0, .int 0, .int 0, .int 0, .int 0]))) a = some (.inl (2, [.ref q1, .ref q2, .null, .null, .null, .int 0, .int 0, .int 0, .int 0, .int 0, .int 0])) := fup_eq
  have e2b := e2a.set (i := 0) (M' := (fup (fup (fup (fup M q1 (.inr (3, 6, .inr (.inr (.inr (.inr (fun _ => none))))))) a (.inl (2, [.ref q1, .null, .null, .null, .null, .int 0, .int 0, .int 0, .int 0, .int 0, .int 0]))) q2 (.inr (4, 8, .inr (.inr (.inr (.inr (fun _ => none))))))) a (.inl (2, [.ref q1, .ref q2, .null, .null, .null, .int 0, .int 0, .int 0, .int 0, .int 0, .int 0])))) (by omega) (by show (fup (fup (fup (fup M q1 (.inr (3, 6, .inr (.inr (.inr (.inr (fun _ => none))))))) a (.inl (2, [.ref q1, .null, .null, .null, .null, .int 0, .int 0, .int 0, .int 0, .int 0, .int 0]))) q2 (.inr (4, 8, .inr (.inr (.inr (.inr (fun _ => none))))))) a (.inl (2, [.ref q1, .ref q2, .null, .null, .null, .int 0, .int 0, .int 0, .int 0, .int 0, .int 0]))) a ≠ none; rw [f4_a]; exact fun z => by cases z) (fun b hb => fup_ne hb)
  refine r_aload_n dX2_init_22 rfl ?_
  refine r_iconst (v := nI 3) dX2_init_23 (by decide) ?_
  refine r_newq (t := 5) (N := 3) (bc' := 27) (bs' := 377) dX2_init_24 kX2_23C (by decide) rfl (by decide) (by decide) (by decide) rfl rfl (fun q3 hq3 => ?_)
  have n_a_q3 := nn_ne f4_a hq3
  have n_q1_q3 := nn_ne f4_q1 hq3
  have n_q2_q3 := nn_ne f4_q2 hq3
  have f5_a := (fup_ne (c := (.inr (5, 3, .inr (.inr (.inr (.inr (fun _ => none))))))) n_a_q3).trans f4_a
  have f5_q1 := (fup_ne (c := (.inr (5, 3, .inr (.inr (.inr (.inr (fun _ => none))))))) n_q1_q3).trans f4_q1
  have f5_q2 := (fup_ne (c := (.inr (5, 3, .inr (.inr (.inr (.inr (fun _ => none))))))) n_q2_q3).trans f4_q2
  have f5_q3 : (fup (fup (fup (fup (fup M q1 (.inr (3, 6, .inr (.inr (.inr (.inr (fun _ => none))))))) a (.inl (2, [.ref q1, .null, .null, .null, .null, .int 0, .int 0, .int 0, .int 0, .int 0, .int 0]))) q2 (.inr (4, 8, .inr (.inr (.inr (.inr (fun _ => none))))))) a (.inl (2, [.ref q1, .ref q2, .null, .null, .null, .int 0, .int 0, .int 0, .int 0, .int 0, .int 0]))) q3 (.inr (5, 3, .inr (.inr (.inr (.inr (fun _ => none))))))) q3 = some (.inr (5, 3, .inr (.inr (.inr (.inr (fun _ => none)))))) := fup_eq
  have e3a := e2b.new (M' := (fup (fup (fup (fup (fup M q1 (.inr (3, 6, .inr (.inr (.inr (.inr (fun _ => none))))))) a (.inl (2, [.ref q1, .null, .null, .null, .null, .int 0, .int 0, .int 0, .int 0, .int 0, .int 0]))) q2 (.inr (4, 8, .inr (.inr (.inr (.inr (fun _ => none))))))) a (.inl (2, [.ref q1, .ref q2, .null, .null, .null, .int 0, .int 0, .int 0, .int 0, .int 0, .int 0]))) q3 (.inr (5, 3, .inr (.inr (.inr (.inr (fun _ => none)))))))) (by omega) hq3 (by rw [f5_q3]; exact fun z => by cases z) (fun b hb => fup_ne hb)
  refine r_putF (k := 2) (fs' := [.ref q1, .ref q2, .ref q3, .null, .null, .int 0, .int 0, .int 0, .int 0, .int 0, .int 0]) dX2_init_27 f5_a rfl (by decide) kX2_25F rfl rfl rfl rfl rfl (Nat.le_of_ble_eq_true rfl) rfl ?_
  have f6_q1 := (fup_ne (c := (.inl (2, [.ref q1, .ref q2, .ref q3, .null, .null, .int 0, .int 0, .int 0, .int 0, .int 0, .int 0]))) n_a_q1.symm).trans f5_q1
  have f6_q2 := (fup_ne (c := (.inl (2, [.ref q1, .ref q2, .ref q3, .null, .null, .int 0, .int 0, .int 0, .int 0, .int 0, .int 0]))) n_a_q2.symm).trans f5_q2
  have f6_q3 := (fup_ne (c := (.inl (2, [.ref q1, .ref q2, .ref q3, .null, .null, .int 0, .int 0, .int 0, .int 0, .int 0, .int 0]))) n_a_q3.symm).trans f5_q3
  have f6_a : (fup (fup (fup (fup (fup (fup M q1 (.inr (3, 6, .inr (.inr (.inr (.inr (fun _ => none))))))) a (.inl (2, [.ref q1, .null, .null, .null, .null, .int 0, .int 0, .int 0, .int 0, .int 0, .int 0]))) q2 (.inr (4, 8, .inr (.inr (.inr (.inr (fun _ => none))))))) a (.inl (2, [.ref q1, .ref q2, .null, .null, .null, .int 0, .int 0, .int 0, .int 0, .int 0, .int 0]))) q3 (.inr (5, 3, .inr (.inr (.inr (.inr (fun _ => none))))))) a (.inl (2, [.ref q1, .ref q2, .ref q3, .null, .null, .int 0, .int 0, .int 0, .int 0, .int 0, .int 0]))) a = some (.inl (2, [.ref q1, .ref q2, .ref q3, .null, .null, .int 0, .int 0, .int 0, .int 0, .int 0, .int 0])) := fup_eq
  have e3b := e3a.set (i := 0) (M' := (fup (fup (fup (fup (fup (fup M q1 (.inr (3, 6, .inr (.inr (.inr (.inr (fun _ => none))))))) a (.inl (2, [.ref q1, .null, .null, .null, .null, .int 0, .int 0, .int 0, .int 0, .int 0, .int 0]))) q2 (.inr (4, 8, .inr (.inr (.inr (.inr (fun _ => none))))))) a (.inl (2, [.ref q1, .ref q2, .null, .null, .null, .int 0, .int 0, .int 0, .int 0, .int 0, .int 0]))) q3 (.inr (5, 3, .inr (.inr (.inr (.inr (fun _ => none))))))) a (.inl (2, [.ref q1, .ref q2, .ref q3, .null, .null, .int 0, .int 0, .int 0, .int 0, .int 0, .int 0])))) (by omega) (by show (fup (fup (fup (fup (fup (fup M q1 (.inr (3, 6, .inr (.inr (.inr (.inr (fun _ => none))))))) a (.inl (2, [.ref q1, .null, .null, .null, .null, .int 0, .int 0, .int 0, .int 0, .int 0, .int 0]))) q2 (.inr (4, 8, .inr (.inr (.inr (.inr (fun _ => none))))))) a (.inl (2, [.ref q1, .ref q2, .null, .null, .null, .int 0, .int 0, .int 0, .int 0, .int 0, .int 0]))) q3 (.inr (5, 3, .inr (.inr (.inr (.inr (fun _ => none))))))) a (.inl (2, [.ref q1, .ref q2, .ref q3, .null, .null, .int 0, .int 0, .int 0, .int 0, .int 0, .int 0]))) a ≠ none; rw [f6_a]; exact fun z => by cases z) (fun b hb => fup_ne hb)
  refine r_aload_n dX2_init_30 rfl ?_
  refine r_gets0 dX2_init_31 kX2_29F ?_
  refine r_clone (j := 0) (bc' := 26) (bs' := 374) (by omega) dX2_init_34 kX2_33M (by decide) (Nat.le_of_ble_eq_true rfl) rfl rfl (fun q4 hq4 => ?_)
  have n_a_q4 := nn_ne f6_a hq4
  have n_q1_q4 := nn_ne f6_q1 hq4
  have n_q2_q4 := nn_ne f6_q2 hq4
  have n_q3_q4 := nn_ne f6_q3 hq4
  have f7_a := (fup_ne (c := (.inr (0, 3, .inl (fFirst 0)))) n_a_q4).trans f6_a
  have f7_q1 := (fup_ne (c := (.inr (0, 3, .inl (fFirst 0)))) n_q1_q4).trans f6_q1
  have f7_q2 := (fup_ne (c := (.inr (0, 3, .inl (fFirst 0)))) n_q2_q4).trans f6_q2
  have f7_q3 := (fup_ne (c := (.inr (0, 3, .inl (fFirst 0)))) n_q3_q4).trans f6_q3
  have f7_q4 : (fup (fup (fup (fup (fup (fup (fup M q1 (.inr (3, 6, .inr (.inr (.inr (.inr (fun _ => none))))))) a (.inl (2, [.ref q1, .null, .null, .null, .null, .int 0, .int 0, .int 0, .int 0, .int 0, .int 0]))) q2 (.inr (4, 8, .inr (.inr (.inr (.inr (fun _ => none))))))) a (.inl (2, [.ref q1, .ref q2, .null, .null, .null, .int 0, .int 0, .int 0, .int 0, .int 0, .int 0]))) q3 (.inr (5, 3, .inr (.inr (.inr (.inr (fun _ => none))))))) a (.inl (2, [.ref q1, .ref q2, .ref q3, .null, .null, .int 0, .int 0, .int 0, .int 0, .int 0, .int 0]))) q4 (.inr (0, 3, .inl (fFirst 0)))) q4 = some (.inr (0, 3, .inl (fFirst 0))) := fup_eq
  have e4a := e3b.new (M' := (fup (fup (fup (fup (fup (fup (fup M q1 (.inr (3, 6, .inr (.inr (.inr (.inr (fun _ => none))))))) a (.inl (2, [.ref q1, .null, .null, .null, .null, .int 0, .int 0, .int 0, .int 0, .int 0, .int 0]))) q2 (.inr (4, 8, .inr (.inr (.inr (.inr (fun _ => none))))))) a (.inl (2, [.ref q1, .ref q2, .null, .null, .null, .int 0, .int 0, .int 0, .int 0, .int 0, .int 0]))) q3 (.inr (5, 3, .inr (.inr (.inr (.inr (fun _ => none))))))) a (.inl (2, [.ref q1, .ref q2, .ref q3, .null, .null, .int 0, .int 0, .int 0, .int 0, .int 0, .int 0]))) q4 (.inr (0, 3, .inl (fFirst 0))))) (by omega) hq4 (by rw [f7_q4]; exact fun z => by cases z) (fun b hb => fup_ne hb)
  refine r_ccast dX2_init_37 kX2_34C f7_q4 ?_
  refine r_putF (k := 3) (fs' := [.ref q1, .ref q2, .ref q3, .ref q4, .null, .int 0, .int 0, .int 0, .int 0, .int 0, .int 0]) dX2_init_40 f7_a rfl (by decide) kX2_38F rfl rfl rfl rfl rfl (Nat.le_of_ble_eq_true rfl) rfl ?_
  have f8_q1 := (fup_ne (c := (.inl (2, [.ref q1, .ref q2, .ref q3, .ref q4, .null, .int 0, .int 0, .int 0, .int 0, .int 0, .int 0]))) n_a_q1.symm).trans f7_q1
  have f8_q2 := (fup_ne (c := (.inl (2, [.ref q1, .ref q2, .ref q3, .ref q4, .null, .int 0, .int 0, .int 0, .int 0, .int 0, .int 0]))) n_a_q2.symm).trans f7_q2
  have f8_q3 := (fup_ne (c := (.inl (2, [.ref q1, .ref q2, .ref q3, .ref q4, .null, .int 0, .int 0, .int 0, .int 0, .int 0, .int 0]))) n_a_q3.symm).trans f7_q3
  have f8_q4 := (fup_ne (c := (.inl (2, [.ref q1, .ref q2, .ref q3, .ref q4, .null, .int 0, .int 0, .int 0, .int 0, .int 0, .int 0]))) n_a_q4.symm).trans f7_q4
  have f8_a : (fup (fup (fup (fup (fup (fup (fup (fup M q1 (.inr (3, 6, .inr (.inr (.inr (.inr (fun _ => none))))))) a (.inl (2, [.ref q1, .null, .null, .null, .null, .int 0, .int 0, .int 0, .int 0, .int 0, .int 0]))) q2 (.inr (4, 8, .inr (.inr (.inr (.inr (fun _ => none))))))) a (.inl (2, [.ref q1, .ref q2, .null, .null, .null, .int 0, .int 0, .int 0, .int 0, .int 0, .int 0]))) q3 (.inr (5, 3, .inr (.inr (.inr (.inr (fun _ => none))))))) a (.inl (2, [.ref q1, .ref q2, .ref q3, .null, .null, .int 0, .int 0, .int 0, .int 0, .int 0, .int 0]))) q4 (.inr (0, 3, .inl (fFirst 0)))) a (.inl (2, [.ref q1, .ref q2, .ref q3, .ref q4, .null, .int 0, .int 0, .int 0, .int 0, .int 0, .int 0]))) a = some (.inl (2, [.ref q1, .ref q2, .ref q3, .ref q4, .null, .int 0, .int 0, .int 0, .int 0, .int 0, .int 0])) := fup_eq
  have e4b := e4a.set (i := 0) (M' := (fup (fup (fup (fup (fup (fup (fup (fup M q1 (.inr (3, 6, .inr (.inr (.inr (.inr (fun _ => none))))))) a (.inl (2, [.ref q1, .null, .null, .null, .null, .int 0, .int 0, .int 0, .int 0, .int 0, .int 0]))) q2 (.inr (4, 8, .inr (.inr (.inr (.inr (fun _ => none))))))) a (.inl (2, [.ref q1, .ref q2, .null, .null, .null, .int 0, .int 0, .int 0, .int 0, .int 0, .int 0]))) q3 (.inr (5, 3, .inr (.inr (.inr (.inr (fun _ => none))))))) a (.inl (2, [.ref q1, .ref q2, .ref q3, .null, .null, .int 0, .int 0, .int 0, .int 0, .int 0, .int 0]))) q4 (.inr (0, 3, .inl (fFirst 0)))) a (.inl (2, [.ref q1, .ref q2, .ref q3, .ref q4, .null, .int 0, .int 0, .int 0, .int 0, .int 0, .int 0])))) (by omega) (by show (fup (fup (fup (fup (fup (fup (fup (fup M q1 (.inr (3, 6, .inr (.inr (.inr (.inr (fun _ => none))))))) a (.inl (2, [.ref q1, .null, .null, .null, .null, .int 0, .int 0, .int 0, .int 0, .int 0, .int 0]))) q2 (.inr (4, 8, .inr (.inr (.inr (.inr (fun _ => none))))))) a (.inl (2, [.ref q1, .ref q2, .null, .null, .null, .int 0, .int 0, .int 0, .int 0, .int 0, .int 0]))) q3 (.inr (5, 3, .inr (.inr (.inr (.inr (fun _ => none))))))) a (.inl (2, [.ref q1, .ref q2, .ref q3, .null, .null, .int 0, .int 0, .int 0, .int 0, .int 0, .int 0]))) q4 (.inr (0, 3, .inl (fFirst 0)))) a (.inl (2, [.ref q1, .ref q2, .ref q3, .ref q4, .null, .int 0, .int 0, .int 0, .int 0, .int 0, .int 0]))) a ≠ none; rw [f8_a]; exact fun z => by cases z) (fun b hb => fup_ne hb)
  refine r_aload_n dX2_init_43 rfl ?_
  refine r_gets1 dX2_init_44 kX2_41F ?_
  refine r_clone (j := 1) (bc' := 25) (bs' := 371) (by omega) dX2_init_47 kX2_33M (by decide) (Nat.le_of_ble_eq_true rfl) rfl rfl (fun q5 hq5 => ?_)
  have n_a_q5 := nn_ne f8_a hq5
  have n_q1_q5 := nn_ne f8_q1 hq5
  have n_q2_q5 := nn_ne f8_q2 hq5
  have n_q3_q5 := nn_ne f8_q3 hq5
  have n_q4_q5 := nn_ne f8_q4 hq5
  have f9_a := (fup_ne (c := (.inr (0, 3, .inl (fFirst 1)))) n_a_q5).trans f8_a
  have f9_q1 := (fup_ne (c := (.inr (0, 3, .inl (fFirst 1)))) n_q1_q5).trans f8_q1
  have f9_q2 := (fup_ne (c := (.inr (0, 3, .inl (fFirst 1)))) n_q2_q5).trans f8_q2
  have f9_q3 := (fup_ne (c := (.inr (0, 3, .inl (fFirst 1)))) n_q3_q5).trans f8_q3
  have f9_q4 := (fup_ne (c := (.inr (0, 3, .inl (fFirst 1)))) n_q4_q5).trans f8_q4
  have f9_q5 : (fup (fup (fup (fup (fup (fup (fup (fup (fup M q1 (.inr (3, 6, .inr (.inr (.inr (.inr (fun _ => none))))))) a (.inl (2, [.ref q1, .null, .null, .null, .null, .int 0, .int 0, .int 0, .int 0, .int 0, .int 0]))) q2 (.inr (4, 8, .inr (.inr (.inr (.inr (fun _ => none))))))) a (.inl (2, [.ref q1, .ref q2, .null, .null, .null, .int 0, .int 0, .int 0, .int 0, .int 0, .int 0]))) q3 (.inr (5, 3, .inr (.inr (.inr (.inr (fun _ => none))))))) a (.inl (2, [.ref q1, .ref q2, .ref q3, .null, .null, .int 0, .int 0, .int 0, .int 0, .int 0, .int 0]))) q4 (.inr (0, 3, .inl (fFirst 0)))) a (.inl (2, [.ref q1, .ref q2, .ref q3, .ref q4, .null, .int 0, .int 0, .int 0, .int 0, .int 0, .int 0]))) q5 (.inr (0, 3, .inl (fFirst 1)))) q5 = some (.inr (0, 3, .inl (fFirst 1))) := fup_eq
  have e5a := e4b.new (M' := (fup (fup (fup (fup (fup (fup (fup (fup (fup M q1 (.inr (3, 6, .inr (.inr (.inr (.inr (fun _ => none))))))) a (.inl (2, [.ref q1, .null, .null, .null, .null, .int 0, .int 0, .int 0, .int 0, .int 0, .int 0]))) q2 (.inr (4, 8, .inr (.inr (.inr (.inr (fun _ => none))))))) a (.inl (2, [.ref q1, .ref q2, .null, .null, .null, .int 0, .int 0, .int 0, .int 0, .int 0, .int 0]))) q3 (.inr (5, 3, .inr (.inr (.inr (.inr (fun _ => none))))))) a (.inl (2, [.ref q1, .ref q2, .ref q3, .null, .null, .int 0, .int 0, .int 0, .int 0, .int 0, .int 0]))) q4 (.inr (0, 3, .inl (fFirst 0)))) a (.inl (2, [.ref q1, .ref q2, .ref q3, .ref q4, .null, .int 0, .int 0, .int 0, .int 0, .int 0, .int 0]))) q5 (.inr (0, 3, .inl (fFirst 1))))) (by omega) hq5 (by rw [f9_q5]; exact fun z => by cases z) (fun b hb => fup_ne hb)
  refine r_ccast dX2_init_50 kX2_34C f9_q5 ?_
  refine r_putF (k := 4) (fs' := [.ref q1, .ref q2, .ref q3, .ref q4, .ref q5, .int 0, .int 0, .int 0, .int 0, .int 0, .int 0]) dX2_init_53 f9_a rfl (by decide) kX2_44F rfl rfl rfl rfl rfl (Nat.le_of_ble_eq_true rfl) rfl ?_
  have f10_q1 := (fup_ne (c := (.inl (2, [.ref q1, .ref q2, .ref q3, .ref q4, .ref q5, .int 0, .int 0, .int 0, .int 0, .int 0, .int 0]))) n_a_q1.symm).trans f9_q1
  have f10_q2 := (fup_ne (c := (.inl (2, [.ref q1, .ref q2, .ref q3, .ref q4, .ref q5, .int 0, .int 0, .int 0, .int 0, .int 0, .int 0]))) n_a_q2.symm).trans f9_q2
  have f10_q3 := (fup_ne (c := (.inl (2, [.ref q1, .ref q2, .ref q3, .ref q4, .ref q5, .int 0, .int 0, .int 0, .int 0, .int 0, .int 0]))) n_a_q3.symm).trans f9_q3
  have f10_q4 := (fup_ne (c := (.inl (2, [.ref q1, .ref q2, .ref q3, .ref q4, .ref q5, .int 0, .int 0, .int 0, .int 0, .int 0, .int 0]))) n_a_q4.symm).trans f9_q4
  have f10_q5 := (fup_ne (c := (.inl (2, [.ref q1, .ref q2, .ref q3, .ref q4, .ref q5, .int 0, .int 0, .int 0, .int 0, .int 0, .int 0]))) n_a_q5.symm).trans f9_q5
  have f10_a : (fup (fup (fup (fup (fup (fup (fup (fup (fup (fup M q1 (.inr (3, 6, .inr (.inr (.inr (.inr (fun _ => none))))))) a (.inl (2, [.ref q1, .null, .null, .null, .null, .int 0, .int 0, .int 0, .int 0, .int 0, .int 0]))) q2 (.inr (4, 8, .inr (.inr (.inr (.inr (fun _ => none))))))) a (.inl (2, [.ref q1, .ref q2, .null, .null, .null, .int 0, .int 0, .int 0, .int 0, .int 0, .int 0]))) q3 (.inr (5, 3, .inr (.inr (.inr (.inr (fun _ => none))))))) a (.inl (2, [.ref q1, .ref q2, .ref q3, .null, .null, .int 0, .int 0, .int 0, .int 0, .int 0, .int 0]))) q4 (.inr (0, 3, .inl (fFirst 0)))) a (.inl (2, [.ref q1, .ref q2, .ref q3, .ref q4, .null, .int 0, .int 0, .int 0, .int 0, .int 0, .int 0]))) q5 (.inr (0, 3, .inl (fFirst 1)))) a (.inl (2, [.ref q1, .ref q2, .ref q3, .ref q4, .ref q5, .int 0, .int 0, .int 0, .int 0, .int 0, .int 0]))) a = some (.inl (2, [.ref q1, .ref q2, .ref q3, .ref q4, .ref q5, .int 0, .int 0, .int 0, .int 0, .int 0, .int 0])) := fup_eq
  have e5b := e5a.set (i := 0) (M' := (fup (fup (fup (fup (fup (fup (fup (fup (fup (fup M q1 (.inr (3, 6, .inr (.inr (.inr (.inr (fun _ => none))))))) a (.inl (2, [.ref q1, .null, .null, .null, .null, .int 0, .int 0, .int 0, .int 0, .int 0, .int 0]))) q2 (.inr (4, 8, .inr (.inr (.inr (.inr (fun _ => none))))))) a (.inl (2, [.ref q1, .ref q2, .null, .null, .null, .int 0, .int 0, .int 0, .int 0, .int 0, .int 0]))) q3 (.inr (5, 3, .inr (.inr (.inr (.inr (fun _ => none))))))) a (.inl (2, [.ref q1, .ref q2, .ref q3, .null, .null, .int 0, .int 0, .int 0, .int 0, .int 0, .int 0]))) q4 (.inr (0, 3, .inl (fFirst 0)))) a (.inl (2, [.ref q1, .ref q2, .ref q3, .ref q4, .null, .int 0, .int 0, .int 0, .int 0, .int 0, .int 0]))) q5 (.inr (0, 3, .inl (fFirst 1)))) a (.inl (2, [.ref q1, .ref q2, .ref q3, .ref q4, .ref q5, .int 0, .int 0, .int 0, .int 0, .int 0, .int 0])))) (by omega) (by show (fup (fup (fup (fup (fup (fup (fup (fup (fup (fup M q1 (.inr (3, 6, .inr (.inr (.inr (.inr (fun _ => none))))))) a (.inl (2, [.ref q1, .null, .null, .null, .null, .int 0, .int 0, .int 0, .int 0, .int 0, .int 0]))) q2 (.inr (4, 8, .inr (.inr (.inr (.inr (fun _ => none))))))) a (.inl (2, [.ref q1, .ref q2, .null, .null, .null, .int 0, .int 0, .int 0, .int 0, .int 0, .int 0]))) q3 (.inr (5, 3, .inr (.inr (.inr (.inr (fun _ => none))))))) a (.inl (2, [.ref q1, .ref q2, .ref q3, .null, .null, .int 0, .int 0, .int 0, .int 0, .int 0, .int 0]))) q4 (.inr (0, 3, .inl (fFirst 0)))) a (.inl (2, [.ref q1, .ref q2, .ref q3, .ref q4, .null, .int 0, .int 0, .int 0, .int 0, .int 0, .int 0]))) q5 (.inr (0, 3, .inl (fFirst 1)))) a (.inl (2, [.ref q1, .ref q2, .ref q3, .ref q4, .ref q5, .int 0, .int 0, .int 0, .int 0, .int 0, .int 0]))) a ≠ none; rw [f10_a]; exact fun z => by cases z) (fun b hb => fup_ne hb)
  refine r_aload_n dX2_init_56 rfl ?_
  refine r_iconst (v := (-1)) dX2_init_57 (by decide) ?_
  refine r_put (k := 9) (fs' := [.ref q1, .ref q2, .ref q3, .ref q4, .ref q5, .int 0, .int 0, .int 0, .int 0, .int (-1), .int 0]) dX2_init_58 f10_a rfl (by decide) kX2_47F rfl rfl rfl (Nat.le_of_ble_eq_true rfl) rfl ?_
  have f11_q1 := (fup_ne (c := (.inl (2, [.ref q1, .ref q2, .ref q3, .ref q4, .ref q5, .int 0, .int 0, .int 0, .int 0, .int (-1), .int 0]))) n_a_q1.symm).trans f10_q1
  have f11_q2 := (fup_ne (c := (.inl (2, [.ref q1, .ref q2, .ref q3, .ref q4, .ref q5, .int 0, .int 0, .int 0, .int 0, .int (-1), .int 0]))) n_a_q2.symm).trans f10_q2
  have f11_q3 := (fup_ne (c := (.inl (2, [.ref q1, .ref q2, .ref q3, .ref q4, .ref q5, .int 0, .int 0, .int 0, .int 0, .int (-1), .int 0]))) n_a_q3.symm).trans f10_q3
  have f11_q4 := (fup_ne (c := (.inl (2, [.ref q1, .ref q2, .ref q3, .ref q4, .ref q5, .int 0, .int 0, .int 0, .int 0, .int (-1), .int 0]))) n_a_q4.symm).trans f10_q4
  have f11_q5 := (fup_ne (c := (.inl (2, [.ref q1, .ref q2, .ref q3, .ref q4, .ref q5, .int 0, .int 0, .int 0, .int 0, .int (-1), .int 0]))) n_a_q5.symm).trans f10_q5
  have f11_a : (fup (fup (fup (fup (fup (fup (fup (fup (fup (fup (fup M q1 (.inr (3, 6, .inr (.inr (.inr (.inr (fun _ => none))))))) a (.inl (2, [.ref q1, .null, .null, .null, .null, .int 0, .int 0, .int 0, .int 0, .int 0, .int 0]))) q2 (.inr (4, 8, .inr (.inr (.inr (.inr (fun _ => none))))))) a (.inl (2, [.ref q1, .ref q2, .null, .null, .null, .int 0, .int 0, .int 0, .int 0, .int 0, .int 0]))) q3 (.inr (5, 3, .inr (.inr (.inr (.inr (fun _ => none))))))) a (.inl (2, [.ref q1, .ref q2, .ref q3, .null, .null, .int 0, .int 0, .int 0, .int 0, .int 0, .int 0]))) q4 (.inr (0, 3, .inl (fFirst 0)))) a (.inl (2, [.ref q1, .ref q2, .ref q3, .ref q4, .null, .int 0, .int 0, .int 0, .int 0, .int 0, .int 0]))) q5 (.inr (0, 3, .inl (fFirst 1)))) a (.inl (2, [.ref q1, .ref q2, .ref q3, .ref q4, .ref q5, .int 0, .int 0, .int 0, .int 0, .int 0, .int 0]))) a (.inl (2, [.ref q1, .ref q2, .ref q3, .ref q4, .ref q5, .int 0, .int 0, .int 0, .int 0, .int (-1), .int 0]))) a = some (.inl (2, [.ref q1, .ref q2, .ref q3, .ref q4, .ref q5, .int 0, .int 0, .int 0, .int 0, .int (-1), .int 0])) := fup_eq
  have e5b := e5b.set (i := 0) (M' := (fup (fup (fup (fup (fup (fup (fup (fup (fup (fup (fup M q1 (.inr (3, 6, .inr (.inr (.inr (.inr (fun _ => none))))))) a (.inl (2, [.ref q1, .null, .null, .null, .null, .int 0, .int 0, .int 0, .int 0, .int 0, .int 0]))) q2 (.inr (4, 8, .inr (.inr (.inr (.inr (fun _ => none))))))) a (.inl (2, [.ref q1, .ref q2, .null, .null, .null, .int 0, .int 0, .int 0, .int 0, .int 0, .int 0]))) q3 (.inr (5, 3, .inr (.inr (.inr (.inr (fun _ => none))))))) a (.inl (2, [.ref q1, .ref q2, .ref q3, .null, .null, .int 0, .int 0, .int 0, .int 0, .int 0, .int 0]))) q4 (.inr (0, 3, .inl (fFirst 0)))) a (.inl (2, [.ref q1, .ref q2, .ref q3, .ref q4, .null, .int 0, .int 0, .int 0, .int 0, .int 0, .int 0]))) q5 (.inr (0, 3, .inl (fFirst 1)))) a (.inl (2, [.ref q1, .ref q2, .ref q3, .ref q4, .ref q5, .int 0, .int 0, .int 0, .int 0, .int 0, .int 0]))) a (.inl (2, [.ref q1, .ref q2, .ref q3, .ref q4, .ref q5, .int 0, .int 0, .int 0, .int 0, .int (-1), .int 0])))) (by omega) (by show (fup (fup (fup (fup (fup (fup (fup (fup (fup (fup (fup M q1 (.inr (3, 6, .inr (.inr (.inr (.inr (fun _ => none))))))) a (.inl (2, [.ref q1, .null, .null, .null, .null, .int 0, .int 0, .int 0, .int 0, .int 0, .int 0]))) q2 (.inr (4, 8, .inr (.inr (.inr (.inr (fun _ => none))))))) a (.inl (2, [.ref q1, .ref q2, .null, .null, .null, .int 0, .int 0, .int 0, .int 0, .int 0, .int 0]))) q3 (.inr (5, 3, .inr (.inr (.inr (.inr (fun _ => none))))))) a (.inl (2, [.ref q1, .ref q2, .ref q3, .null, .null, .int 0, .int 0, .int 0, .int 0, .int 0, .int 0]))) q4 (.inr (0, 3, .inl (fFirst 0)))) a (.inl (2, [.ref q1, .ref q2, .ref q3, .ref q4, .null, .int 0, .int 0, .int 0, .int 0, .int 0, .int 0]))) q5 (.inr (0, 3, .inl (fFirst 1)))) a (.inl (2, [.ref q1, .ref q2, .ref q3, .ref q4, .ref q5, .int 0, .int 0, .int 0, .int 0, .int 0, .int 0]))) a (.inl (2, [.ref q1, .ref q2, .ref q3, .ref q4, .ref q5, .int 0, .int 0, .int 0, .int 0, .int (-1), .int 0]))) a ≠ none; rw [f11_a]; exact fun z => by cases z) (fun b hb => fup_ne hb)
  refine r_aload_n dX2_init_61 rfl ?_
  refine r_iconst (v := (-1)) dX2_init_62 (by decide) ?_
  refine r_put (k := 10) (fs' := [.ref q1, .ref q2, .ref q3, .ref q4, .ref q5, .int 0, .int 0, .int 0, .int 0, .int (-1), .int (-1)]) dX2_init_63 f11_a rfl (by decide) kX2_51F rfl rfl rfl (Nat.le_of_ble_eq_true rfl) rfl ?_
  have f12_q1 := (fup_ne (c := (.inl (2, [.ref q1, .ref q2, .ref q3, .ref q4, .ref q5, .int 0, .int 0, .int 0, .int 0, .int (-1), .int (-1)]))) n_a_q1.symm).trans f11_q1
  have f12_q2 := (fup_ne (c := (.inl (2, [.ref q1, .ref q2, .ref q3, .ref q4, .ref q5, .int 0, .int 0, .int 0, .int 0, .int (-1), .int (-1)]))) n_a_q2.symm).trans f11_q2
  have f12_q3 := (fup_ne (c := (.inl (2, [.ref q1, .ref q2, .ref q3, .ref q4, .ref q5, .int 0, .int 0, .int 0, .int 0, .int (-1), .int (-1)]))) n_a_q3.symm).trans f11_q3
  have f12_q4 := (fup_ne (c := (.inl (2, [.ref q1, .ref q2, .ref q3, .ref q4, .ref q5, .int 0, .int 0, .int 0, .int 0, .int (-1), .int (-1)]))) n_a_q4.symm).trans f11_q4
  have f12_q5 := (fup_ne (c := (.inl (2, [.ref q1, .ref q2, .ref q3, .ref q4, .ref q5, .int 0, .int 0, .int 0, .int 0, .int (-1), .int (-1)]))) n_a_q5.symm).trans f11_q5
  have f12_a : (fup (fup (fup (fup (fup (fup (fup (fup (fup (fup (fup (fup M q1 (.inr (3, 6, .inr (.inr (.inr (.inr (fun _ => none))))))) a (.inl (2, [.ref q1, .null, .null, .null, .null, .int 0, .int 0, .int 0, .int 0, .int 0, .int 0]))) q2 (.inr (4, 8, .inr (.inr (.inr (.inr (fun _ => none))))))) a (.inl (2, [.ref q1, .ref q2, .null, .null, .null, .int 0, .int 0, .int 0, .int 0, .int 0, .int 0]))) q3 (.inr (5, 3, .inr (.inr (.inr (.inr (fun _ => none))))))) a (.inl (2, [.ref q1, .ref q2, .ref q3, .null, .null, .int 0, .int 0, .int 0, .int 0, .int 0, .int 0]))) q4 (.inr (0, 3, .inl (fFirst 0)))) a (.inl (2, [.ref q1, .ref q2, .ref q3, .ref q4, .null, .int 0, .int 0, .int 0, .int 0, .int 0, .int 0]))) q5 (.inr (0, 3, .inl (fFirst 1)))) a (.inl (2, [.ref q1, .ref q2, .ref q3, .ref q4, .ref q5, .int 0, .int 0, .int 0, .int 0, .int 0, .int 0]))) a (.inl (2, [.ref q1, .ref q2, .ref q3, .ref q4, .ref q5, .int 0, .int 0, .int 0, .int 0, .int (-1), .int 0]))) a (.inl (2, [.ref q1, .ref q2, .ref q3, .ref q4, .ref q5, .int 0, .int 0, .int 0, .int 0, .int (-1), .int (-1)]))) a = some (.inl (2, [.ref q1, .ref q2, .ref q3, .ref q4, .ref q5, .int 0, .int 0, .int 0, .int 0, .int (-1), .int (-1)])) := fup_eq
  have e5b := e5b.set (i := 0) (M' := (fup (fup (fup (fup (fup (fup (fup (fup (fup (fup (fup (fup M q1 (.inr (3, 6, .inr (.inr (.inr (.inr (fun _ => none))))))) a (.inl (2, [.ref q1, .null, .null, .null, .null, .int 0, .int 0, .int 0, .int 0, .int 0, .int 0]))) q2 (.inr (4, 8, .inr (.inr (.inr (.inr (fun _ => none))))))) a (.inl (2, [.ref q1, .ref q2, .null, .null, .null, .int 0, .int 0, .int 0, .int 0, .int 0, .int 0]))) q3 (.inr (5, 3, .inr (.inr (.inr (.inr (fun _ => none))))))) a (.inl (2, [.ref q1, .ref q2, .ref q3, .null, .null, .int 0, .int 0, .int 0, .int 0, .int 0, .int 0]))) q4 (.inr (0, 3, .inl (fFirst 0)))) a (.inl (2, [.ref q1, .ref q2, .ref q3, .ref q4, .null, .int 0, .int 0, .int 0, .int 0, .int 0, .int 0]))) q5 (.inr (0, 3, .inl (fFirst 1)))) a (.inl (2, [.ref q1, .ref q2, .ref q3, .ref q4, .ref q5, .int 0, .int 0, .int 0, .int 0, .int 0, .int 0]))) a (.inl (2, [.ref q1, .ref q2, .ref q3, .ref q4, .ref q5, .int 0, .int 0, .int 0, .int 0, .int (-1), .int 0]))) a (.inl (2, [.ref q1, .ref q2, .ref q3, .ref q4, .ref q5, .int 0, .int 0, .int 0, .int 0, .int (-1), .int (-1)])))) (by omega) (by show (fup (fup (fup (fup (fup (fup (fup (fup (fup (fup (fup (fup M q1 (.inr (3, 6, .inr (.inr (.inr (.inr (fun _ => none))))))) a (.inl (2, [.ref q1, .null, .null, .null, .null, .int 0, .int 0, .int 0, .int 0, .int 0, .int 0]))) q2 (.inr (4, 8, .inr (.inr (.inr (.inr (fun _ => none))))))) a (.inl (2, [.ref q1, .ref q2, .null, .null, .null, .int 0, .int 0, .int 0, .int 0, .int 0, .int 0]))) q3 (.inr (5, 3, .inr (.inr (.inr (.inr (fun _ => none))))))) a (.inl (2, [.ref q1, .ref q2, .ref q3, .null, .null, .int 0, .int 0, .int 0, .int 0, .int 0, .int 0]))) q4 (.inr (0, 3, .inl (fFirst 0)))) a (.inl (2, [.ref q1, .ref q2, .ref q3, .ref q4, .null, .int 0, .int 0, .int 0, .int 0, .int 0, .int 0]))) q5 (.inr (0, 3, .inl (fFirst 1)))) a (.inl (2, [.ref q1, .ref q2, .ref q3, .ref q4, .ref q5, .int 0, .int 0, .int 0, .int 0, .int 0, .int 0]))) a (.inl (2, [.ref q1, .ref q2, .ref q3, .ref q4, .ref q5, .int 0, .int 0, .int 0, .int 0, .int (-1), .int 0]))) a (.inl (2, [.ref q1, .ref q2, .ref q3, .ref q4, .ref q5, .int 0, .int 0, .int 0, .int 0, .int (-1), .int (-1)]))) a ≠ none; rw [f12_a]; exact fun z => by cases z) (fun b hb => fup_ne hb)
  refine r_iconst (v := nI 0) dX2_init_66 (by decide) ?_
  refine r_istore_n (lv' := [(1, .int (nI 0)), (0, .ref a)]) dX2_init_67 (by decide) rfl ?_
  refine lX2_i1 (M0 := M) (fun M2 w2 hw2 hE2 hL2 => ?_) 6 0 _ _ (by omega) rfl e5b ⟨f12_a, ⟨_, f12_q1, fun i hi => by omega⟩, ⟨_, f12_q2, fun i hi => by omega⟩, ⟨_, f12_q3, fun i hi => by omega⟩, f12_q4, f12_q5, fun i hi => by omega, fun i hi => by omega, fun i hi => by omega⟩
  refine r_iconst (v := nI 0) dX2_init_93 (by decide) ?_
  refine r_istore_n (lv' := [(1, .int (nI 0)), (0, .ref a)]) dX2_init_94 (by decide) rfl ?_
  refine lX2_i2 (M0 := M) (fun M3 w3 hw3 hE3 hL3 => ?_) 8 0 _ _ (by omega) hw2 hE2 hL2
  refine r_iconst (v := nI 0) dX2_init_120 (by decide) ?_
  refine r_istore_n (lv' := [(1, .int (nI 0)), (0, .ref a)]) dX2_init_121 (by decide) rfl ?_
  refine lX2_i3 (M0 := M) (fun M4 w4 hw4 hE4 hL4 => ?_) 3 0 _ _ (by omega) hw3 hE3 hL3
  exact fR_vret dX2_init_146 rfl ⟨rfl, w4, hw4, hE4, hL4⟩
