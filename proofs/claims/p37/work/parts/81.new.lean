/-! HISTORY, TEXT AND THE CLASS MADE ANEW -/
theorem LC.eq {M M' : Mem} {w w' : Nat → Nat} (h : LC M w 6 8 3) (e : ∀ j, j < 31 → w' j = w j ∧ M' (w j) = M (w j)) : LC M' w' 6 8 3 := by
  obtain ⟨h0, ⟨f1, a1, b1⟩, ⟨f2, a2, b2⟩, ⟨f3, a3, b3⟩, h4, h5, h6, h7, h8⟩ := h
  have k : ∀ j, j < 31 → w' j = w j := fun j hj => (e j hj).1
  have m : ∀ j, j < 31 → M' (w j) = M (w j) := fun j hj => (e j hj).2
  refine ⟨?_, ⟨f1, ?_, fun i hi => ?_⟩, ⟨f2, ?_, fun i hi => ?_⟩, ⟨f3, ?_, fun i hi => ?_⟩, ?_, ?_, fun i hi => ?_, fun i hi => ?_, fun i hi => ?_⟩
  · rw [k 0 (by omega), k 1 (by omega), k 2 (by omega), k 3 (by omega), k 4 (by omega), k 5 (by omega)]; exact (m 0 (by omega)).trans h0
  · rw [k 1 (by omega)]; exact (m 1 (by omega)).trans a1
  · rw [k _ (by omega)]; exact b1 i hi
  · rw [k 2 (by omega)]; exact (m 2 (by omega)).trans a2
  · rw [k _ (by omega)]; exact b2 i hi
  · rw [k 3 (by omega)]; exact (m 3 (by omega)).trans a3
  · rw [k _ (by omega)]; exact b3 i hi
  · rw [k 4 (by omega)]; exact (m 4 (by omega)).trans h4
  · rw [k 5 (by omega)]; exact (m 5 (by omega)).trans h5
  · rw [k _ (by omega)]; exact (m _ (by omega)).trans (h6 i hi)
  · rw [k _ (by omega), k _ (by omega)]; exact ⟨(m _ (by omega)).trans (h7 i hi).1, (m _ (by omega)).trans (h7 i hi).2⟩
  · rw [k _ (by omega)]; exact (m _ (by omega)).trans (h8 i hi)
theorem kC_Lab : Cond.instantiable "BitumenNeedle$Lab" 11 ∈ lw_tbl := lw_of (i := 28) (by decide +kernel)
theorem kD_Lab : Cond.initialized "BitumenNeedle$Lab" ∈ lw_tbl := lw_of (i := 2) (by decide +kernel)
theorem kC_Hist : Cond.instantiable "BitumenNeedle$History" 4 ∈ lw_tbl := lw_of (i := 170) (by decide +kernel)
theorem kD_Hist : Cond.initialized "BitumenNeedle$History" ∈ lw_tbl := lw_of (i := 6) (by decide +kernel)
theorem kC_Text : Cond.instantiable "BitumenNeedle$OrderText" 4 ∈ lw_tbl := lw_of (i := 194) (by decide +kernel)
theorem kD_Text : Cond.initialized "BitumenNeedle$OrderText" ∈ lw_tbl := lw_of (i := 7) (by decide +kernel)
theorem kC_Part : Cond.instantiable "BitumenNeedle$Part" 5 ∈ lw_tbl := lw_of (i := 200) (by decide +kernel)
theorem kD_Part : Cond.initialized "BitumenNeedle$Part" ∈ lw_tbl := lw_of (i := 8) (by decide +kernel)
abbrev labZ : MC := .inl (2, [.null, .null, .null, .null, .null, .int 0, .int 0, .int 0, .int 0, .int 0, .int 0])
theorem tX4_init {l : Launch} {κ : KP} {M : Mem} {a : Nat} (ha : M a = some (.inl (4, [.null, .null, .int 0, .int 0]))) : fM l κ mX4_init [.ref a] M (fun o M' => o = .inl none ∧ ∃ w, w 0 = a ∧ Ex M M' w 4 ∧ M' (w 0) = some (.inl (4, [.ref (w 1), .ref (w 2), .int 0, .int 0])) ∧ M' (w 1) = some (.inr (1, 60, .inl (fun _ => 0))) ∧ M' (w 2) = some (.inl (5, [.int 0, .ref (kK κ 0), .int 0, .int 0, .ref (w 3)])) ∧ M' (w 3) = some (.inr (0, 6, .inl (fun _ => 0)))) := by
  refine fM_of rfl (by decide +kernel) (Nat.le_of_ble_eq_true rfl) ?_
  show fR l κ mX4_init 0 [(0, .ref a)] [] M 3 71 _
  have e0 : Ex M M (fun _ => a) 1 := Ex.one (by rw [ha]; exact fun z => by cases z)
  refine r_aload_n dX4_init_0 rfl ?_
  refine r_objInit dX4_init_1 kX4_3M kJ_objI kJ_objC (by decide) (by decide) ?_
  refine r_aload_n dX4_init_4 rfl ?_
  refine r_bipush (v := nI 60) dX4_init_5 (by decide) ?_
  refine r_newa (atype := .char) (t := 1) (N := 60) (a0 := (60, .inl (fun _ => 0))) (bc' := 2) (bs' := 11) dX4_init_7 kJ_arrC rfl (fun _ => rfl) (by decide) (by decide) (by decide) rfl rfl (fun q1 hq1 => ?_)
  have n1 := nn_ne ha hq1
  have e1 := e0.new (M' := fup M q1 (.inr (1, 60, .inl (fun _ => 0)))) (by omega) hq1 (by rw [fup_eq]; exact fun z => by cases z) (fun b hb => fup_ne hb)
  refine r_putF (k := 0) (fs' := [.ref q1, .null, .int 0, .int 0]) dX4_init_9 ((fup_ne n1).trans ha) rfl (by decide) kX4_9F rfl rfl rfl rfl rfl (Nat.le_of_ble_eq_true rfl) rfl ?_
  have e2 := e1.set (i := 0) (M' := fup (fup M q1 (.inr (1, 60, .inl (fun _ => 0)))) a (.inl (4, [.ref q1, .null, .int 0, .int 0]))) (by omega) (by show fup _ a _ a ≠ none; rw [fup_eq]; exact fun z => by cases z) (fun b hb => fup_ne hb)
  have x1 : fup (fup M q1 (.inr (1, 60, .inl (fun _ => 0)))) a (.inl (4, [.ref q1, .null, .int 0, .int 0])) q1 = some (.inr (1, 60, .inl (fun _ => 0))) := (fup_ne n1.symm).trans fup_eq
  generalize hM2 : fup (fup M q1 (.inr (1, 60, .inl (fun _ => 0)))) a (.inl (4, [.ref q1, .null, .int 0, .int 0])) = M2 at e2 x1
  have xa : M2 a = some (.inl (4, [.ref q1, .null, .int 0, .int 0])) := by rw [← hM2]; exact fup_eq
  refine r_aload_n dX4_init_12 rfl ?_
  refine r_new (ci := 5) (fs := [.int 0, .null, .int 0, .int 0, .null]) (bc' := 1) (bs' := 6) dX4_init_13 rfl kX4_15C kC_Part kD_Part (le5 rfl rfl rfl rfl rfl) rfl rfl (fun q2 hq2 => ?_)
  refine r_dup dX4_init_16 rfl ?_
  have n2 := nn_ne xa hq2
  have n12 := nn_ne x1 hq2
  have e3 := e2.new (M' := fup M2 q2 (.inl (5, [.int 0, .null, .int 0, .int 0, .null]))) (by omega) hq2 (by rw [fup_eq]; exact fun z => by cases z) (fun b hb => fup_ne hb)
  refine r_callINP (As := []) dX4_init_17 (tX5_init fup_eq) rfl oX5_init rfl rfl rfl kX4_17M nX5_init (by unfold fRoom; decide) (Nat.le_of_ble_eq_true rfl) (bc' := 0) (bs' := 0) rfl rfl (fun E M9 h => by cases h.1) (fun v M3 hv => ?_)
  obtain ⟨hv1, q3, hq3, hv2, hv3, hv4⟩ := hv
  cases hv1
  have n3 : a ≠ q3 := nn_ne ((fup_ne n2).trans xa) hq3
  have n13 : q1 ≠ q3 := nn_ne ((fup_ne n12).trans x1) hq3
  have n23 : q2 ≠ q3 := nn_ne fup_eq hq3
  have e4 := e3.new (q := q3) (M' := fup (fup M2 q2 (.inl (5, [.int 0, .null, .int 0, .int 0, .null]))) q3 (.inr (0, 6, .inl (fun _ => 0)))) (by omega) hq3 (by rw [fup_eq]; exact fun z => by cases z) (fun b hb => fup_ne hb)
  have e5 := e4.set (i := 2) (M' := M3) (by omega) (by show M3 q2 ≠ none; rw [hv2]; exact fun z => by cases z) (fun b hb => by
    have hb2 : b ≠ q2 := hb
    by_cases c : b = q3
    · rw [c, hv3, fup_eq]
    · rw [fup_ne c, fup_ne hb2]; exact (hv4 b hb2 c).trans (fup_ne hb2))
  show fR _ _ _ 20 _ (.ref q2 :: .ref a :: []) _ _ _ _
  have ya : M3 a = some (.inl (4, [.ref q1, .null, .int 0, .int 0])) := (hv4 a n2 n3).trans ((fup_ne n2).trans xa)
  have y1 : M3 q1 = some (.inr (1, 60, .inl (fun _ => 0))) := (hv4 q1 n12 n13).trans ((fup_ne n12).trans x1)
  refine r_putF (k := 1) (fs' := [.ref q1, .ref q2, .int 0, .int 0]) dX4_init_20 ya rfl (by decide) kX4_18F rfl rfl rfl rfl rfl (Nat.le_of_ble_eq_true rfl) rfl ?_
  have e6 := e5.set (i := 0) (M' := fup M3 a (.inl (4, [.ref q1, .ref q2, .int 0, .int 0]))) (by omega) (by show fup M3 a _ a ≠ none; rw [fup_eq]; exact fun z => by cases z) (fun b hb => fup_ne hb)
  exact fR_vret dX4_init_23 rfl ⟨rfl, _, rfl, e6, fup_eq, (fup_ne n1.symm).trans y1, (fup_ne n2.symm).trans hv2, (fup_ne n3.symm).trans hv3⟩
def HC (M : Mem) (w : Nat → Nat) (i : Nat) : Prop :=
  M (w 0) = some (.inl (1, [.ref (w 1), .ref (w 2), .int 0, .int 0])) ∧ (∃ f, M (w 1) = some (.inr (6, 6, .inr (.inr (.inr (.inr f))))) ∧ ∀ j, j < i → f j = some (w (33 + 31 * j))) ∧ LC M (fun t => w (2 + t)) 6 8 3 ∧ ∀ j, j < i → LC M (fun t => w (33 + 31 * j + t)) 6 8 3
theorem HC.step {M0 M M1 M2 M3 : Mem} {w v : Nat → Nat} {i q : Nat} (h : HC M w i) (hE : Ex M0 M w (33 + 31 * i)) (hq : M q = none) (h1 : M1 = fup M q labZ) (hv : v 0 = q) (h2 : Ex M1 M2 v 31) (hL : LC M2 v 6 8 3)
    {f : Nat → Option Nat} (hf : M (w 1) = some (.inr (6, 6, .inr (.inr (.inr (.inr f)))))) (hfv : ∀ j, j < i → f j = some (w (33 + 31 * j))) (h3 : M3 = fup M2 (w 1) (.inr (6, 6, .inr (.inr (.inr (.inr (va_up f i (some q)))))))) :
    Ex M0 M3 (ap (nw w (33 + 31 * i) q) (33 + 31 * i) v) (33 + 31 * i + 31) ∧ HC M3 (ap (nw w (33 + 31 * i) q) (33 + 31 * i) v) (i + 1) := by
  have x1 := hE.new (M' := M1) (by omega) hq (by rw [h1, fup_eq]; exact fun z => by cases z) (fun b hb => by rw [h1]; exact fup_ne hb)
  have hv' : v 0 = nw w (33 + 31 * i) q (33 + 31 * i) := by rw [nw_eq]; exact hv
  have x2 := x1.app (by omega) hv' h2 (by omega)
  have k : ∀ j, j < 33 + 31 * i → ap (nw w (33 + 31 * i) q) (33 + 31 * i) v j = w j := fun j hj => (ap_lt hj).trans (nw_lt hj)
  have k2 : ∀ j, ap (nw w (33 + 31 * i) q) (33 + 31 * i) v (33 + 31 * i + j) = v j := fun j => ap_add
  have o : ∀ j, j < 33 + 31 * i → M2 (w j) = M (w j) := fun j hj => by
    have := Ex.old x1 hv' h2 hj
    rw [nw_lt hj] at this
    rw [this, h1]; exact fup_ne (hE.away hq j hj)
  have x3 : Ex M0 M3 (ap (nw w (33 + 31 * i) q) (33 + 31 * i) v) (33 + 31 * i + 31) := x2.set (i := 1) (by omega) (by rw [k 1 (by omega), h3, fup_eq]; exact fun z => by cases z) (fun b hb => by rw [k 1 (by omega)] at hb; rw [h3]; exact fup_ne hb)
  have m : ∀ j, j < 33 + 31 * i → j ≠ 1 → M3 (w j) = M (w j) := fun j hj hn => by
    rw [h3, fup_ne (fun z => hn (hE.1 j 1 hj (by omega) z))]; exact o j hj
  have mv : ∀ j, j < 31 → M3 (v j) = M2 (v j) := fun j hj => by
    have h9 := x2.1 (33 + 31 * i + j) 1 (by omega) (by omega)
    rw [k2, k 1 (by omega)] at h9
    rw [h3]; exact fup_ne (fun z => by have := h9 z; omega)
  obtain ⟨a0, -, a2, a3⟩ := h
  refine ⟨x3, ?_, ⟨va_up f i (some q), ?_, fun j hj => ?_⟩, a2.eq (fun j hj => ⟨k _ (by omega), m _ (by omega) (by omega)⟩), fun j hj => ?_⟩
  · rw [k 0 (by omega), k 1 (by omega), k 2 (by omega)]; exact (m 0 (by omega) (by omega)).trans a0
  · rw [k 1 (by omega), h3]; exact fup_eq
  · by_cases c : j = i
    · subst c; rw [va_up_self]; have := k2 0; rw [Nat.add_zero] at this; rw [this, hv]
    · rw [va_up_ne _ _ c, k _ (by omega)]; exact hfv j (by omega)
  · by_cases c : j = i
    · subst c; exact hL.eq (fun t ht => ⟨k2 t, mv t ht⟩)
    · exact (a3 j (by omega)).eq (fun t ht => ⟨k _ (by omega), m _ (by omega) (by omega)⟩)
theorem lX1_init {l : Launch} {κ : KP} {M0 : Mem} {a : Nat} {P : FPost} (kk : ∀ (M : Mem) (w : Nat → Nat), w 0 = a → Ex M0 M w 219 → HC M w 6 → fR l κ mX1_init 51 [(1, .int (nI 6)), (0, .ref a)] [] M 0 0 P) : ∀ (N i : Nat) (M : Mem) (w : Nat → Nat), i + N = 6 → w 0 = a → Ex M0 M w (33 + 31 * i) → HC M w i → fR l κ mX1_init 26 [(1, .int (nI i)), (0, .ref a)] [] M (0 + 31 * N) (0 + 405 * N) P := by
  intro N
  induction N with
  | zero =>
    intro i M w h1 hw hE hH
    have hd : i = 6 := by omega
    subst hd
    refine r_iload_n dX1_init_26 rfl ?_
    refine r_bipush (v := nI 6) dX1_init_27 (by decide) ?_
    refine r_icmp_geN (tgt := 51) dX1_init_29 (by decide) (by omega) (by omega) (fun c1 => ?_) (fun c1 => absurd c1 (by omega))
    exact kk M w hw hE hH
  | succ N ih =>
    intro i M w h1 hw hE hH
    refine r_iload_n dX1_init_26 rfl ?_
    refine r_bipush (v := nI 6) dX1_init_27 (by decide) ?_
    refine r_icmp_geN (tgt := 51) dX1_init_29 (by decide) (by omega) (by omega) (fun c1 => absurd c1 (by omega)) (fun c1 => ?_)
    refine r_aload_n dX1_init_32 rfl ?_
    have hob : M a = some (.inl (1, [.ref (w 1), .ref (w 2), .int 0, .int 0])) := by rw [← hw]; exact hH.1
    refine r_get (k := 0) dX1_init_33 hob rfl rfl (by decide) kX1_11F ?_
    refine r_iload_n dX1_init_36 rfl ?_
    refine r_new (ci := 2) (fs := [.null, .null, .null, .null, .null, .int 0, .int 0, .int 0, .int 0, .int 0, .int 0]) (bc' := 0 + 31 * N + 30) (bs' := 0 + 405 * N + 394) dX1_init_37 rfl kX1_9C kC_Lab kD_Lab (le11 rfl rfl rfl rfl rfl rfl rfl rfl rfl rfl rfl) (by omega) (by omega) (fun q hq => ?_)
    refine r_dup dX1_init_40 rfl ?_
    refine r_callIP (As := []) dX1_init_41 (tX2_init fup_eq) rfl oX2_init rfl rfl rfl kX1_17M nX2_init ⟨by decide, by decide, show 30 ≤ _ by omega, show 394 ≤ _ by omega⟩ (Nat.le_of_ble_eq_true rfl) (bc' := 0 + 31 * N) (bs' := 0 + 405 * N) rfl rfl (fun E M9 h => by cases h.1) (fun v M2 hv => ?_)
    obtain ⟨hv1, v2, hv2, hv3, hv4⟩ := hv
    cases hv1
    show fR _ _ _ 44 _ (.ref q :: .int (nI i) :: .ref (w 1) :: []) _ _ _ _
    obtain ⟨f, hf, hfv⟩ := hH.2.1
    have x1 := hE.new (M' := fup M q labZ) (by omega) hq (by rw [fup_eq]; exact fun z => by cases z) (fun b hb => fup_ne hb)
    have o1 := Ex.old (i := 1) x1 (show v2 0 = nw w (33 + 31 * i) q (33 + 31 * i) by rw [nw_eq]; exact hv2) hv3 (by omega)
    rw [nw_lt (by omega)] at o1
    have hq2 := hv4.1
    rw [hv2] at hq2
    refine r_astqN dX1_init_44 (o1.trans ((fup_ne (hE.away hq 1 (by omega))).trans hf)) hq2 rfl rfl (by omega) (by decide) ?_
    obtain ⟨hE2, hH2⟩ := HC.step hH hE hq rfl hv2 hv3 hv4 hf hfv rfl
    refine r_iinc (v := nI (i + 1)) (lv' := [(1, .int (nI (i + 1))), (0, .ref a)]) dX1_init_45 rfl (nI_inc _) (by decide) rfl ?_
    refine r_goto (tgt := 26) dX1_init_48 (by decide) ?_
    exact ih (i + 1) _ _ (by omega) ((ap_lt (by omega)).trans ((nw_lt (by omega)).trans hw)) hE2 hH2
theorem tX1_init {l : Launch} {κ : KP} {M : Mem} {a : Nat} (ha : M a = some (.inl (1, [.null, .null, .int 0, .int 0]))) : fM l κ mX1_init [.ref a] M (fun o M' => o = .inl none ∧ ∃ w, w 0 = a ∧ Ex M M' w 219 ∧ HC M' w 6) := by
  refine fM_of rfl (by decide +kernel) (Nat.le_of_ble_eq_true rfl) ?_
  show fR l κ mX1_init 0 [(0, .ref a)] [] M 218 2841 _
  have e0 : Ex M M (fun _ => a) 1 := Ex.one (by rw [ha]; exact fun z => by cases z)
  refine r_aload_n dX1_init_0 rfl ?_
  refine r_objInit dX1_init_1 kX1_3M kJ_objI kJ_objC (by decide) (by decide) ?_
  refine r_aload_n dX1_init_4 rfl ?_
  refine r_bipush (v := nI 6) dX1_init_5 (by decide) ?_
  refine r_newq (t := 6) (N := 6) (bc' := 217) (bs' := 2835) dX1_init_7 kX1_9C (by decide) rfl (by decide) (by decide) (by decide) rfl rfl (fun q1 hq1 => ?_)
  have n1 := nn_ne ha hq1
  have e1 := e0.new (M' := fup M q1 (.inr (6, 6, .inr (.inr (.inr (.inr (fun _ => none))))))) (by omega) hq1 (by rw [fup_eq]; exact fun z => by cases z) (fun b hb => fup_ne hb)
  refine r_putF (k := 0) (fs' := [.ref q1, .null, .int 0, .int 0]) dX1_init_10 ((fup_ne n1).trans ha) rfl (by decide) kX1_11F rfl rfl rfl rfl rfl (Nat.le_of_ble_eq_true rfl) rfl ?_
  have e2 := e1.set (i := 0) (M' := fup (fup M q1 (.inr (6, 6, .inr (.inr (.inr (.inr (fun _ => none))))))) a (.inl (1, [.ref q1, .null, .int 0, .int 0]))) (by omega) (by show fup _ a _ a ≠ none; rw [fup_eq]; exact fun z => by cases z) (fun b hb => fup_ne hb)
  have x1 : fup (fup M q1 (.inr (6, 6, .inr (.inr (.inr (.inr (fun _ => none))))))) a (.inl (1, [.ref q1, .null, .int 0, .int 0])) q1 = some (.inr (6, 6, .inr (.inr (.inr (.inr (fun _ => none)))))) := (fup_ne n1.symm).trans fup_eq
  generalize hM2 : fup (fup M q1 (.inr (6, 6, .inr (.inr (.inr (.inr (fun _ => none))))))) a (.inl (1, [.ref q1, .null, .int 0, .int 0])) = M2 at e2 x1
  have xa : M2 a = some (.inl (1, [.ref q1, .null, .int 0, .int 0])) := by rw [← hM2]; exact fup_eq
  refine r_aload_n dX1_init_13 rfl ?_
  refine r_new (ci := 2) (fs := [.null, .null, .null, .null, .null, .int 0, .int 0, .int 0, .int 0, .int 0, .int 0]) (bc' := 216) (bs' := 2824) dX1_init_14 rfl kX1_9C kC_Lab kD_Lab (le11 rfl rfl rfl rfl rfl rfl rfl rfl rfl rfl rfl) rfl rfl (fun q hq => ?_)
  refine r_dup dX1_init_17 rfl ?_
  refine r_callIP (As := []) dX1_init_18 (tX2_init fup_eq) rfl oX2_init rfl rfl rfl kX1_17M nX2_init (by unfold fRoom; decide) (Nat.le_of_ble_eq_true rfl) (bc' := 186) (bs' := 2430) rfl rfl (fun E M9 h => by cases h.1) (fun v M3 hv => ?_)
  obtain ⟨hv1, v2, hv2, hv3, hv4⟩ := hv
  cases hv1
  show fR _ _ _ 21 _ (.ref q :: .ref a :: []) _ _ _ _
  have e3 := e2.new (M' := fup M2 q labZ) (by omega) hq (by rw [fup_eq]; exact fun z => by cases z) (fun b hb => fup_ne hb)
  have hv' : v2 0 = nw (nw (fun _ => a) 1 q1) 2 q 2 := by rw [nw_eq]; exact hv2
  have e4 := e3.app (by omega) hv' hv3 (by omega)
  have oa := Ex.old (i := 0) e3 hv' hv3 (by omega)
  have o1 := Ex.old (i := 1) e3 hv' hv3 (by omega)
  replace oa : M3 a = fup M2 q labZ a := oa
  replace o1 : M3 q1 = fup M2 q labZ q1 := o1
  have ya := oa.trans ((fup_ne (nn_ne xa hq)).trans xa)
  have y1 := o1.trans ((fup_ne (nn_ne x1 hq)).trans x1)
  refine r_putF (k := 1) (fs' := [.ref q1, .ref q, .int 0, .int 0]) dX1_init_21 ya rfl (by decide) kX1_18F rfl rfl rfl rfl rfl (Nat.le_of_ble_eq_true rfl) rfl ?_
  have e5 := e4.set (i := 0) (M' := fup M3 a (.inl (1, [.ref q1, .ref q, .int 0, .int 0]))) (by omega) (by show fup M3 a _ a ≠ none; rw [fup_eq]; exact fun z => by cases z) (fun b hb => fup_ne hb)
  have k2 : ∀ j, ap (nw (nw (fun _ => a) 1 q1) 2 q) 2 v2 (2 + j) = v2 j := fun j => ap_add
  have w2 : ap (nw (nw (fun _ => a) 1 q1) 2 q) 2 v2 2 = q := by have := k2 0; rw [Nat.add_zero] at this; rw [this, hv2]
  have mv : ∀ j, j < 31 → fup M3 a (.inl (1, [.ref q1, .ref q, .int 0, .int 0])) (v2 j) = M3 (v2 j) := fun j hj => by
    have h9 := e4.1 (2 + j) 0 (by omega) (by omega)
    rw [k2] at h9
    exact fup_ne (fun z => by have := h9 z; omega)
  refine r_iconst (v := nI 0) dX1_init_24 (by decide) ?_
  refine r_istore_n (lv' := [(1, .int (nI 0)), (0, .ref a)]) dX1_init_25 (by decide) rfl ?_
  refine lX1_init (M0 := M) (fun M4 w4 hw4 hE4 hH4 => ?_) 6 0 _ _ (by omega) rfl e5 ⟨?_, ⟨_, (fup_ne n1.symm).trans y1, fun j hj => by omega⟩, hv4.eq (fun j hj => ⟨k2 j, mv j hj⟩), fun j hj => by omega⟩
  · exact fR_vret dX1_init_51 rfl ⟨rfl, w4, hw4, hE4, hH4⟩
  · rw [w2]; exact fup_eq
