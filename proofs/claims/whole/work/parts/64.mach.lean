/-! THE CLASS'S READING OF ORDERS, as a machine -/
theorem fR_aret {l : Launch} {κ : KP} {μ : MD} {pc : Nat} {lv : List (Nat × Value)} {M : Mem} {bc bs : Nat} {P : FPost} {a : Nat} {n : String} (d : decode (mB μ) pc = .ok (.areturn, 1)) (hr : mT μ = some (.object n)) (hP : P (.inl (some (.ref a))) M) : fR l κ μ pc lv [.ref a] M bc bs P := by
  intro p e s m args below meth c C H locs cells slots ls hW hS hl hc hs
  refine W.widen (k := (mR μ).cells) (n := (mR μ).slots) (by omega) (by omega) (vx_ret ?_)
  exact W.aret C.2.1 C.2.2.1 (C.2.2.2.1.trans hr) (Or.inl ⟨n, rfl⟩) (Or.inr ⟨a, rfl⟩) (fun t ht hw => ⟨⟨_, M, rfl, hP, by rw [ht]; exact hW.moved hw.alike⟩, hS.F ht⟩) hS.2.2 d (hlocks := C.2.2.2.2.2.2.2.1)
def lstK (k : Nat) : Nat := if k = 77 then 1 else if k = 83 then 1 else if k = 87 then 50 else 0
def mstK (k : Nat) : Nat := if k = 66 then 2 else if k = 68 then 5 else if k = 78 then 2 else if k = 80 then 7 else if k = 83 then 60 else if k = 87 then 200 else 99
def cbN (least most : Nat) : Nat → Nat → Nat → Bool
  | 0, _, _ => false
  | N + 1, low, high => if low ≤ most ∧ least ≤ high then true else cbN least most N (low * 10) (high * 10 + 9)
def canN (v least most : Nat) : Bool := if v = 0 then decide (least = 0) else cbN least most 3 v v
def encV (v : Nat) : Int32 := if v = 1000 then -1 else nI v
def fillN (k tk v c : Nat) : Option Nat :=
  if k = 42 ∨ k = 47 ∨ (k = 66 ∧ c = 45) then (if 0 < tk ∨ (k ≠ 66 ∧ c ≠ k) then none else some 1000)
  else if c < 48 ∨ 57 < c ∨ (0 < tk ∧ (v = 0 ∨ v = 1000)) then none
  else if canN (v * 10 + (c - 48)) (lstK k) (mstK k) = true then some (v * 10 + (c - 48)) else none
def fullN (k tk v : Nat) : Bool := decide (0 < tk ∧ (v = 1000 ∨ (lstK k ≤ v ∧ v ≤ mstK k)))
def behN (c : Nat) : Nat := if c = 36 then 1 else if c = 43 then 5 else if c = 98 then 2 else if c = 110 then 3 else if c = 111 then 4 else if c = 115 then 1 else 0
/-- letter, what stands behind it, slot, how many figures are taken, the slot's number (1000 for a sign), the values -/
abbrev MS : Type := Nat × Nat × Nat × Nat × Nat × (Nat → Int32)
def clrS : MS := (32, 0, 0, 0, 0, fun _ => nI 0)
def accN : MS → Nat → Bool × MS
  | (lt, j, sl, tk, cv, vs), c =>
    if j = 0 then (decide (¬ behN c = 0), (c, behN c, sl, tk, cv, vs))
    else match fillN (kd j sl) tk cv c with
      | some v => (true, (lt, j, sl, tk + 1, v, upd vs sl (encV v)))
      | none => if fullN (kd j sl) tk cv = true ∧ sl + 1 < sLen j then
          (match fillN (kd j (sl + 1)) 0 0 c with
            | some v => (true, (lt, j, sl + 1, 1, v, upd vs (sl + 1) (encV v)))
            | none => (false, (lt, j, sl + 1, 0, 0, vs)))
        else (false, (lt, j, sl, tk, cv, vs))
theorem accN_c {lt j sl tk cv c : Nat} {vs : Nat → Int32} : accN (lt, j, sl, tk, cv, vs) c = if j = 0 then (decide (¬ behN c = 0), (c, behN c, sl, tk, cv, vs))
    else match fillN (kd j sl) tk cv c with
      | some v => (true, (lt, j, sl, tk + 1, v, upd vs sl (encV v)))
      | none => if fullN (kd j sl) tk cv = true ∧ sl + 1 < sLen j then
          (match fillN (kd j (sl + 1)) 0 0 c with
            | some v => (true, (lt, j, sl + 1, 1, v, upd vs (sl + 1) (encV v)))
            | none => (false, (lt, j, sl + 1, 0, 0, vs)))
        else (false, (lt, j, sl, tk, cv, vs)) := rfl
def cmpN : MS → Bool
  | (_, j, sl, tk, cv, _) => decide (¬ j = 0 ∧ sl + 1 = sLen j ∧ fullN (kd j sl) tk cv = true)
def MI : MS → Nat → Prop
  | (lt, j, sl, tk, cv, vs), b => lt < 128 ∧ j < 6 ∧ (j = 0 → sl = 0 ∧ tk = 0) ∧ (¬ j = 0 → sl < sLen j) ∧ (cv ≤ 200 ∨ (cv = 1000 ∧ 0 < tk)) ∧ (tk = 0 → cv = 0) ∧ tk ≤ b ∧ vs sl = encV cv ∧ (∀ i, sl < i → vs i = nI 0)
theorem behN_lt {c : Nat} : behN c < 6 := by unfold behN; (repeat' split) <;> omega
theorem cbN_le {least most : Nat} : ∀ N low high, cbN least most N low high = true → low ≤ most
  | 0, _, _, h => by cases h
  | N + 1, low, high, h => by
    unfold cbN at h
    split at h
    · rename_i h1; exact h1.1
    · have := cbN_le N _ _ h; omega
theorem canN_le {v least most : Nat} (h : canN v least most = true) : v ≤ most := by
  unfold canN at h
  split at h
  · omega
  · exact cbN_le _ _ _ h
theorem mstK_le {k : Nat} : mstK k ≤ 200 := by unfold mstK; (repeat' split) <;> omega
theorem lstK_le {k : Nat} : lstK k ≤ 50 := by unfold lstK; (repeat' split) <;> omega
theorem fillN_le {k tk v c x : Nat} (h : fillN k tk v c = some x) : x ≤ 200 ∨ x = 1000 := by
  unfold fillN at h
  split at h
  · split at h
    · cases h
    · cases h; exact Or.inr rfl
  · split at h
    · cases h
    · split at h
      · rename_i h1
        cases h
        have := canN_le h1
        have := mstK_le (k := k)
        exact Or.inl (by omega)
      · cases h
theorem MI_clr : MI clrS 0 := ⟨by omega, by omega, fun _ => ⟨rfl, rfl⟩, fun h => absurd rfl h, Or.inl (by omega), fun _ => rfl, Nat.le_refl _, rfl, fun _ _ => rfl⟩
theorem MI_acc {s : MS} {b c : Nat} (h : MI s b) (hc : c < 128) : MI (accN s c).2 (b + 1) := by
  obtain ⟨lt, j, sl, tk, cv, vs⟩ := s
  obtain ⟨h1, h2, h3, h4, h5, h6, h7, h8, h9⟩ := h
  rw [accN_c]
  by_cases hj : j = 0
  · rw [if_pos hj]
    obtain ⟨e1, e2⟩ := h3 hj
    refine ⟨hc, behN_lt, fun _ => ⟨e1, e2⟩, fun h => ?_, h5, h6, by omega, h8, h9⟩
    have : 0 < sLen (behN c) := Nat.pos_of_ne_zero (fun z => h ((sLen_0 behN_lt).mp z))
    omega
  · rw [if_neg hj]
    cases hf : fillN (kd j sl) tk cv c with
    | some v =>
      refine ⟨h1, h2, fun z => absurd z hj, h4, (fillN_le hf).imp id (fun z => ⟨z, by omega⟩), fun z => by omega, by omega, pk_us, fun i hi => ?_⟩
      rw [pk_un (by omega)]; exact h9 i hi
    | none =>
      simp only []
      split
      · rename_i h10
        cases hf2 : fillN (kd j (sl + 1)) 0 0 c with
        | some v =>
          refine ⟨h1, h2, fun z => absurd z hj, fun _ => h10.2, (fillN_le hf2).imp id (fun z => ⟨z, by omega⟩), fun z => by omega, by omega, pk_us, fun i hi => ?_⟩
          rw [pk_un (by omega)]; exact h9 i (by omega)
        | none =>
          refine ⟨h1, h2, fun z => absurd z hj, fun _ => h10.2, Or.inl (by omega), fun _ => rfl, by omega, h9 _ (by omega), fun i hi => h9 i (by omega)⟩
      · exact ⟨h1, h2, h3, h4, h5, h6, by omega, h8, h9⟩
theorem lk_least_all : ((List.range 128).all fun c => c == 77 || c == 83 || c == 87 || decide (Op.lookupswitch.offset [(77, 38), (83, 38), (87, 35)] 40 (nI c).toInt = 40)) = true := by decide +kernel
theorem lk_least (c : Nat) (hc : c < 128) : ¬ c = 77 → ¬ c = 83 → ¬ c = 87 → Op.lookupswitch.offset [(77, 38), (83, 38), (87, 35)] 40 (nI c).toInt = 40 := by
  have h := List.all_eq_true.mp lk_least_all c (List.mem_range.mpr hc)
  simp only [Bool.or_eq_true, beq_iff_eq, decide_eq_true_eq] at h
  intro h0 h1 h2
  simpa only [h0, h1, h2, false_or] using h
theorem lk_most_all : ((List.range 128).all fun c => c == 66 || c == 68 || c == 78 || c == 80 || c == 83 || c == 87 || decide (Op.lookupswitch.offset [(66, 64), (68, 59), (78, 66), (80, 61), (83, 72), (87, 68)] 75 (nI c).toInt = 75)) = true := by decide +kernel
theorem lk_most (c : Nat) (hc : c < 128) : ¬ c = 66 → ¬ c = 68 → ¬ c = 78 → ¬ c = 80 → ¬ c = 83 → ¬ c = 87 → Op.lookupswitch.offset [(66, 64), (68, 59), (78, 66), (80, 61), (83, 72), (87, 68)] 75 (nI c).toInt = 75 := by
  have h := List.all_eq_true.mp lk_most_all c (List.mem_range.mpr hc)
  simp only [Bool.or_eq_true, beq_iff_eq, decide_eq_true_eq] at h
  intro h0 h1 h2 h3 h4 h5
  simpa only [h0, h1, h2, h3, h4, h5, false_or] using h
theorem lk_beh_all : ((List.range 128).all fun c => c == 36 || c == 43 || c == 98 || c == 110 || c == 111 || c == 115 || decide (Op.lookupswitch.offset [(36, 59), (43, 71), (98, 62), (110, 65), (111, 68), (115, 59)] 74 (nI c).toInt = 74)) = true := by decide +kernel
theorem lk_beh (c : Nat) (hc : c < 128) : ¬ c = 36 → ¬ c = 43 → ¬ c = 98 → ¬ c = 110 → ¬ c = 111 → ¬ c = 115 → Op.lookupswitch.offset [(36, 59), (43, 71), (98, 62), (110, 65), (111, 68), (115, 59)] 74 (nI c).toInt = 74 := by
  have h := List.all_eq_true.mp lk_beh_all c (List.mem_range.mpr hc)
  simp only [Bool.or_eq_true, beq_iff_eq, decide_eq_true_eq] at h
  intro h0 h1 h2 h3 h4 h5
  simpa only [h0, h1, h2, h3, h4, h5, false_or] using h
theorem tX5_least {l : Launch} {κ : KP} {M : Mem} {k : Nat} (hk : k < 128) : fM l κ mX5_least [.int (nI (k))] M (isI (nI (lstK k)) M) := by
  refine fM_of rfl (by decide +kernel) (Nat.le_of_ble_eq_true rfl) ?_
  show fR l κ mX5_least 0 [(0, .int (nI (k)))] [] M 0 0 _
  refine r_iload_n dX5_least_0 rfl ?_
  by_cases c1 : k = 77
  · skip
    refine r_top (y := nI 77) (by rw [c1]) ?_
    refine r_lookup (off := 38) (tgt := 39) dX5_least_1 (by decide) (by decide) (by decide) ?_
    refine r_iconst (v := nI 1) dX5_least_39 (by decide) ?_
    exact fR_iret dX5_least_40 rfl (isI_of (by unfold lstK; (repeat (first | rw [if_pos (by first | assumption | exact Int32.not_le.mp (by assumption) | exact Int32.not_lt.mp (by assumption) | omega)] | rw [if_neg (by first | assumption | exact Int32.not_lt.mpr (by assumption) | exact Int32.not_le.mpr (by assumption) | exact bne_of (by assumption) | exact not_not_intro (by assumption) | omega)])); first | done | rfl))
  · skip
    by_cases c2 : k = 83
    · skip
      refine r_top (y := nI 83) (by rw [c2]) ?_
      refine r_lookup (off := 38) (tgt := 39) dX5_least_1 (by decide) (by decide) (by decide) ?_
      refine r_iconst (v := nI 1) dX5_least_39 (by decide) ?_
      exact fR_iret dX5_least_40 rfl (isI_of (by unfold lstK; (repeat (first | rw [if_pos (by first | assumption | exact Int32.not_le.mp (by assumption) | exact Int32.not_lt.mp (by assumption) | omega)] | rw [if_neg (by first | assumption | exact Int32.not_lt.mpr (by assumption) | exact Int32.not_le.mpr (by assumption) | exact bne_of (by assumption) | exact not_not_intro (by assumption) | omega)])); first | done | rfl))
    · skip
      by_cases c3 : k = 87
      · skip
        refine r_top (y := nI 87) (by rw [c3]) ?_
        refine r_lookup (off := 35) (tgt := 36) dX5_least_1 (by decide) (by decide) (by decide) ?_
        refine r_bipush (v := nI 50) dX5_least_36 (by decide) ?_
        exact fR_iret dX5_least_38 rfl (isI_of (by unfold lstK; (repeat (first | rw [if_pos (by first | assumption | exact Int32.not_le.mp (by assumption) | exact Int32.not_lt.mp (by assumption) | omega)] | rw [if_neg (by first | assumption | exact Int32.not_lt.mpr (by assumption) | exact Int32.not_le.mpr (by assumption) | exact bne_of (by assumption) | exact not_not_intro (by assumption) | omega)])); first | done | rfl))
      · skip
        refine r_lookup (off := 40) (tgt := 41) dX5_least_1 (by decide) (lk_least _ (by omega) (by assumption) (by assumption) (by assumption)) (by decide) ?_
        refine r_iconst (v := nI 0) dX5_least_41 (by decide) ?_
        exact fR_iret dX5_least_42 rfl (isI_of (by unfold lstK; (repeat (first | rw [if_pos (by first | assumption | exact Int32.not_le.mp (by assumption) | exact Int32.not_lt.mp (by assumption) | omega)] | rw [if_neg (by first | assumption | exact Int32.not_lt.mpr (by assumption) | exact Int32.not_le.mpr (by assumption) | exact bne_of (by assumption) | exact not_not_intro (by assumption) | omega)])); first | done | rfl))
theorem tX5_most {l : Launch} {κ : KP} {M : Mem} {k : Nat} (hk : k < 128) : fM l κ mX5_most [.int (nI (k))] M (isI (nI (mstK k)) M) := by
  refine fM_of rfl (by decide +kernel) (Nat.le_of_ble_eq_true rfl) ?_
  show fR l κ mX5_most 0 [(0, .int (nI (k)))] [] M 0 0 _
  refine r_iload_n dX5_most_0 rfl ?_
  by_cases c1 : k = 66
  · skip
    refine r_top (y := nI 66) (by rw [c1]) ?_
    refine r_lookup (off := 64) (tgt := 65) dX5_most_1 (by decide) (by decide) (by decide) ?_
    refine r_iconst (v := nI 2) dX5_most_65 (by decide) ?_
    exact fR_iret dX5_most_66 rfl (isI_of (by unfold mstK; (repeat (first | rw [if_pos (by first | assumption | exact Int32.not_le.mp (by assumption) | exact Int32.not_lt.mp (by assumption) | omega)] | rw [if_neg (by first | assumption | exact Int32.not_lt.mpr (by assumption) | exact Int32.not_le.mpr (by assumption) | exact bne_of (by assumption) | exact not_not_intro (by assumption) | omega)])); first | done | rfl))
  · skip
    by_cases c2 : k = 68
    · skip
      refine r_top (y := nI 68) (by rw [c2]) ?_
      refine r_lookup (off := 59) (tgt := 60) dX5_most_1 (by decide) (by decide) (by decide) ?_
      refine r_iconst (v := nI 5) dX5_most_60 (by decide) ?_
      exact fR_iret dX5_most_61 rfl (isI_of (by unfold mstK; (repeat (first | rw [if_pos (by first | assumption | exact Int32.not_le.mp (by assumption) | exact Int32.not_lt.mp (by assumption) | omega)] | rw [if_neg (by first | assumption | exact Int32.not_lt.mpr (by assumption) | exact Int32.not_le.mpr (by assumption) | exact bne_of (by assumption) | exact not_not_intro (by assumption) | omega)])); first | done | rfl))
    · skip
      by_cases c3 : k = 78
      · skip
        refine r_top (y := nI 78) (by rw [c3]) ?_
        refine r_lookup (off := 66) (tgt := 67) dX5_most_1 (by decide) (by decide) (by decide) ?_
        refine r_iconst (v := nI 2) dX5_most_67 (by decide) ?_
        exact fR_iret dX5_most_68 rfl (isI_of (by unfold mstK; (repeat (first | rw [if_pos (by first | assumption | exact Int32.not_le.mp (by assumption) | exact Int32.not_lt.mp (by assumption) | omega)] | rw [if_neg (by first | assumption | exact Int32.not_lt.mpr (by assumption) | exact Int32.not_le.mpr (by assumption) | exact bne_of (by assumption) | exact not_not_intro (by assumption) | omega)])); first | done | rfl))
      · skip
        by_cases c4 : k = 80
        · skip
          refine r_top (y := nI 80) (by rw [c4]) ?_
          refine r_lookup (off := 61) (tgt := 62) dX5_most_1 (by decide) (by decide) (by decide) ?_
          refine r_bipush (v := nI 7) dX5_most_62 (by decide) ?_
          exact fR_iret dX5_most_64 rfl (isI_of (by unfold mstK; (repeat (first | rw [if_pos (by first | assumption | exact Int32.not_le.mp (by assumption) | exact Int32.not_lt.mp (by assumption) | omega)] | rw [if_neg (by first | assumption | exact Int32.not_lt.mpr (by assumption) | exact Int32.not_le.mpr (by assumption) | exact bne_of (by assumption) | exact not_not_intro (by assumption) | omega)])); first | done | rfl))
        · skip
          by_cases c5 : k = 83
          · skip
            refine r_top (y := nI 83) (by rw [c5]) ?_
            refine r_lookup (off := 72) (tgt := 73) dX5_most_1 (by decide) (by decide) (by decide) ?_
            refine r_bipush (v := nI 60) dX5_most_73 (by decide) ?_
            exact fR_iret dX5_most_75 rfl (isI_of (by unfold mstK; (repeat (first | rw [if_pos (by first | assumption | exact Int32.not_le.mp (by assumption) | exact Int32.not_lt.mp (by assumption) | omega)] | rw [if_neg (by first | assumption | exact Int32.not_lt.mpr (by assumption) | exact Int32.not_le.mpr (by assumption) | exact bne_of (by assumption) | exact not_not_intro (by assumption) | omega)])); first | done | rfl))
          · skip
            by_cases c6 : k = 87
            · skip
              refine r_top (y := nI 87) (by rw [c6]) ?_
              refine r_lookup (off := 68) (tgt := 69) dX5_most_1 (by decide) (by decide) (by decide) ?_
              refine r_sipush (v := nI 200) dX5_most_69 (by decide) ?_
              exact fR_iret dX5_most_72 rfl (isI_of (by unfold mstK; (repeat (first | rw [if_pos (by first | assumption | exact Int32.not_le.mp (by assumption) | exact Int32.not_lt.mp (by assumption) | omega)] | rw [if_neg (by first | assumption | exact Int32.not_lt.mpr (by assumption) | exact Int32.not_le.mpr (by assumption) | exact bne_of (by assumption) | exact not_not_intro (by assumption) | omega)])); first | done | rfl))
            · skip
              refine r_lookup (off := 75) (tgt := 76) dX5_most_1 (by decide) (lk_most _ (by omega) (by assumption) (by assumption) (by assumption) (by assumption) (by assumption) (by assumption)) (by decide) ?_
              refine r_bipush (v := nI 99) dX5_most_76 (by decide) ?_
              exact fR_iret dX5_most_78 rfl (isI_of (by unfold mstK; (repeat (first | rw [if_pos (by first | assumption | exact Int32.not_le.mp (by assumption) | exact Int32.not_lt.mp (by assumption) | omega)] | rw [if_neg (by first | assumption | exact Int32.not_lt.mpr (by assumption) | exact Int32.not_le.mpr (by assumption) | exact bne_of (by assumption) | exact not_not_intro (by assumption) | omega)])); first | done | rfl))
theorem tX5_slotsBehind {l : Launch} {κ : KP} {M : Mem} {c : Nat} (hc : c < 128) : fM l κ mX5_slotsBehind [.int (nI (c))] M (isR (some (.ref (kK κ (behN c)))) M) := by
  refine fM_of rfl (by decide +kernel) (Nat.le_of_ble_eq_true rfl) ?_
  show fR l κ mX5_slotsBehind 0 [(0, .int (nI (c)))] [] M 0 0 _
  refine r_iload_n dX5_slotsBehind_0 rfl ?_
  by_cases c1 : c = 36
  · skip
    refine r_top (y := nI 36) (by rw [c1]) ?_
    refine r_lookup (off := 59) (tgt := 60) dX5_slotsBehind_1 (by decide) (by decide) (by decide) ?_
    refine r_ldcS (j := 1) (tx := "D") dX5_slotsBehind_60 (List.mem_of_getElem? (i := 1) rfl) ?_
    have e : behN c = 1 := by unfold behN; (repeat (first | rw [if_pos (by first | assumption | exact Int32.not_le.mp (by assumption) | exact Int32.not_lt.mp (by assumption) | omega)] | rw [if_neg (by first | assumption | exact Int32.not_lt.mpr (by assumption) | exact Int32.not_le.mpr (by assumption) | exact bne_of (by assumption) | exact not_not_intro (by assumption) | omega)])); first | done | rfl
    exact fR_aret dX5_slotsBehind_62 rfl ⟨by rw [e], rfl⟩
  · skip
    by_cases c2 : c = 43
    · skip
      refine r_top (y := nI 43) (by rw [c2]) ?_
      refine r_lookup (off := 71) (tgt := 72) dX5_slotsBehind_1 (by decide) (by decide) (by decide) ?_
      refine r_ldcS (j := 5) (tx := "M") dX5_slotsBehind_72 (List.mem_of_getElem? (i := 5) rfl) ?_
      have e : behN c = 5 := by unfold behN; (repeat (first | rw [if_pos (by first | assumption | exact Int32.not_le.mp (by assumption) | exact Int32.not_lt.mp (by assumption) | omega)] | rw [if_neg (by first | assumption | exact Int32.not_lt.mpr (by assumption) | exact Int32.not_le.mpr (by assumption) | exact bne_of (by assumption) | exact not_not_intro (by assumption) | omega)])); first | done | rfl
      exact fR_aret dX5_slotsBehind_74 rfl ⟨by rw [e], rfl⟩
    · skip
      by_cases c3 : c = 98
      · skip
        refine r_top (y := nI 98) (by rw [c3]) ?_
        refine r_lookup (off := 62) (tgt := 63) dX5_slotsBehind_1 (by decide) (by decide) (by decide) ?_
        refine r_ldcS (j := 2) (tx := "PB") dX5_slotsBehind_63 (List.mem_of_getElem? (i := 2) rfl) ?_
        have e : behN c = 2 := by unfold behN; (repeat (first | rw [if_pos (by first | assumption | exact Int32.not_le.mp (by assumption) | exact Int32.not_lt.mp (by assumption) | omega)] | rw [if_neg (by first | assumption | exact Int32.not_lt.mpr (by assumption) | exact Int32.not_le.mpr (by assumption) | exact bne_of (by assumption) | exact not_not_intro (by assumption) | omega)])); first | done | rfl
        exact fR_aret dX5_slotsBehind_65 rfl ⟨by rw [e], rfl⟩
      · skip
        by_cases c4 : c = 110
        · skip
          refine r_top (y := nI 110) (by rw [c4]) ?_
          refine r_lookup (off := 65) (tgt := 66) dX5_slotsBehind_1 (by decide) (by decide) (by decide) ?_
          refine r_ldcS (j := 3) (tx := "NP*W/S") dX5_slotsBehind_66 (List.mem_of_getElem? (i := 3) rfl) ?_
          have e : behN c = 3 := by unfold behN; (repeat (first | rw [if_pos (by first | assumption | exact Int32.not_le.mp (by assumption) | exact Int32.not_lt.mp (by assumption) | omega)] | rw [if_neg (by first | assumption | exact Int32.not_lt.mpr (by assumption) | exact Int32.not_le.mpr (by assumption) | exact bne_of (by assumption) | exact not_not_intro (by assumption) | omega)])); first | done | rfl
          exact fR_aret dX5_slotsBehind_68 rfl ⟨by rw [e], rfl⟩
        · skip
          by_cases c5 : c = 111
          · skip
            refine r_top (y := nI 111) (by rw [c5]) ?_
            refine r_lookup (off := 68) (tgt := 69) dX5_slotsBehind_1 (by decide) (by decide) (by decide) ?_
            refine r_ldcS (j := 4) (tx := "P") dX5_slotsBehind_69 (List.mem_of_getElem? (i := 4) rfl) ?_
            have e : behN c = 4 := by unfold behN; (repeat (first | rw [if_pos (by first | assumption | exact Int32.not_le.mp (by assumption) | exact Int32.not_lt.mp (by assumption) | omega)] | rw [if_neg (by first | assumption | exact Int32.not_lt.mpr (by assumption) | exact Int32.not_le.mpr (by assumption) | exact bne_of (by assumption) | exact not_not_intro (by assumption) | omega)])); first | done | rfl
            exact fR_aret dX5_slotsBehind_71 rfl ⟨by rw [e], rfl⟩
          · skip
            by_cases c6 : c = 115
            · skip
              refine r_top (y := nI 115) (by rw [c6]) ?_
              refine r_lookup (off := 59) (tgt := 60) dX5_slotsBehind_1 (by decide) (by decide) (by decide) ?_
              refine r_ldcS (j := 1) (tx := "D") dX5_slotsBehind_60 (List.mem_of_getElem? (i := 1) rfl) ?_
              have e : behN c = 1 := by unfold behN; (repeat (first | rw [if_pos (by first | assumption | exact Int32.not_le.mp (by assumption) | exact Int32.not_lt.mp (by assumption) | omega)] | rw [if_neg (by first | assumption | exact Int32.not_lt.mpr (by assumption) | exact Int32.not_le.mpr (by assumption) | exact bne_of (by assumption) | exact not_not_intro (by assumption) | omega)])); first | done | rfl
              exact fR_aret dX5_slotsBehind_62 rfl ⟨by rw [e], rfl⟩
            · skip
              refine r_lookup (off := 74) (tgt := 75) dX5_slotsBehind_1 (by decide) (lk_beh _ (by omega) (by assumption) (by assumption) (by assumption) (by assumption) (by assumption) (by assumption)) (by decide) ?_
              refine r_ldcS (j := 0) (tx := "") dX5_slotsBehind_75 (List.mem_of_getElem? (i := 0) rfl) ?_
              have e : behN c = 0 := by unfold behN; (repeat (first | rw [if_pos (by first | assumption | exact Int32.not_le.mp (by assumption) | exact Int32.not_lt.mp (by assumption) | omega)] | rw [if_neg (by first | assumption | exact Int32.not_lt.mpr (by assumption) | exact Int32.not_le.mpr (by assumption) | exact bne_of (by assumption) | exact not_not_intro (by assumption) | omega)])); first | done | rfl
              exact fR_aret dX5_slotsBehind_77 rfl ⟨by rw [e], rfl⟩
theorem tX5_canBecome {l : Launch} {κ : KP} {M : Mem} {v least most : Nat} (hv : v ≤ 20000) (hl : least ≤ 50) (hm : most ≤ 200) : fM l κ mX5_canBecome [.int (nI (v)), .int (nI (least)), .int (nI (most))] M (isI (bI (canN v least most)) M) := by
  refine fM_of rfl (by decide +kernel) (Nat.le_of_ble_eq_true rfl) ?_
  show fR l κ mX5_canBecome 0 [(0, .int (nI (v))), (1, .int (nI (least))), (2, .int (nI (most)))] [] M 0 0 _
  refine r_iload_n dX5_canBecome_0 rfl ?_
  refine r_if_neN (tgt := 14) dX5_canBecome_1 (by decide) (by omega) (fun c1 => ?_) (fun c1 => ?_)
  · skip
    refine r_iload_n dX5_canBecome_14 rfl ?_
    refine r_istore_n (lv' := [(3, .int (nI (v))), (0, .int (nI (v))), (1, .int (nI (least))), (2, .int (nI (most)))]) dX5_canBecome_15 (by decide) rfl ?_
    refine r_iload_n dX5_canBecome_16 rfl ?_
    refine r_istore (lv' := [(4, .int (nI (v))), (3, .int (nI (v))), (0, .int (nI (v))), (1, .int (nI (least))), (2, .int (nI (most)))]) dX5_canBecome_17 (by decide) rfl ?_
    refine r_iconst (v := nI 0) dX5_canBecome_19 (by decide) ?_
    refine r_istore (lv' := [(5, .int (nI (0))), (4, .int (nI (v))), (3, .int (nI (v))), (0, .int (nI (v))), (1, .int (nI (least))), (2, .int (nI (most)))]) dX5_canBecome_20 (by decide) rfl ?_
    refine r_iload dX5_canBecome_22 rfl ?_
    refine r_iconst (v := nI 3) dX5_canBecome_24 (by decide) ?_
    refine r_icmp_geN (tgt := 62) dX5_canBecome_25 (by decide) (by omega) (by omega) (fun c2 => absurd c2 (by omega)) (fun c2 => ?_)
    refine r_iload_n dX5_canBecome_28 rfl ?_
    refine r_iload_n dX5_canBecome_29 rfl ?_
    refine r_icmp_gtN (tgt := 41) dX5_canBecome_30 (by decide) (by omega) (by omega) (fun c3 => ?_) (fun c3 => ?_)
    · skip
      refine r_iload_n dX5_canBecome_41 rfl ?_
      refine r_bipush (v := nI 10) dX5_canBecome_42 (by decide) ?_
      refine r_imulN dX5_canBecome_44 ?_
      refine r_istore_n (lv' := [(3, .int (nI ((v * 10)))), (5, .int (nI (0))), (4, .int (nI (v))), (0, .int (nI (v))), (1, .int (nI (least))), (2, .int (nI (most)))]) dX5_canBecome_45 (by decide) rfl ?_
      refine r_iload dX5_canBecome_46 rfl ?_
      refine r_bipush (v := nI 10) dX5_canBecome_48 (by decide) ?_
      refine r_imulN dX5_canBecome_50 ?_
      refine r_bipush (v := nI 9) dX5_canBecome_51 (by decide) ?_
      refine r_iaddN dX5_canBecome_53 ?_
      refine r_istore (lv' := [(4, .int (nI (((v * 10) + 9)))), (3, .int (nI ((v * 10)))), (5, .int (nI (0))), (0, .int (nI (v))), (1, .int (nI (least))), (2, .int (nI (most)))]) dX5_canBecome_54 (by decide) rfl ?_
      refine r_iinc (v := (nI (0 + 1))) (lv' := [(5, .int (nI (0 + 1))), (4, .int (nI (((v * 10) + 9)))), (3, .int (nI ((v * 10)))), (0, .int (nI (v))), (1, .int (nI (least))), (2, .int (nI (most)))]) dX5_canBecome_56 rfl (nI_inc _) (by decide) rfl ?_
      refine r_goto (tgt := 22) dX5_canBecome_59 (by decide) ?_
      refine r_iload dX5_canBecome_22 rfl ?_
      refine r_iconst (v := nI 3) dX5_canBecome_24 (by decide) ?_
      refine r_icmp_geN (tgt := 62) dX5_canBecome_25 (by decide) (by omega) (by omega) (fun c4 => absurd c4 (by omega)) (fun c4 => ?_)
      refine r_iload_n dX5_canBecome_28 rfl ?_
      refine r_iload_n dX5_canBecome_29 rfl ?_
      refine r_icmp_gtN (tgt := 41) dX5_canBecome_30 (by decide) (by omega) (by omega) (fun c5 => ?_) (fun c5 => ?_)
      · skip
        refine r_iload_n dX5_canBecome_41 rfl ?_
        refine r_bipush (v := nI 10) dX5_canBecome_42 (by decide) ?_
        refine r_imulN dX5_canBecome_44 ?_
        refine r_istore_n (lv' := [(3, .int (nI (((v * 10) * 10)))), (5, .int (nI (0 + 1))), (4, .int (nI (((v * 10) + 9)))), (0, .int (nI (v))), (1, .int (nI (least))), (2, .int (nI (most)))]) dX5_canBecome_45 (by decide) rfl ?_
        refine r_iload dX5_canBecome_46 rfl ?_
        refine r_bipush (v := nI 10) dX5_canBecome_48 (by decide) ?_
        refine r_imulN dX5_canBecome_50 ?_
        refine r_bipush (v := nI 9) dX5_canBecome_51 (by decide) ?_
        refine r_iaddN dX5_canBecome_53 ?_
        refine r_istore (lv' := [(4, .int (nI (((((v * 10) + 9) * 10) + 9)))), (3, .int (nI (((v * 10) * 10)))), (5, .int (nI (0 + 1))), (0, .int (nI (v))), (1, .int (nI (least))), (2, .int (nI (most)))]) dX5_canBecome_54 (by decide) rfl ?_
        refine r_iinc (v := (nI (0 + 1 + 1))) (lv' := [(5, .int (nI (0 + 1 + 1))), (4, .int (nI (((((v * 10) + 9) * 10) + 9)))), (3, .int (nI (((v * 10) * 10)))), (0, .int (nI (v))), (1, .int (nI (least))), (2, .int (nI (most)))]) dX5_canBecome_56 rfl (nI_inc _) (by decide) rfl ?_
        refine r_goto (tgt := 22) dX5_canBecome_59 (by decide) ?_
        refine r_iload dX5_canBecome_22 rfl ?_
        refine r_iconst (v := nI 3) dX5_canBecome_24 (by decide) ?_
        refine r_icmp_geN (tgt := 62) dX5_canBecome_25 (by decide) (by omega) (by omega) (fun c6 => absurd c6 (by omega)) (fun c6 => ?_)
        refine r_iload_n dX5_canBecome_28 rfl ?_
        refine r_iload_n dX5_canBecome_29 rfl ?_
        refine r_icmp_gtN (tgt := 41) dX5_canBecome_30 (by decide) (by omega) (by omega) (fun c7 => ?_) (fun c7 => ?_)
        · skip
          refine r_iload_n dX5_canBecome_41 rfl ?_
          refine r_bipush (v := nI 10) dX5_canBecome_42 (by decide) ?_
          refine r_imulN dX5_canBecome_44 ?_
          refine r_istore_n (lv' := [(3, .int (nI ((((v * 10) * 10) * 10)))), (5, .int (nI (0 + 1 + 1))), (4, .int (nI (((((v * 10) + 9) * 10) + 9)))), (0, .int (nI (v))), (1, .int (nI (least))), (2, .int (nI (most)))]) dX5_canBecome_45 (by decide) rfl ?_
          refine r_iload dX5_canBecome_46 rfl ?_
          refine r_bipush (v := nI 10) dX5_canBecome_48 (by decide) ?_
          refine r_imulN dX5_canBecome_50 ?_
          refine r_bipush (v := nI 9) dX5_canBecome_51 (by decide) ?_
          refine r_iaddN dX5_canBecome_53 ?_
          refine r_istore (lv' := [(4, .int (nI (((((((v * 10) + 9) * 10) + 9) * 10) + 9)))), (3, .int (nI ((((v * 10) * 10) * 10)))), (5, .int (nI (0 + 1 + 1))), (0, .int (nI (v))), (1, .int (nI (least))), (2, .int (nI (most)))]) dX5_canBecome_54 (by decide) rfl ?_
          refine r_iinc (v := (nI (0 + 1 + 1 + 1))) (lv' := [(5, .int (nI (0 + 1 + 1 + 1))), (4, .int (nI (((((((v * 10) + 9) * 10) + 9) * 10) + 9)))), (3, .int (nI ((((v * 10) * 10) * 10)))), (0, .int (nI (v))), (1, .int (nI (least))), (2, .int (nI (most)))]) dX5_canBecome_56 rfl (nI_inc _) (by decide) rfl ?_
          refine r_goto (tgt := 22) dX5_canBecome_59 (by decide) ?_
          refine r_iload dX5_canBecome_22 rfl ?_
          refine r_iconst (v := nI 3) dX5_canBecome_24 (by decide) ?_
          refine r_icmp_geN (tgt := 62) dX5_canBecome_25 (by decide) (by omega) (by omega) (fun c8 => ?_) (fun c8 => absurd c8 (by omega))
          refine r_iconst (v := nI 0) dX5_canBecome_62 (by decide) ?_
          exact fR_zret dX5_canBecome_63 rfl rfl (isI_of (bJ_f (by unfold canN cbN; (repeat (first | rw [if_pos (by omega)] | rw [if_neg (by omega)])); (try unfold cbN); (repeat (first | rw [if_pos (by omega)] | rw [if_neg (by omega)])); (try unfold cbN); (repeat (first | rw [if_pos (by omega)] | rw [if_neg (by omega)])); (try first | rfl | exact decide_eq_true (by omega) | exact decide_eq_false (by omega)))))
        · skip
          refine r_iload dX5_canBecome_33 rfl ?_
          refine r_iload_n dX5_canBecome_35 rfl ?_
          refine r_icmp_ltN (tgt := 41) dX5_canBecome_36 (by decide) (by omega) (by omega) (fun c9 => ?_) (fun c9 => ?_)
          · skip
            refine r_iload_n dX5_canBecome_41 rfl ?_
            refine r_bipush (v := nI 10) dX5_canBecome_42 (by decide) ?_
            refine r_imulN dX5_canBecome_44 ?_
            refine r_istore_n (lv' := [(3, .int (nI ((((v * 10) * 10) * 10)))), (5, .int (nI (0 + 1 + 1))), (4, .int (nI (((((v * 10) + 9) * 10) + 9)))), (0, .int (nI (v))), (1, .int (nI (least))), (2, .int (nI (most)))]) dX5_canBecome_45 (by decide) rfl ?_
            refine r_iload dX5_canBecome_46 rfl ?_
            refine r_bipush (v := nI 10) dX5_canBecome_48 (by decide) ?_
            refine r_imulN dX5_canBecome_50 ?_
            refine r_bipush (v := nI 9) dX5_canBecome_51 (by decide) ?_
            refine r_iaddN dX5_canBecome_53 ?_
            refine r_istore (lv' := [(4, .int (nI (((((((v * 10) + 9) * 10) + 9) * 10) + 9)))), (3, .int (nI ((((v * 10) * 10) * 10)))), (5, .int (nI (0 + 1 + 1))), (0, .int (nI (v))), (1, .int (nI (least))), (2, .int (nI (most)))]) dX5_canBecome_54 (by decide) rfl ?_
            refine r_iinc (v := (nI (0 + 1 + 1 + 1))) (lv' := [(5, .int (nI (0 + 1 + 1 + 1))), (4, .int (nI (((((((v * 10) + 9) * 10) + 9) * 10) + 9)))), (3, .int (nI ((((v * 10) * 10) * 10)))), (0, .int (nI (v))), (1, .int (nI (least))), (2, .int (nI (most)))]) dX5_canBecome_56 rfl (nI_inc _) (by decide) rfl ?_
            refine r_goto (tgt := 22) dX5_canBecome_59 (by decide) ?_
            refine r_iload dX5_canBecome_22 rfl ?_
            refine r_iconst (v := nI 3) dX5_canBecome_24 (by decide) ?_
            refine r_icmp_geN (tgt := 62) dX5_canBecome_25 (by decide) (by omega) (by omega) (fun c10 => ?_) (fun c10 => absurd c10 (by omega))
            refine r_iconst (v := nI 0) dX5_canBecome_62 (by decide) ?_
            exact fR_zret dX5_canBecome_63 rfl rfl (isI_of (bJ_f (by unfold canN cbN; (repeat (first | rw [if_pos (by omega)] | rw [if_neg (by omega)])); (try unfold cbN); (repeat (first | rw [if_pos (by omega)] | rw [if_neg (by omega)])); (try unfold cbN); (repeat (first | rw [if_pos (by omega)] | rw [if_neg (by omega)])); (try first | rfl | exact decide_eq_true (by omega) | exact decide_eq_false (by omega)))))
          · skip
            refine r_iconst (v := nI 1) dX5_canBecome_39 (by decide) ?_
            exact fR_zret dX5_canBecome_40 rfl rfl (isI_of (bJ_t (by unfold canN cbN; (repeat (first | rw [if_pos (by omega)] | rw [if_neg (by omega)])); (try unfold cbN); (repeat (first | rw [if_pos (by omega)] | rw [if_neg (by omega)])); (try unfold cbN); (repeat (first | rw [if_pos (by omega)] | rw [if_neg (by omega)])); (try first | rfl | exact decide_eq_true (by omega) | exact decide_eq_false (by omega)))))
      · skip
        refine r_iload dX5_canBecome_33 rfl ?_
        refine r_iload_n dX5_canBecome_35 rfl ?_
        refine r_icmp_ltN (tgt := 41) dX5_canBecome_36 (by decide) (by omega) (by omega) (fun c11 => ?_) (fun c11 => ?_)
        · skip
          refine r_iload_n dX5_canBecome_41 rfl ?_
          refine r_bipush (v := nI 10) dX5_canBecome_42 (by decide) ?_
          refine r_imulN dX5_canBecome_44 ?_
          refine r_istore_n (lv' := [(3, .int (nI (((v * 10) * 10)))), (5, .int (nI (0 + 1))), (4, .int (nI (((v * 10) + 9)))), (0, .int (nI (v))), (1, .int (nI (least))), (2, .int (nI (most)))]) dX5_canBecome_45 (by decide) rfl ?_
          refine r_iload dX5_canBecome_46 rfl ?_
          refine r_bipush (v := nI 10) dX5_canBecome_48 (by decide) ?_
          refine r_imulN dX5_canBecome_50 ?_
          refine r_bipush (v := nI 9) dX5_canBecome_51 (by decide) ?_
          refine r_iaddN dX5_canBecome_53 ?_
          refine r_istore (lv' := [(4, .int (nI (((((v * 10) + 9) * 10) + 9)))), (3, .int (nI (((v * 10) * 10)))), (5, .int (nI (0 + 1))), (0, .int (nI (v))), (1, .int (nI (least))), (2, .int (nI (most)))]) dX5_canBecome_54 (by decide) rfl ?_
          refine r_iinc (v := (nI (0 + 1 + 1))) (lv' := [(5, .int (nI (0 + 1 + 1))), (4, .int (nI (((((v * 10) + 9) * 10) + 9)))), (3, .int (nI (((v * 10) * 10)))), (0, .int (nI (v))), (1, .int (nI (least))), (2, .int (nI (most)))]) dX5_canBecome_56 rfl (nI_inc _) (by decide) rfl ?_
          refine r_goto (tgt := 22) dX5_canBecome_59 (by decide) ?_
          refine r_iload dX5_canBecome_22 rfl ?_
          refine r_iconst (v := nI 3) dX5_canBecome_24 (by decide) ?_
          refine r_icmp_geN (tgt := 62) dX5_canBecome_25 (by decide) (by omega) (by omega) (fun c12 => absurd c12 (by omega)) (fun c12 => ?_)
          refine r_iload_n dX5_canBecome_28 rfl ?_
          refine r_iload_n dX5_canBecome_29 rfl ?_
          refine r_icmp_gtN (tgt := 41) dX5_canBecome_30 (by decide) (by omega) (by omega) (fun c13 => ?_) (fun c13 => ?_)
          · skip
            refine r_iload_n dX5_canBecome_41 rfl ?_
            refine r_bipush (v := nI 10) dX5_canBecome_42 (by decide) ?_
            refine r_imulN dX5_canBecome_44 ?_
            refine r_istore_n (lv' := [(3, .int (nI ((((v * 10) * 10) * 10)))), (5, .int (nI (0 + 1 + 1))), (4, .int (nI (((((v * 10) + 9) * 10) + 9)))), (0, .int (nI (v))), (1, .int (nI (least))), (2, .int (nI (most)))]) dX5_canBecome_45 (by decide) rfl ?_
            refine r_iload dX5_canBecome_46 rfl ?_
            refine r_bipush (v := nI 10) dX5_canBecome_48 (by decide) ?_
            refine r_imulN dX5_canBecome_50 ?_
            refine r_bipush (v := nI 9) dX5_canBecome_51 (by decide) ?_
            refine r_iaddN dX5_canBecome_53 ?_
            refine r_istore (lv' := [(4, .int (nI (((((((v * 10) + 9) * 10) + 9) * 10) + 9)))), (3, .int (nI ((((v * 10) * 10) * 10)))), (5, .int (nI (0 + 1 + 1))), (0, .int (nI (v))), (1, .int (nI (least))), (2, .int (nI (most)))]) dX5_canBecome_54 (by decide) rfl ?_
            refine r_iinc (v := (nI (0 + 1 + 1 + 1))) (lv' := [(5, .int (nI (0 + 1 + 1 + 1))), (4, .int (nI (((((((v * 10) + 9) * 10) + 9) * 10) + 9)))), (3, .int (nI ((((v * 10) * 10) * 10)))), (0, .int (nI (v))), (1, .int (nI (least))), (2, .int (nI (most)))]) dX5_canBecome_56 rfl (nI_inc _) (by decide) rfl ?_
            refine r_goto (tgt := 22) dX5_canBecome_59 (by decide) ?_
            refine r_iload dX5_canBecome_22 rfl ?_
            refine r_iconst (v := nI 3) dX5_canBecome_24 (by decide) ?_
            refine r_icmp_geN (tgt := 62) dX5_canBecome_25 (by decide) (by omega) (by omega) (fun c14 => ?_) (fun c14 => absurd c14 (by omega))
            refine r_iconst (v := nI 0) dX5_canBecome_62 (by decide) ?_
            exact fR_zret dX5_canBecome_63 rfl rfl (isI_of (bJ_f (by unfold canN cbN; (repeat (first | rw [if_pos (by omega)] | rw [if_neg (by omega)])); (try unfold cbN); (repeat (first | rw [if_pos (by omega)] | rw [if_neg (by omega)])); (try unfold cbN); (repeat (first | rw [if_pos (by omega)] | rw [if_neg (by omega)])); (try first | rfl | exact decide_eq_true (by omega) | exact decide_eq_false (by omega)))))
          · skip
            refine r_iload dX5_canBecome_33 rfl ?_
            refine r_iload_n dX5_canBecome_35 rfl ?_
            refine r_icmp_ltN (tgt := 41) dX5_canBecome_36 (by decide) (by omega) (by omega) (fun c15 => ?_) (fun c15 => ?_)
            · skip
              refine r_iload_n dX5_canBecome_41 rfl ?_
              refine r_bipush (v := nI 10) dX5_canBecome_42 (by decide) ?_
              refine r_imulN dX5_canBecome_44 ?_
              refine r_istore_n (lv' := [(3, .int (nI ((((v * 10) * 10) * 10)))), (5, .int (nI (0 + 1 + 1))), (4, .int (nI (((((v * 10) + 9) * 10) + 9)))), (0, .int (nI (v))), (1, .int (nI (least))), (2, .int (nI (most)))]) dX5_canBecome_45 (by decide) rfl ?_
              refine r_iload dX5_canBecome_46 rfl ?_
              refine r_bipush (v := nI 10) dX5_canBecome_48 (by decide) ?_
              refine r_imulN dX5_canBecome_50 ?_
              refine r_bipush (v := nI 9) dX5_canBecome_51 (by decide) ?_
              refine r_iaddN dX5_canBecome_53 ?_
              refine r_istore (lv' := [(4, .int (nI (((((((v * 10) + 9) * 10) + 9) * 10) + 9)))), (3, .int (nI ((((v * 10) * 10) * 10)))), (5, .int (nI (0 + 1 + 1))), (0, .int (nI (v))), (1, .int (nI (least))), (2, .int (nI (most)))]) dX5_canBecome_54 (by decide) rfl ?_
              refine r_iinc (v := (nI (0 + 1 + 1 + 1))) (lv' := [(5, .int (nI (0 + 1 + 1 + 1))), (4, .int (nI (((((((v * 10) + 9) * 10) + 9) * 10) + 9)))), (3, .int (nI ((((v * 10) * 10) * 10)))), (0, .int (nI (v))), (1, .int (nI (least))), (2, .int (nI (most)))]) dX5_canBecome_56 rfl (nI_inc _) (by decide) rfl ?_
              refine r_goto (tgt := 22) dX5_canBecome_59 (by decide) ?_
              refine r_iload dX5_canBecome_22 rfl ?_
              refine r_iconst (v := nI 3) dX5_canBecome_24 (by decide) ?_
              refine r_icmp_geN (tgt := 62) dX5_canBecome_25 (by decide) (by omega) (by omega) (fun c16 => ?_) (fun c16 => absurd c16 (by omega))
              refine r_iconst (v := nI 0) dX5_canBecome_62 (by decide) ?_
              exact fR_zret dX5_canBecome_63 rfl rfl (isI_of (bJ_f (by unfold canN cbN; (repeat (first | rw [if_pos (by omega)] | rw [if_neg (by omega)])); (try unfold cbN); (repeat (first | rw [if_pos (by omega)] | rw [if_neg (by omega)])); (try unfold cbN); (repeat (first | rw [if_pos (by omega)] | rw [if_neg (by omega)])); (try first | rfl | exact decide_eq_true (by omega) | exact decide_eq_false (by omega)))))
            · skip
              refine r_iconst (v := nI 1) dX5_canBecome_39 (by decide) ?_
              exact fR_zret dX5_canBecome_40 rfl rfl (isI_of (bJ_t (by unfold canN cbN; (repeat (first | rw [if_pos (by omega)] | rw [if_neg (by omega)])); (try unfold cbN); (repeat (first | rw [if_pos (by omega)] | rw [if_neg (by omega)])); (try unfold cbN); (repeat (first | rw [if_pos (by omega)] | rw [if_neg (by omega)])); (try first | rfl | exact decide_eq_true (by omega) | exact decide_eq_false (by omega)))))
        · skip
          refine r_iconst (v := nI 1) dX5_canBecome_39 (by decide) ?_
          exact fR_zret dX5_canBecome_40 rfl rfl (isI_of (bJ_t (by unfold canN cbN; (repeat (first | rw [if_pos (by omega)] | rw [if_neg (by omega)])); (try unfold cbN); (repeat (first | rw [if_pos (by omega)] | rw [if_neg (by omega)])); (try unfold cbN); (repeat (first | rw [if_pos (by omega)] | rw [if_neg (by omega)])); (try first | rfl | exact decide_eq_true (by omega) | exact decide_eq_false (by omega)))))
    · skip
      refine r_iload dX5_canBecome_33 rfl ?_
      refine r_iload_n dX5_canBecome_35 rfl ?_
      refine r_icmp_ltN (tgt := 41) dX5_canBecome_36 (by decide) (by omega) (by omega) (fun c17 => ?_) (fun c17 => ?_)
      · skip
        refine r_iload_n dX5_canBecome_41 rfl ?_
        refine r_bipush (v := nI 10) dX5_canBecome_42 (by decide) ?_
        refine r_imulN dX5_canBecome_44 ?_
        refine r_istore_n (lv' := [(3, .int (nI ((v * 10)))), (5, .int (nI (0))), (4, .int (nI (v))), (0, .int (nI (v))), (1, .int (nI (least))), (2, .int (nI (most)))]) dX5_canBecome_45 (by decide) rfl ?_
        refine r_iload dX5_canBecome_46 rfl ?_
        refine r_bipush (v := nI 10) dX5_canBecome_48 (by decide) ?_
        refine r_imulN dX5_canBecome_50 ?_
        refine r_bipush (v := nI 9) dX5_canBecome_51 (by decide) ?_
        refine r_iaddN dX5_canBecome_53 ?_
        refine r_istore (lv' := [(4, .int (nI (((v * 10) + 9)))), (3, .int (nI ((v * 10)))), (5, .int (nI (0))), (0, .int (nI (v))), (1, .int (nI (least))), (2, .int (nI (most)))]) dX5_canBecome_54 (by decide) rfl ?_
        refine r_iinc (v := (nI (0 + 1))) (lv' := [(5, .int (nI (0 + 1))), (4, .int (nI (((v * 10) + 9)))), (3, .int (nI ((v * 10)))), (0, .int (nI (v))), (1, .int (nI (least))), (2, .int (nI (most)))]) dX5_canBecome_56 rfl (nI_inc _) (by decide) rfl ?_
        refine r_goto (tgt := 22) dX5_canBecome_59 (by decide) ?_
        refine r_iload dX5_canBecome_22 rfl ?_
        refine r_iconst (v := nI 3) dX5_canBecome_24 (by decide) ?_
        refine r_icmp_geN (tgt := 62) dX5_canBecome_25 (by decide) (by omega) (by omega) (fun c18 => absurd c18 (by omega)) (fun c18 => ?_)
        refine r_iload_n dX5_canBecome_28 rfl ?_
        refine r_iload_n dX5_canBecome_29 rfl ?_
        refine r_icmp_gtN (tgt := 41) dX5_canBecome_30 (by decide) (by omega) (by omega) (fun c19 => ?_) (fun c19 => ?_)
        · skip
          refine r_iload_n dX5_canBecome_41 rfl ?_
          refine r_bipush (v := nI 10) dX5_canBecome_42 (by decide) ?_
          refine r_imulN dX5_canBecome_44 ?_
          refine r_istore_n (lv' := [(3, .int (nI (((v * 10) * 10)))), (5, .int (nI (0 + 1))), (4, .int (nI (((v * 10) + 9)))), (0, .int (nI (v))), (1, .int (nI (least))), (2, .int (nI (most)))]) dX5_canBecome_45 (by decide) rfl ?_
          refine r_iload dX5_canBecome_46 rfl ?_
          refine r_bipush (v := nI 10) dX5_canBecome_48 (by decide) ?_
          refine r_imulN dX5_canBecome_50 ?_
          refine r_bipush (v := nI 9) dX5_canBecome_51 (by decide) ?_
          refine r_iaddN dX5_canBecome_53 ?_
          refine r_istore (lv' := [(4, .int (nI (((((v * 10) + 9) * 10) + 9)))), (3, .int (nI (((v * 10) * 10)))), (5, .int (nI (0 + 1))), (0, .int (nI (v))), (1, .int (nI (least))), (2, .int (nI (most)))]) dX5_canBecome_54 (by decide) rfl ?_
          refine r_iinc (v := (nI (0 + 1 + 1))) (lv' := [(5, .int (nI (0 + 1 + 1))), (4, .int (nI (((((v * 10) + 9) * 10) + 9)))), (3, .int (nI (((v * 10) * 10)))), (0, .int (nI (v))), (1, .int (nI (least))), (2, .int (nI (most)))]) dX5_canBecome_56 rfl (nI_inc _) (by decide) rfl ?_
          refine r_goto (tgt := 22) dX5_canBecome_59 (by decide) ?_
          refine r_iload dX5_canBecome_22 rfl ?_
          refine r_iconst (v := nI 3) dX5_canBecome_24 (by decide) ?_
          refine r_icmp_geN (tgt := 62) dX5_canBecome_25 (by decide) (by omega) (by omega) (fun c20 => absurd c20 (by omega)) (fun c20 => ?_)
          refine r_iload_n dX5_canBecome_28 rfl ?_
          refine r_iload_n dX5_canBecome_29 rfl ?_
          refine r_icmp_gtN (tgt := 41) dX5_canBecome_30 (by decide) (by omega) (by omega) (fun c21 => ?_) (fun c21 => ?_)
          · skip
            refine r_iload_n dX5_canBecome_41 rfl ?_
            refine r_bipush (v := nI 10) dX5_canBecome_42 (by decide) ?_
            refine r_imulN dX5_canBecome_44 ?_
            refine r_istore_n (lv' := [(3, .int (nI ((((v * 10) * 10) * 10)))), (5, .int (nI (0 + 1 + 1))), (4, .int (nI (((((v * 10) + 9) * 10) + 9)))), (0, .int (nI (v))), (1, .int (nI (least))), (2, .int (nI (most)))]) dX5_canBecome_45 (by decide) rfl ?_
            refine r_iload dX5_canBecome_46 rfl ?_
            refine r_bipush (v := nI 10) dX5_canBecome_48 (by decide) ?_
            refine r_imulN dX5_canBecome_50 ?_
            refine r_bipush (v := nI 9) dX5_canBecome_51 (by decide) ?_
            refine r_iaddN dX5_canBecome_53 ?_
            refine r_istore (lv' := [(4, .int (nI (((((((v * 10) + 9) * 10) + 9) * 10) + 9)))), (3, .int (nI ((((v * 10) * 10) * 10)))), (5, .int (nI (0 + 1 + 1))), (0, .int (nI (v))), (1, .int (nI (least))), (2, .int (nI (most)))]) dX5_canBecome_54 (by decide) rfl ?_
            refine r_iinc (v := (nI (0 + 1 + 1 + 1))) (lv' := [(5, .int (nI (0 + 1 + 1 + 1))), (4, .int (nI (((((((v * 10) + 9) * 10) + 9) * 10) + 9)))), (3, .int (nI ((((v * 10) * 10) * 10)))), (0, .int (nI (v))), (1, .int (nI (least))), (2, .int (nI (most)))]) dX5_canBecome_56 rfl (nI_inc _) (by decide) rfl ?_
            refine r_goto (tgt := 22) dX5_canBecome_59 (by decide) ?_
            refine r_iload dX5_canBecome_22 rfl ?_
            refine r_iconst (v := nI 3) dX5_canBecome_24 (by decide) ?_
            refine r_icmp_geN (tgt := 62) dX5_canBecome_25 (by decide) (by omega) (by omega) (fun c22 => ?_) (fun c22 => absurd c22 (by omega))
            refine r_iconst (v := nI 0) dX5_canBecome_62 (by decide) ?_
            exact fR_zret dX5_canBecome_63 rfl rfl (isI_of (bJ_f (by unfold canN cbN; (repeat (first | rw [if_pos (by omega)] | rw [if_neg (by omega)])); (try unfold cbN); (repeat (first | rw [if_pos (by omega)] | rw [if_neg (by omega)])); (try unfold cbN); (repeat (first | rw [if_pos (by omega)] | rw [if_neg (by omega)])); (try first | rfl | exact decide_eq_true (by omega) | exact decide_eq_false (by omega)))))
          · skip
            refine r_iload dX5_canBecome_33 rfl ?_
            refine r_iload_n dX5_canBecome_35 rfl ?_
            refine r_icmp_ltN (tgt := 41) dX5_canBecome_36 (by decide) (by omega) (by omega) (fun c23 => ?_) (fun c23 => ?_)
            · skip
              refine r_iload_n dX5_canBecome_41 rfl ?_
              refine r_bipush (v := nI 10) dX5_canBecome_42 (by decide) ?_
              refine r_imulN dX5_canBecome_44 ?_
              refine r_istore_n (lv' := [(3, .int (nI ((((v * 10) * 10) * 10)))), (5, .int (nI (0 + 1 + 1))), (4, .int (nI (((((v * 10) + 9) * 10) + 9)))), (0, .int (nI (v))), (1, .int (nI (least))), (2, .int (nI (most)))]) dX5_canBecome_45 (by decide) rfl ?_
              refine r_iload dX5_canBecome_46 rfl ?_
              refine r_bipush (v := nI 10) dX5_canBecome_48 (by decide) ?_
              refine r_imulN dX5_canBecome_50 ?_
              refine r_bipush (v := nI 9) dX5_canBecome_51 (by decide) ?_
              refine r_iaddN dX5_canBecome_53 ?_
              refine r_istore (lv' := [(4, .int (nI (((((((v * 10) + 9) * 10) + 9) * 10) + 9)))), (3, .int (nI ((((v * 10) * 10) * 10)))), (5, .int (nI (0 + 1 + 1))), (0, .int (nI (v))), (1, .int (nI (least))), (2, .int (nI (most)))]) dX5_canBecome_54 (by decide) rfl ?_
              refine r_iinc (v := (nI (0 + 1 + 1 + 1))) (lv' := [(5, .int (nI (0 + 1 + 1 + 1))), (4, .int (nI (((((((v * 10) + 9) * 10) + 9) * 10) + 9)))), (3, .int (nI ((((v * 10) * 10) * 10)))), (0, .int (nI (v))), (1, .int (nI (least))), (2, .int (nI (most)))]) dX5_canBecome_56 rfl (nI_inc _) (by decide) rfl ?_
              refine r_goto (tgt := 22) dX5_canBecome_59 (by decide) ?_
              refine r_iload dX5_canBecome_22 rfl ?_
              refine r_iconst (v := nI 3) dX5_canBecome_24 (by decide) ?_
              refine r_icmp_geN (tgt := 62) dX5_canBecome_25 (by decide) (by omega) (by omega) (fun c24 => ?_) (fun c24 => absurd c24 (by omega))
              refine r_iconst (v := nI 0) dX5_canBecome_62 (by decide) ?_
              exact fR_zret dX5_canBecome_63 rfl rfl (isI_of (bJ_f (by unfold canN cbN; (repeat (first | rw [if_pos (by omega)] | rw [if_neg (by omega)])); (try unfold cbN); (repeat (first | rw [if_pos (by omega)] | rw [if_neg (by omega)])); (try unfold cbN); (repeat (first | rw [if_pos (by omega)] | rw [if_neg (by omega)])); (try first | rfl | exact decide_eq_true (by omega) | exact decide_eq_false (by omega)))))
            · skip
              refine r_iconst (v := nI 1) dX5_canBecome_39 (by decide) ?_
              exact fR_zret dX5_canBecome_40 rfl rfl (isI_of (bJ_t (by unfold canN cbN; (repeat (first | rw [if_pos (by omega)] | rw [if_neg (by omega)])); (try unfold cbN); (repeat (first | rw [if_pos (by omega)] | rw [if_neg (by omega)])); (try unfold cbN); (repeat (first | rw [if_pos (by omega)] | rw [if_neg (by omega)])); (try first | rfl | exact decide_eq_true (by omega) | exact decide_eq_false (by omega)))))
        · skip
          refine r_iload dX5_canBecome_33 rfl ?_
          refine r_iload_n dX5_canBecome_35 rfl ?_
          refine r_icmp_ltN (tgt := 41) dX5_canBecome_36 (by decide) (by omega) (by omega) (fun c25 => ?_) (fun c25 => ?_)
          · skip
            refine r_iload_n dX5_canBecome_41 rfl ?_
            refine r_bipush (v := nI 10) dX5_canBecome_42 (by decide) ?_
            refine r_imulN dX5_canBecome_44 ?_
            refine r_istore_n (lv' := [(3, .int (nI (((v * 10) * 10)))), (5, .int (nI (0 + 1))), (4, .int (nI (((v * 10) + 9)))), (0, .int (nI (v))), (1, .int (nI (least))), (2, .int (nI (most)))]) dX5_canBecome_45 (by decide) rfl ?_
            refine r_iload dX5_canBecome_46 rfl ?_
            refine r_bipush (v := nI 10) dX5_canBecome_48 (by decide) ?_
            refine r_imulN dX5_canBecome_50 ?_
            refine r_bipush (v := nI 9) dX5_canBecome_51 (by decide) ?_
            refine r_iaddN dX5_canBecome_53 ?_
            refine r_istore (lv' := [(4, .int (nI (((((v * 10) + 9) * 10) + 9)))), (3, .int (nI (((v * 10) * 10)))), (5, .int (nI (0 + 1))), (0, .int (nI (v))), (1, .int (nI (least))), (2, .int (nI (most)))]) dX5_canBecome_54 (by decide) rfl ?_
            refine r_iinc (v := (nI (0 + 1 + 1))) (lv' := [(5, .int (nI (0 + 1 + 1))), (4, .int (nI (((((v * 10) + 9) * 10) + 9)))), (3, .int (nI (((v * 10) * 10)))), (0, .int (nI (v))), (1, .int (nI (least))), (2, .int (nI (most)))]) dX5_canBecome_56 rfl (nI_inc _) (by decide) rfl ?_
            refine r_goto (tgt := 22) dX5_canBecome_59 (by decide) ?_
            refine r_iload dX5_canBecome_22 rfl ?_
            refine r_iconst (v := nI 3) dX5_canBecome_24 (by decide) ?_
            refine r_icmp_geN (tgt := 62) dX5_canBecome_25 (by decide) (by omega) (by omega) (fun c26 => absurd c26 (by omega)) (fun c26 => ?_)
            refine r_iload_n dX5_canBecome_28 rfl ?_
            refine r_iload_n dX5_canBecome_29 rfl ?_
            refine r_icmp_gtN (tgt := 41) dX5_canBecome_30 (by decide) (by omega) (by omega) (fun c27 => ?_) (fun c27 => ?_)
            · skip
              refine r_iload_n dX5_canBecome_41 rfl ?_
              refine r_bipush (v := nI 10) dX5_canBecome_42 (by decide) ?_
              refine r_imulN dX5_canBecome_44 ?_
              refine r_istore_n (lv' := [(3, .int (nI ((((v * 10) * 10) * 10)))), (5, .int (nI (0 + 1 + 1))), (4, .int (nI (((((v * 10) + 9) * 10) + 9)))), (0, .int (nI (v))), (1, .int (nI (least))), (2, .int (nI (most)))]) dX5_canBecome_45 (by decide) rfl ?_
              refine r_iload dX5_canBecome_46 rfl ?_
              refine r_bipush (v := nI 10) dX5_canBecome_48 (by decide) ?_
              refine r_imulN dX5_canBecome_50 ?_
              refine r_bipush (v := nI 9) dX5_canBecome_51 (by decide) ?_
              refine r_iaddN dX5_canBecome_53 ?_
              refine r_istore (lv' := [(4, .int (nI (((((((v * 10) + 9) * 10) + 9) * 10) + 9)))), (3, .int (nI ((((v * 10) * 10) * 10)))), (5, .int (nI (0 + 1 + 1))), (0, .int (nI (v))), (1, .int (nI (least))), (2, .int (nI (most)))]) dX5_canBecome_54 (by decide) rfl ?_
              refine r_iinc (v := (nI (0 + 1 + 1 + 1))) (lv' := [(5, .int (nI (0 + 1 + 1 + 1))), (4, .int (nI (((((((v * 10) + 9) * 10) + 9) * 10) + 9)))), (3, .int (nI ((((v * 10) * 10) * 10)))), (0, .int (nI (v))), (1, .int (nI (least))), (2, .int (nI (most)))]) dX5_canBecome_56 rfl (nI_inc _) (by decide) rfl ?_
              refine r_goto (tgt := 22) dX5_canBecome_59 (by decide) ?_
              refine r_iload dX5_canBecome_22 rfl ?_
              refine r_iconst (v := nI 3) dX5_canBecome_24 (by decide) ?_
              refine r_icmp_geN (tgt := 62) dX5_canBecome_25 (by decide) (by omega) (by omega) (fun c28 => ?_) (fun c28 => absurd c28 (by omega))
              refine r_iconst (v := nI 0) dX5_canBecome_62 (by decide) ?_
              exact fR_zret dX5_canBecome_63 rfl rfl (isI_of (bJ_f (by unfold canN cbN; (repeat (first | rw [if_pos (by omega)] | rw [if_neg (by omega)])); (try unfold cbN); (repeat (first | rw [if_pos (by omega)] | rw [if_neg (by omega)])); (try unfold cbN); (repeat (first | rw [if_pos (by omega)] | rw [if_neg (by omega)])); (try first | rfl | exact decide_eq_true (by omega) | exact decide_eq_false (by omega)))))
            · skip
              refine r_iload dX5_canBecome_33 rfl ?_
              refine r_iload_n dX5_canBecome_35 rfl ?_
              refine r_icmp_ltN (tgt := 41) dX5_canBecome_36 (by decide) (by omega) (by omega) (fun c29 => ?_) (fun c29 => ?_)
              · skip
                refine r_iload_n dX5_canBecome_41 rfl ?_
                refine r_bipush (v := nI 10) dX5_canBecome_42 (by decide) ?_
                refine r_imulN dX5_canBecome_44 ?_
                refine r_istore_n (lv' := [(3, .int (nI ((((v * 10) * 10) * 10)))), (5, .int (nI (0 + 1 + 1))), (4, .int (nI (((((v * 10) + 9) * 10) + 9)))), (0, .int (nI (v))), (1, .int (nI (least))), (2, .int (nI (most)))]) dX5_canBecome_45 (by decide) rfl ?_
                refine r_iload dX5_canBecome_46 rfl ?_
                refine r_bipush (v := nI 10) dX5_canBecome_48 (by decide) ?_
                refine r_imulN dX5_canBecome_50 ?_
                refine r_bipush (v := nI 9) dX5_canBecome_51 (by decide) ?_
                refine r_iaddN dX5_canBecome_53 ?_
                refine r_istore (lv' := [(4, .int (nI (((((((v * 10) + 9) * 10) + 9) * 10) + 9)))), (3, .int (nI ((((v * 10) * 10) * 10)))), (5, .int (nI (0 + 1 + 1))), (0, .int (nI (v))), (1, .int (nI (least))), (2, .int (nI (most)))]) dX5_canBecome_54 (by decide) rfl ?_
                refine r_iinc (v := (nI (0 + 1 + 1 + 1))) (lv' := [(5, .int (nI (0 + 1 + 1 + 1))), (4, .int (nI (((((((v * 10) + 9) * 10) + 9) * 10) + 9)))), (3, .int (nI ((((v * 10) * 10) * 10)))), (0, .int (nI (v))), (1, .int (nI (least))), (2, .int (nI (most)))]) dX5_canBecome_56 rfl (nI_inc _) (by decide) rfl ?_
                refine r_goto (tgt := 22) dX5_canBecome_59 (by decide) ?_
                refine r_iload dX5_canBecome_22 rfl ?_
                refine r_iconst (v := nI 3) dX5_canBecome_24 (by decide) ?_
                refine r_icmp_geN (tgt := 62) dX5_canBecome_25 (by decide) (by omega) (by omega) (fun c30 => ?_) (fun c30 => absurd c30 (by omega))
                refine r_iconst (v := nI 0) dX5_canBecome_62 (by decide) ?_
                exact fR_zret dX5_canBecome_63 rfl rfl (isI_of (bJ_f (by unfold canN cbN; (repeat (first | rw [if_pos (by omega)] | rw [if_neg (by omega)])); (try unfold cbN); (repeat (first | rw [if_pos (by omega)] | rw [if_neg (by omega)])); (try unfold cbN); (repeat (first | rw [if_pos (by omega)] | rw [if_neg (by omega)])); (try first | rfl | exact decide_eq_true (by omega) | exact decide_eq_false (by omega)))))
              · skip
                refine r_iconst (v := nI 1) dX5_canBecome_39 (by decide) ?_
                exact fR_zret dX5_canBecome_40 rfl rfl (isI_of (bJ_t (by unfold canN cbN; (repeat (first | rw [if_pos (by omega)] | rw [if_neg (by omega)])); (try unfold cbN); (repeat (first | rw [if_pos (by omega)] | rw [if_neg (by omega)])); (try unfold cbN); (repeat (first | rw [if_pos (by omega)] | rw [if_neg (by omega)])); (try first | rfl | exact decide_eq_true (by omega) | exact decide_eq_false (by omega)))))
          · skip
            refine r_iconst (v := nI 1) dX5_canBecome_39 (by decide) ?_
            exact fR_zret dX5_canBecome_40 rfl rfl (isI_of (bJ_t (by unfold canN cbN; (repeat (first | rw [if_pos (by omega)] | rw [if_neg (by omega)])); (try unfold cbN); (repeat (first | rw [if_pos (by omega)] | rw [if_neg (by omega)])); (try unfold cbN); (repeat (first | rw [if_pos (by omega)] | rw [if_neg (by omega)])); (try first | rfl | exact decide_eq_true (by omega) | exact decide_eq_false (by omega)))))
      · skip
        refine r_iconst (v := nI 1) dX5_canBecome_39 (by decide) ?_
        exact fR_zret dX5_canBecome_40 rfl rfl (isI_of (bJ_t (by unfold canN cbN; (repeat (first | rw [if_pos (by omega)] | rw [if_neg (by omega)])); (try unfold cbN); (repeat (first | rw [if_pos (by omega)] | rw [if_neg (by omega)])); (try unfold cbN); (repeat (first | rw [if_pos (by omega)] | rw [if_neg (by omega)])); (try first | rfl | exact decide_eq_true (by omega) | exact decide_eq_false (by omega)))))
  · skip
    refine r_iload_n dX5_canBecome_4 rfl ?_
    refine r_if_neN (tgt := 12) dX5_canBecome_5 (by decide) (by omega) (fun c31 => ?_) (fun c31 => ?_)
    · skip
      refine r_iconst (v := nI 0) dX5_canBecome_12 (by decide) ?_
      exact fR_zret dX5_canBecome_13 rfl rfl (isI_of (bJ_f (by unfold canN cbN; (repeat (first | rw [if_pos (by omega)] | rw [if_neg (by omega)])); (try unfold cbN); (repeat (first | rw [if_pos (by omega)] | rw [if_neg (by omega)])); (try unfold cbN); (repeat (first | rw [if_pos (by omega)] | rw [if_neg (by omega)])); (try first | rfl | exact decide_eq_true (by omega) | exact decide_eq_false (by omega)))))
    · skip
      refine r_iconst (v := nI 1) dX5_canBecome_8 (by decide) ?_
      refine r_goto (tgt := 13) dX5_canBecome_9 (by decide) ?_
      exact fR_zret dX5_canBecome_13 rfl rfl (isI_of (bJ_t (by unfold canN cbN; (repeat (first | rw [if_pos (by omega)] | rw [if_neg (by omega)])); (try unfold cbN); (repeat (first | rw [if_pos (by omega)] | rw [if_neg (by omega)])); (try unfold cbN); (repeat (first | rw [if_pos (by omega)] | rw [if_neg (by omega)])); (try first | rfl | exact decide_eq_true (by omega) | exact decide_eq_false (by omega)))))
