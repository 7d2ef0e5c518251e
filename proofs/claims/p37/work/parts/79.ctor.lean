/-! CELLS MADE ANEW -/
section Exs
variable {M0 M M' M1 M2 : Mem} {w v : Nat → Nat} {K q : Nat}
/-- w 0 .. w (K - 1) stand apart, all but the first were free in M0, nothing else has changed since M0 -/
def Ex (M0 M : Mem) (w : Nat → Nat) (K : Nat) : Prop := (∀ i j, i < K → j < K → w i = w j → i = j) ∧ (∀ i, 0 < i → i < K → M0 (w i) = none) ∧ (∀ b, (∀ i, i < K → b ≠ w i) → M b = M0 b) ∧ (∀ i, i < K → M (w i) ≠ none)
def nw (w : Nat → Nat) (K q : Nat) : Nat → Nat := fun i => if i = K then q else w i
theorem nw_eq : nw w K q K = q := if_pos rfl
theorem nw_ne {i : Nat} (h : i ≠ K) : nw w K q i = w i := if_neg h
theorem nw_lt {i : Nat} (h : i < K) : nw w K q i = w i := if_neg (by omega)
theorem Ex.one {a : Nat} (h : M a ≠ none) : Ex M M (fun _ => a) 1 := ⟨fun i j h1 h2 _ => by omega, fun i h1 h2 => by omega, fun _ _ => rfl, fun _ _ => h⟩
theorem Ex.away (h : Ex M0 M w K) (hq : M q = none) : ∀ i, i < K → w i ≠ q := fun i hi e => h.2.2.2 i hi (e ▸ hq)
theorem Ex.free (h : Ex M0 M w K) (hq : M q = none) : M0 q = none := (h.2.2.1 q (fun i hi e => h.away hq i hi e.symm)).symm.trans hq
theorem Ex.new (h : Ex M0 M w K) (hK : 0 < K) (hq : M q = none) (hM : M' q ≠ none) (ho : ∀ b, b ≠ q → M' b = M b) : Ex M0 M' (nw w K q) (K + 1) := by
  have ha := h.away hq
  refine ⟨fun i j hi hj e => ?_, fun i h0 hi => ?_, fun b hb => ?_, fun i hi => ?_⟩
  · by_cases ci : i = K
    · by_cases cj : j = K
      · omega
      · rw [ci, nw_eq, nw_ne cj] at e; exact absurd e.symm (ha j (by omega))
    · by_cases cj : j = K
      · rw [cj, nw_eq, nw_ne ci] at e; exact absurd e (ha i (by omega))
      · rw [nw_ne ci, nw_ne cj] at e; exact h.1 i j (by omega) (by omega) e
  · by_cases ci : i = K
    · rw [ci, nw_eq]; exact h.free hq
    · rw [nw_ne ci]; exact h.2.1 i h0 (by omega)
  · have h1 : b ≠ q := by have := hb K (by omega); rw [nw_eq] at this; exact this
    rw [ho b h1]
    exact h.2.2.1 b (fun i hi => by have := hb i (by omega); rw [nw_lt hi] at this; exact this)
  · by_cases ci : i = K
    · rw [ci, nw_eq]; exact hM
    · rw [nw_ne ci, ho _ (ha i (by omega))]; exact h.2.2.2 i (by omega)
theorem Ex.set {i : Nat} (h : Ex M0 M w K) (hi : i < K) (hM : M' (w i) ≠ none) (ho : ∀ b, b ≠ w i → M' b = M b) : Ex M0 M' w K := by
  refine ⟨h.1, h.2.1, fun b hb => (ho b (hb i hi)).trans (h.2.2.1 b hb), fun j hj => ?_⟩
  by_cases e : j = i
  · rw [e]; exact hM
  · rw [ho _ (fun z => e (h.1 j i hj hi z))]; exact h.2.2.2 j hj
theorem Ex.keep {i j : Nat} (h : Ex M0 M w K) (hi : i < K) (hj : j < K) (hn : j ≠ i) (ho : ∀ b, b ≠ w i → M' b = M b) : M' (w j) = M (w j) := ho _ (fun z => hn (h.1 j i hj hi z))
def ap (w : Nat → Nat) (K : Nat) (v : Nat → Nat) : Nat → Nat := fun i => if i < K then w i else v (i - K)
theorem ap_lt {i : Nat} (h : i < K) : ap w K v i = w i := if_pos h
theorem ap_ge {i : Nat} (h : ¬ i < K) : ap w K v i = v (i - K) := if_neg h
theorem ap_add {i : Nat} : ap w K v (K + i) = v i := by rw [ap_ge (by omega)]; congr 1; omega
/-- cells made by a callee for the cell K of ours -/
theorem Ex.app {m : Nat} (h : Ex M0 M1 w (K + 1)) (hK : 0 < K) (hv : v 0 = w K) (h2 : Ex M1 M2 v m) (hm : 0 < m) : Ex M0 M2 (ap w K v) (K + m) := by
  have hne : ∀ i j, i < K → j < m → w i ≠ v j := fun i j hi hj e => by
    by_cases c : j = 0
    · rw [c, hv] at e; have := h.1 i K (by omega) (by omega) e; omega
    · exact h.2.2.2 i (by omega) (e ▸ h2.2.1 j (by omega) hj)
  refine ⟨fun i j hi hj e => ?_, fun i h0 hi => ?_, fun b hb => ?_, fun i hi => ?_⟩
  · by_cases ci : i < K
    · by_cases cj : j < K
      · rw [ap_lt ci, ap_lt cj] at e; exact h.1 i j (by omega) (by omega) e
      · rw [ap_lt ci, ap_ge cj] at e; exact absurd e (hne i _ ci (by omega))
    · by_cases cj : j < K
      · rw [ap_ge ci, ap_lt cj] at e; exact absurd e.symm (hne j _ cj (by omega))
      · rw [ap_ge ci, ap_ge cj] at e; have := h2.1 _ _ (by omega) (by omega) e; omega
  · by_cases ci : i < K
    · rw [ap_lt ci]; exact h.2.1 i h0 (by omega)
    · rw [ap_ge ci]
      by_cases c0 : i - K = 0
      · rw [c0, hv]; exact h.2.1 K hK (by omega)
      · have h3 := h2.2.1 (i - K) (by omega) (by omega)
        rw [← h.2.2.1 _ (fun j hj e => by
          by_cases cK : j = K
          · rw [cK, ← hv] at e; have := h2.1 (i - K) 0 (by omega) hm e; omega
          · exact hne j (i - K) (by omega) (by omega) e.symm)]
        exact h3
  · have q1 : ∀ j, j < m → b ≠ v j := fun j hj => by have := hb (K + j) (by omega); rw [ap_add] at this; exact this
    have q2 : ∀ j, j < K → b ≠ w j := fun j hj => by have := hb j (by omega); rw [ap_lt hj] at this; exact this
    rw [h2.2.2.1 b q1]
    exact h.2.2.1 b (fun i hi => by
      by_cases c : i = K
      · rw [c, ← hv]; exact q1 0 hm
      · exact q2 i (by omega))
  · by_cases ci : i < K
    · rw [ap_lt ci, h2.2.2.1 _ (fun j hj => hne i j ci hj)]; exact h.2.2.2 i (by omega)
    · rw [ap_ge ci]; exact h2.2.2.2 _ (by omega)
theorem Ex.old {i m : Nat} (h : Ex M0 M1 w (K + 1)) (hv : v 0 = w K) (h2 : Ex M1 M2 v m) (hi : i < K) : M2 (w i) = M1 (w i) := h2.2.2.1 _ (fun j hj e => by
  by_cases c : j = 0
  · rw [c, hv] at e; have := h.1 i K (by omega) (by omega) e; omega
  · exact h.2.2.2 i (by omega) (e ▸ h2.2.1 j (by omega) hj))
theorem nn_ne {a b : Nat} {c : MC} (h : M a = some c) (hb : M b = none) : a ≠ b := fun e => by rw [e, hb] at h; cases h
end Exs
theorem kJ_arrI : Cond.arrayClass (newarray.typeOf .int) ∈ lw_tbl := lw_of (i := 70) (by decide +kernel)
theorem kJ_arrC : Cond.arrayClass (newarray.typeOf .char) ∈ lw_tbl := lw_of (i := 219) (by decide +kernel)
section Lf
variable {l : Launch} {κ : KP} {M : Mem} {a : Nat}
theorem tX0_init (ha : M a = some (.inl (0, [.int 0, .int 0, .int 0]))) : fM l κ mX0_init [.ref a] M (isR none (fup M a (.inl (0, [.int 0, .int 0, .int (-1)])))) := by
  refine fM_of rfl (by decide +kernel) (Nat.le_of_ble_eq_true rfl) ?_
  show fR l κ mX0_init 0 [(0, .ref a)] [] M 0 0 _
  refine r_aload_n dX0_init_0 rfl ?_
  refine r_objInit dX0_init_1 kX0_3M kJ_objI kJ_objC (by decide) (by decide) ?_
  refine r_aload_n dX0_init_4 rfl ?_
  refine r_iconst (v := (-1)) dX0_init_5 (by decide) ?_
  refine r_put (k := 2) (fs' := [.int 0, .int 0, .int (-1)]) dX0_init_6 ha rfl (by decide) kX0_9F rfl rfl rfl (Nat.le_of_ble_eq_true rfl) rfl ?_
  exact fR_vret dX0_init_9 rfl isR_of
theorem tX3_init : fM l κ mX3_init [.ref a] M (isR none M) := by
  refine fM_of rfl (by decide +kernel) (Nat.le_of_ble_eq_true rfl) ?_
  show fR l κ mX3_init 0 [(0, .ref a)] [] M 0 0 _
  refine r_aload_n dX3_init_0 rfl ?_
  refine r_objInit dX3_init_1 kX3_3M kJ_objI kJ_objC (by decide) (by decide) ?_
  exact fR_vret dX3_init_4 rfl isR_of
theorem tX6_init (ha : M a = some (.inl (6, [.int 0, .int 0, .int 0, .int 0, .int 0, .int 0, .null]))) : fM l κ mX6_init [.ref a] M (fun o M' => o = .inl none ∧ ∃ q, M q = none ∧ M' a = some (.inl (6, [.int 0, .int 0, .int 0, .int (-1), .int (-1), .int 0, .ref q])) ∧ M' q = some (.inr (0, 36, .inl (fun _ => 0))) ∧ ∀ b, b ≠ a → b ≠ q → M' b = M b) := by
  refine fM_of rfl (by decide +kernel) (Nat.le_of_ble_eq_true rfl) ?_
  show fR l κ mX6_init 0 [(0, .ref a)] [] M 1 36 _
  refine r_aload_n dX6_init_0 rfl ?_
  refine r_objInit dX6_init_1 kX6_3M kJ_objI kJ_objC (by decide) (by decide) ?_
  refine r_aload_n dX6_init_4 rfl ?_
  refine r_iconst (v := (-1)) dX6_init_5 (by decide) ?_
  refine r_put (k := 3) (fs' := [.int 0, .int 0, .int 0, .int (-1), .int 0, .int 0, .null]) dX6_init_6 ha rfl (by decide) kX6_9F rfl rfl rfl (Nat.le_of_ble_eq_true rfl) rfl ?_
  refine r_aload_n dX6_init_9 rfl ?_
  refine r_iconst (v := (-1)) dX6_init_10 (by decide) ?_
  refine r_put (k := 4) (fs' := [.int 0, .int 0, .int 0, .int (-1), .int (-1), .int 0, .null]) dX6_init_11 fup_eq rfl (by decide) kX6_15F rfl rfl rfl (Nat.le_of_ble_eq_true rfl) rfl ?_
  refine r_mem fup_fup ?_
  refine r_aload_n dX6_init_14 rfl ?_
  refine r_bipush (v := nI 36) dX6_init_15 (by decide) ?_
  refine r_newa (atype := .int) (t := 0) (N := 36) (a0 := (36, .inl (fun _ => 0))) (bc' := 0) (bs' := 0) dX6_init_17 kJ_arrI rfl (fun _ => rfl) (by decide) (by decide) (by decide) rfl rfl (fun q hq => ?_)
  have hne : a ≠ q := nn_ne fup_eq hq
  refine r_putF (k := 6) (fs' := [.int 0, .int 0, .int 0, .int (-1), .int (-1), .int 0, .ref q]) dX6_init_19 ((fup_ne hne).trans fup_eq) rfl (by decide) kX6_18F rfl rfl rfl rfl rfl (Nat.le_of_ble_eq_true rfl) rfl ?_
  exact fR_vret dX6_init_22 rfl ⟨rfl, q, (fup_ne hne.symm).symm.trans hq, fup_eq, (fup_ne hne.symm).trans fup_eq, fun b h1 h2 => (fup_ne h1).trans ((fup_ne h2).trans (fup_ne h1))⟩
theorem tX5_init (ha : M a = some (.inl (5, [.int 0, .null, .int 0, .int 0, .null]))) : fM l κ mX5_init [.ref a] M (fun o M' => o = .inl none ∧ ∃ q, M q = none ∧ M' a = some (.inl (5, [.int 0, .ref (kK κ 0), .int 0, .int 0, .ref q])) ∧ M' q = some (.inr (0, 6, .inl (fun _ => 0))) ∧ ∀ b, b ≠ a → b ≠ q → M' b = M b) := by
  refine fM_of rfl (by decide +kernel) (Nat.le_of_ble_eq_true rfl) ?_
  show fR l κ mX5_init 0 [(0, .ref a)] [] M 1 6 _
  refine r_aload_n dX5_init_0 rfl ?_
  refine r_objInit dX5_init_1 kX5_3M kJ_objI kJ_objC (by decide) (by decide) ?_
  refine r_aload_n dX5_init_4 rfl ?_
  refine r_ldcS (j := 0) (tx := "") dX5_init_5 (List.mem_of_getElem? (i := 0) rfl) ?_
  refine r_put (k := 1) (fs' := [.int 0, .ref (kK κ 0), .int 0, .int 0, .null]) dX5_init_7 ha rfl (by decide) kX5_11F rfl rfl rfl (Nat.le_of_ble_eq_true rfl) rfl ?_
  refine r_aload_n dX5_init_10 rfl ?_
  refine r_bipush (v := nI 6) dX5_init_11 (by decide) ?_
  refine r_newa (atype := .int) (t := 0) (N := 6) (a0 := (6, .inl (fun _ => 0))) (bc' := 0) (bs' := 0) dX5_init_13 kJ_arrI rfl (fun _ => rfl) (by decide) (by decide) (by decide) rfl rfl (fun q hq => ?_)
  have hne : a ≠ q := nn_ne fup_eq hq
  refine r_putF (k := 4) (fs' := [.int 0, .ref (kK κ 0), .int 0, .int 0, .ref q]) dX5_init_15 ((fup_ne hne).trans fup_eq) rfl (by decide) kX5_17F rfl rfl rfl rfl rfl (Nat.le_of_ble_eq_true rfl) rfl ?_
  exact fR_vret dX5_init_18 rfl ⟨rfl, q, (fup_ne hne.symm).symm.trans hq, fup_eq, (fup_ne hne.symm).trans fup_eq, fun b h1 h2 => (fup_ne h1).trans ((fup_ne h2).trans (fup_ne h1))⟩
end Lf
