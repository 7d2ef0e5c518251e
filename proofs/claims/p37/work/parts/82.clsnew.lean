/-! THE CLASS MADE ANEW -/
theorem Ex.sub {M0 M M1 M2 : Mem} {w v : Nat → Nat} {K m q : Nat} {c : MC} (hE : Ex M0 M w K) (hK : 0 < K) (hq : M q = none) (h1 : M1 = fup M q c) (hv : v 0 = q) (h2 : Ex M1 M2 v m) (hm : 0 < m) : Ex M0 M2 (ap w K v) (K + m) ∧ (∀ i, i < K → M2 (w i) = M (w i)) := by
  have x1 := hE.new (M' := M1) hK hq (by rw [h1, fup_eq]; exact fun z => by cases z) (fun b hb => by rw [h1]; exact fup_ne hb)
  have hv' : v 0 = nw w K q K := by rw [nw_eq]; exact hv
  have x2 := x1.app hK hv' h2 hm
  have e : ap (nw w K q) K v = ap w K v := by
    funext i
    unfold ap
    by_cases c : i < K
    · rw [if_pos c, if_pos c, nw_lt c]
    · rw [if_neg c, if_neg c]
  rw [e] at x2
  refine ⟨x2, fun i hi => ?_⟩
  have := Ex.old x1 hv' h2 hi
  rw [nw_lt hi] at this
  rw [this, h1]; exact fup_ne (hE.away hq i hi)
theorem HC.eq {M M' : Mem} {w w' : Nat → Nat} (h : HC M w 6) (e : ∀ j, j < 219 → w' j = w j ∧ M' (w j) = M (w j)) : HC M' w' 6 := by
  obtain ⟨a0, ⟨f, a1, b1⟩, a2, a3⟩ := h
  have k : ∀ j, j < 219 → w' j = w j := fun j hj => (e j hj).1
  have m : ∀ j, j < 219 → M' (w j) = M (w j) := fun j hj => (e j hj).2
  refine ⟨?_, ⟨f, ?_, fun j hj => ?_⟩, a2.eq (fun j hj => e _ (by omega)), fun j hj => (a3 j hj).eq (fun t ht => e _ (by omega))⟩
  · rw [k 0 (by omega), k 1 (by omega), k 2 (by omega)]; exact (m 0 (by omega)).trans a0
  · rw [k 1 (by omega)]; exact (m 1 (by omega)).trans a1
  · rw [k _ (by omega)]; exact b1 j hj
def CC (κ : KP) (M : Mem) (w : Nat → Nat) : Prop :=
  M (w 0) = some (.inl (7, [.ref (w 1), .ref (w 32), .ref (w 251)])) ∧ LC M (fun t => w (1 + t)) 6 8 3 ∧ HC M (fun t => w (32 + t)) 6 ∧
  M (w 251) = some (.inl (4, [.ref (w 252), .ref (w 253), .int 0, .int 0])) ∧ M (w 252) = some (.inr (1, 60, .inl (fun _ => 0))) ∧ M (w 253) = some (.inl (5, [.int 0, .ref (kK κ 0), .int 0, .int 0, .ref (w 254)])) ∧ M (w 254) = some (.inr (0, 6, .inl (fun _ => 0)))
theorem tX8_init {l : Launch} {κ : KP} {M : Mem} {a : Nat} (ha : M a = some (.inl (7, [.null, .null, .null]))) : fM l κ mX8_init [.ref a] M (fun o M' => o = .inl none ∧ ∃ w, w 0 = a ∧ Ex M M' w 255 ∧ CC κ M' w) := by
  refine fM_of rfl (by decide +kernel) (Nat.le_of_ble_eq_true rfl) ?_
  show fR l κ mX8_init 0 [(0, .ref a)] [] M 254 3325 _
  have e0 : Ex M M (fun _ => a) 1 := Ex.one (by rw [ha]; exact fun z => by cases z)
  refine r_aload_n dX8_init_0 rfl ?_
  refine r_objInit dX8_init_1 kX8_1M kJ_objI kJ_objC (by decide) (by decide) ?_
  refine r_aload_n dX8_init_4 rfl ?_
  refine r_new (ci := 2) (fs := [.null, .null, .null, .null, .null, .int 0, .int 0, .int 0, .int 0, .int 0, .int 0]) (bc' := 253) (bs' := 3314) dX8_init_5 rfl kX8_7C kC_Lab kD_Lab (le11 rfl rfl rfl rfl rfl rfl rfl rfl rfl rfl rfl) rfl rfl (fun q1 hq1 => ?_)
  refine r_dup dX8_init_8 rfl ?_
  refine r_callIP (As := []) dX8_init_9 (tX2_init fup_eq) rfl oX2_init rfl rfl rfl kX8_9M nX2_init (by unfold fRoom; decide) (Nat.le_of_ble_eq_true rfl) (bc' := 223) (bs' := 2920) rfl rfl (fun E M9 h => by cases h.1) (fun v M1 hv => ?_)
  obtain ⟨hv1, v1, hv2, hv3, hv4⟩ := hv
  cases hv1
  show fR _ _ _ 12 _ (.ref q1 :: .ref a :: []) _ _ _ _
  obtain ⟨e1, o1⟩ := e0.sub (by omega) hq1 rfl hv2 hv3 (by omega)
  have x1 : M1 a = some (.inl (7, [.null, .null, .null])) := (o1 0 (by omega)).trans ha
  refine r_putF (k := 0) (fs' := [.ref q1, .null, .null]) dX8_init_12 x1 rfl (by decide) kX8_10F rfl rfl rfl rfl rfl (Nat.le_of_ble_eq_true rfl) rfl ?_
  have e2 := e1.set (i := 0) (M' := fup M1 a (.inl (7, [.ref q1, .null, .null]))) (by omega) (by show fup M1 a _ a ≠ none; rw [fup_eq]; exact fun z => by cases z) (fun b hb => fup_ne hb)
  have k1 : ∀ j, ap (fun _ => a) 1 v1 (1 + j) = v1 j := fun j => ap_add
  have L1 : LC (fup M1 a (.inl (7, [.ref q1, .null, .null]))) (fun t => ap (fun _ => a) 1 v1 (1 + t)) 6 8 3 := hv4.eq (fun j hj => ⟨k1 j, by
    have := e1.keep (i := 0) (j := 1 + j) (M' := fup M1 a (.inl (7, [.ref q1, .null, .null]))) (by omega) (by omega) (by omega) (fun b hb => fup_ne hb)
    rw [k1] at this; exact this⟩)
  have y2 : fup M1 a (.inl (7, [.ref q1, .null, .null])) a = some (.inl (7, [.ref q1, .null, .null])) := fup_eq
  have w10 : ap (fun _ => a) 1 v1 0 = a := rfl
  have w11 : ap (fun _ => a) 1 v1 1 = q1 := hv2
  generalize fup M1 a (.inl (7, [.ref q1, .null, .null])) = M2 at e2 L1 y2 ⊢
  generalize ap (fun _ => a) 1 v1 = w1 at e2 L1 w10 w11
  replace e2 : Ex M M2 w1 32 := e2
  refine r_aload_n dX8_init_15 rfl ?_
  refine r_new (ci := 1) (fs := [.null, .null, .int 0, .int 0]) (bc' := 222) (bs' := 2916) dX8_init_16 rfl kX8_16C kC_Hist kD_Hist (le4 rfl rfl rfl rfl) rfl rfl (fun q2 hq2 => ?_)
  refine r_dup dX8_init_19 rfl ?_
  refine r_callIP (As := []) dX8_init_20 (tX1_init fup_eq) rfl oX1_init rfl rfl rfl kX8_18M nX1_init (by unfold fRoom; decide) (Nat.le_of_ble_eq_true rfl) (bc' := 4) (bs' := 75) rfl rfl (fun E M9 h => by cases h.1) (fun v M3 hv => ?_)
  obtain ⟨hw1, v2, hw2, hw3, hw4⟩ := hv
  cases hw1
  show fR _ _ _ 23 _ (.ref q2 :: .ref a :: []) _ _ _ _
  obtain ⟨e3, o3⟩ := e2.sub (by omega) hq2 rfl hw2 hw3 (by omega)
  have x3 : M3 a = some (.inl (7, [.ref q1, .null, .null])) := by have := o3 0 (by omega); rw [w10] at this; exact this.trans y2
  refine r_putF (k := 1) (fs' := [.ref q1, .ref q2, .null]) dX8_init_23 x3 rfl (by decide) kX8_19F rfl rfl rfl rfl rfl (Nat.le_of_ble_eq_true rfl) rfl ?_
  have p0 : ap w1 32 v2 0 = a := (ap_lt (by omega)).trans w10
  have e4 := e3.set (i := 0) (M' := fup M3 a (.inl (7, [.ref q1, .ref q2, .null]))) (by omega) (by rw [p0, fup_eq]; exact fun z => by cases z) (fun b hb => by rw [p0] at hb; exact fup_ne hb)
  have k3 : ∀ j, ap w1 32 v2 (32 + j) = v2 j := fun j => ap_add
  have keep3 : ∀ j, j < 251 → j ≠ 0 → fup M3 a (.inl (7, [.ref q1, .ref q2, .null])) (ap w1 32 v2 j) = M3 (ap w1 32 v2 j) := fun j hj h0 => e3.keep (i := 0) (by omega) (by omega) h0 (fun b hb => by rw [p0] at hb; exact fup_ne hb)
  have L3 : LC (fup M3 a (.inl (7, [.ref q1, .ref q2, .null]))) (fun t => ap w1 32 v2 (1 + t)) 6 8 3 := L1.eq (fun j hj => ⟨ap_lt (by omega), by
    have := keep3 (1 + j) (by omega) (by omega)
    rw [ap_lt (by omega)] at this
    exact this.trans (o3 _ (by omega))⟩)
  have H3 : HC (fup M3 a (.inl (7, [.ref q1, .ref q2, .null]))) (fun t => ap w1 32 v2 (32 + t)) 6 := hw4.eq (fun j hj => ⟨k3 j, by
    have := keep3 (32 + j) (by omega) (by omega)
    rw [k3] at this; exact this⟩)
  have y4 : fup M3 a (.inl (7, [.ref q1, .ref q2, .null])) a = some (.inl (7, [.ref q1, .ref q2, .null])) := fup_eq
  have p1 : ap w1 32 v2 1 = q1 := (ap_lt (by omega)).trans w11
  have p2 : ap w1 32 v2 32 = q2 := by have := k3 0; rw [Nat.add_zero] at this; rw [this, hw2]
  generalize fup M3 a (.inl (7, [.ref q1, .ref q2, .null])) = M4 at e4 L3 H3 y4 ⊢
  generalize ap w1 32 v2 = w3 at e4 L3 H3 p0 p1 p2
  replace e4 : Ex M M4 w3 251 := e4
  refine r_aload_n dX8_init_26 rfl ?_
  refine r_new (ci := 4) (fs := [.null, .null, .int 0, .int 0]) (bc' := 3) (bs' := 71) dX8_init_27 rfl kX8_23C kC_Text kD_Text (le4 rfl rfl rfl rfl) rfl rfl (fun q3 hq3 => ?_)
  refine r_dup dX8_init_30 rfl ?_
  refine r_callINP (As := []) dX8_init_31 (tX4_init fup_eq) rfl oX4_init rfl rfl rfl kX8_25M nX4_init (by unfold fRoom; decide) (Nat.le_of_ble_eq_true rfl) (bc' := 0) (bs' := 0) rfl rfl (fun E M9 h => by cases h.1) (fun v M5 hv => ?_)
  obtain ⟨hu1, v3, hu2, hu3, t0, t1, t2, t3⟩ := hv
  cases hu1
  show fR _ _ _ 34 _ (.ref q3 :: .ref a :: []) _ _ _ _
  obtain ⟨e5, o5⟩ := e4.sub (by omega) hq3 rfl hu2 hu3 (by omega)
  have x5 : M5 a = some (.inl (7, [.ref q1, .ref q2, .null])) := by have := o5 0 (by omega); rw [p0] at this; exact this.trans y4
  refine r_putF (k := 2) (fs' := [.ref q1, .ref q2, .ref q3]) dX8_init_34 x5 rfl (by decide) kX8_26F rfl rfl rfl rfl rfl (Nat.le_of_ble_eq_true rfl) rfl ?_
  have r0 : ap w3 251 v3 0 = a := (ap_lt (by omega)).trans p0
  have e6 := e5.set (i := 0) (M' := fup M5 a (.inl (7, [.ref q1, .ref q2, .ref q3]))) (by omega) (by rw [r0, fup_eq]; exact fun z => by cases z) (fun b hb => by rw [r0] at hb; exact fup_ne hb)
  have k5 : ∀ j, ap w3 251 v3 (251 + j) = v3 j := fun j => ap_add
  have keep5 : ∀ j, j < 255 → j ≠ 0 → fup M5 a (.inl (7, [.ref q1, .ref q2, .ref q3])) (ap w3 251 v3 j) = M5 (ap w3 251 v3 j) := fun j hj h0 => e5.keep (i := 0) (by omega) (by omega) h0 (fun b hb => by rw [r0] at hb; exact fup_ne hb)
  have old5 : ∀ j, j < 251 → j ≠ 0 → fup M5 a (.inl (7, [.ref q1, .ref q2, .ref q3])) (w3 j) = M4 (w3 j) := fun j hj h0 => by
    have := keep5 j (by omega) h0
    rw [ap_lt hj] at this
    exact this.trans (o5 _ hj)
  have new5 : ∀ j, j < 4 → fup M5 a (.inl (7, [.ref q1, .ref q2, .ref q3])) (v3 j) = M5 (v3 j) := fun j hj => by
    have := keep5 (251 + j) (by omega) (by omega)
    rw [k5] at this; exact this
  have z : ∀ j, j < 251 → ap w3 251 v3 j = w3 j := fun j hj => ap_lt hj
  refine fR_vret dX8_init_37 rfl ⟨rfl, ap w3 251 v3, r0, e6, ?_, L3.eq (fun j hj => ⟨z _ (by omega), old5 _ (by omega) (by omega)⟩), H3.eq (fun j hj => ⟨z _ (by omega), old5 _ (by omega) (by omega)⟩), ?_, ?_, ?_, ?_⟩
  · rw [r0, z 1 (by omega), z 32 (by omega), p1, p2, show ap w3 251 v3 251 = q3 from (k5 0).trans hu2]; exact fup_eq
  · rw [show ap w3 251 v3 251 = v3 0 from k5 0, show ap w3 251 v3 252 = v3 1 from k5 1, show ap w3 251 v3 253 = v3 2 from k5 2]; exact (new5 0 (by omega)).trans t0
  · rw [show ap w3 251 v3 252 = v3 1 from k5 1]; exact (new5 1 (by omega)).trans t1
  · rw [show ap w3 251 v3 253 = v3 2 from k5 2, show ap w3 251 v3 254 = v3 3 from k5 3]; exact (new5 2 (by omega)).trans t2
  · rw [show ap w3 251 v3 254 = v3 3 from k5 3]; exact (new5 3 (by omega)).trans t3
