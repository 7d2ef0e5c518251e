/-! THE REFERENCE MADE ANEW -/
def gI : Nat → Int32 := fun j => if j = 5 then nI 5 else if j = 6 then nI 12 else if j = 7 then nI 8 else if j = 8 then -1 else if j = 9 then -1 else if j = 28 then nI 150 else if j = 29 then nI 250 else if j = 30 then nI 350 else 0
theorem kC_Mod : Cond.instantiable "BitumenNeedleModel" 10 ∈ lw_tbl := lw_of (i := 1023) (by decide +kernel)
theorem kD_Mod : Cond.initialized "BitumenNeedleModel" ∈ lw_tbl := lw_of (i := 9) (by decide +kernel)
theorem RM_new {M : Mem} {m sA tA nA : Nat} (h1 : sA ≠ m) (h2 : tA ≠ m) (h3 : nA ≠ m) (h4 : tA ≠ sA) (h5 : nA ≠ sA) (h6 : nA ≠ tA) {M' : Mem} (e0 : M' m = some (.inl (8, [.int 0, .ref sA, .int 0, .int 0, .ref tA, .int 0, .int 0, .int 0, .ref nA, .long 0]))) (e1 : M' sA = some (.inr (0, 3008, .inl (fun _ => 0)))) (e2 : M' tA = some (.inr (0, 60, .inl (fun _ => 0)))) (e3 : M' nA = some (.inr (0, 4, .inl (fun _ => 0)))) (ho : ∀ b, b ≠ m → b ≠ sA → b ≠ tA → b ≠ nA → M' b = M b) :
    M' = RM M m sA tA nA 0 0 0 0 0 0 0 (fun _ => 0) (fun _ => 0) (fun _ => 0) := by
  funext b
  unfold RM
  by_cases c0 : b = m
  · rw [if_pos c0, c0, e0]
  · rw [if_neg c0]
    by_cases c1 : b = sA
    · rw [if_pos c1, c1, e1]
    · rw [if_neg c1]
      by_cases c2 : b = tA
      · rw [if_pos c2, c2, e2]
      · rw [if_neg c2]
        by_cases c3 : b = nA
        · rw [if_pos c3, c3, e3]
        · rw [if_neg c3]; exact ho b c0 c1 c2 c3
theorem lX9_init {l : Launch} {κ : KP} {M : Mem} {m sA tA nA : Nat} (hD : rDis m sA tA nA) : fR l κ mX9_init 28 [(0, .ref m)] [] (RM M m sA tA nA (0) (0) (0) (0) (0) (0) (0) (fun _ => 0) (fun _ => 0) (fun _ => 0)) 0 0 (fun o M' => o = .inl none ∧ M' = RM M m sA tA nA 0 0 0 0 0 0 0 gI (fun _ => 0) (fun _ => 0)) := by
  refine r_aload_n dX9_init_28 rfl ?_
  refine r_get (k := 1) dX9_init_29 RM_0 rfl rfl (by decide) kX9_7F ?_
  refine r_iconst (v := nI 5) dX9_init_32 (by decide) ?_
  refine r_iconst (v := nI 5) dX9_init_33 (by decide) ?_
  refine r_iastN dX9_init_34 (RM_1 hD) (by omega) (by decide) ?_
  refine r_mem (RM_s1 hD) ?_
  refine r_aload_n dX9_init_35 rfl ?_
  refine r_get (k := 1) dX9_init_36 RM_0 rfl rfl (by decide) kX9_7F ?_
  refine r_bipush (v := nI 6) dX9_init_39 (by decide) ?_
  refine r_bipush (v := nI 12) dX9_init_41 (by decide) ?_
  refine r_iastN dX9_init_43 (RM_1 hD) (by omega) (by decide) ?_
  refine r_mem (RM_s1 hD) ?_
  refine r_aload_n dX9_init_44 rfl ?_
  refine r_get (k := 1) dX9_init_45 RM_0 rfl rfl (by decide) kX9_7F ?_
  refine r_bipush (v := nI 7) dX9_init_48 (by decide) ?_
  refine r_bipush (v := nI 8) dX9_init_50 (by decide) ?_
  refine r_iastN dX9_init_52 (RM_1 hD) (by omega) (by decide) ?_
  refine r_mem (RM_s1 hD) ?_
  refine r_aload_n dX9_init_53 rfl ?_
  refine r_get (k := 1) dX9_init_54 RM_0 rfl rfl (by decide) kX9_7F ?_
  refine r_bipush (v := nI 8) dX9_init_57 (by decide) ?_
  refine r_iconst (v := (-1)) dX9_init_59 (by decide) ?_
  refine r_iastN dX9_init_60 (RM_1 hD) (by omega) (by decide) ?_
  refine r_mem (RM_s1 hD) ?_
  refine r_aload_n dX9_init_61 rfl ?_
  refine r_get (k := 1) dX9_init_62 RM_0 rfl rfl (by decide) kX9_7F ?_
  refine r_bipush (v := nI 9) dX9_init_65 (by decide) ?_
  refine r_iconst (v := (-1)) dX9_init_67 (by decide) ?_
  refine r_iastN dX9_init_68 (RM_1 hD) (by omega) (by decide) ?_
  refine r_mem (RM_s1 hD) ?_
  refine r_iconst (v := nI 0) dX9_init_69 (by decide) ?_
  refine r_istore_n (lv' := [(1, .int (nI (0))), (0, .ref (m))]) dX9_init_70 (by decide) rfl ?_
  refine r_iload_n dX9_init_71 rfl ?_
  refine r_iconst (v := nI 3) dX9_init_72 (by decide) ?_
  refine r_icmp_geN (tgt := 99) dX9_init_73 (by decide) (by omega) (by omega) (fun c1 => absurd c1 (by omega)) (fun c1 => ?_)
  refine r_aload_n dX9_init_76 rfl ?_
  refine r_get (k := 1) dX9_init_77 RM_0 rfl rfl (by decide) kX9_7F ?_
  refine r_bipush (v := nI 28) dX9_init_80 (by decide) ?_
  refine r_iload_n dX9_init_82 rfl ?_
  refine r_iaddN dX9_init_83 ?_
  refine r_sipush (v := nI 150) dX9_init_84 (by decide) ?_
  refine r_bipush (v := nI 100) dX9_init_87 (by decide) ?_
  refine r_iload_n dX9_init_89 rfl ?_
  refine r_imulN dX9_init_90 ?_
  refine r_iaddN dX9_init_91 ?_
  refine r_iastN dX9_init_92 (RM_1 hD) (by omega) (by decide) ?_
  refine r_mem (RM_s1 hD) ?_
  refine r_iinc (v := (nI (0 + 1))) (lv' := [(1, .int (nI (0 + 1))), (0, .ref (m))]) dX9_init_93 rfl (nI_inc _) (by decide) rfl ?_
  refine r_goto (tgt := 71) dX9_init_96 (by decide) ?_
  refine r_iload_n dX9_init_71 rfl ?_
  refine r_iconst (v := nI 3) dX9_init_72 (by decide) ?_
  refine r_icmp_geN (tgt := 99) dX9_init_73 (by decide) (by omega) (by omega) (fun c2 => absurd c2 (by omega)) (fun c2 => ?_)
  refine r_aload_n dX9_init_76 rfl ?_
  refine r_get (k := 1) dX9_init_77 RM_0 rfl rfl (by decide) kX9_7F ?_
  refine r_bipush (v := nI 28) dX9_init_80 (by decide) ?_
  refine r_iload_n dX9_init_82 rfl ?_
  refine r_iaddN dX9_init_83 ?_
  refine r_sipush (v := nI 150) dX9_init_84 (by decide) ?_
  refine r_bipush (v := nI 100) dX9_init_87 (by decide) ?_
  refine r_iload_n dX9_init_89 rfl ?_
  refine r_imulN dX9_init_90 ?_
  refine r_iaddN dX9_init_91 ?_
  refine r_iastN dX9_init_92 (RM_1 hD) (by omega) (by decide) ?_
  refine r_mem (RM_s1 hD) ?_
  refine r_iinc (v := (nI (0 + 1 + 1))) (lv' := [(1, .int (nI (0 + 1 + 1))), (0, .ref (m))]) dX9_init_93 rfl (nI_inc _) (by decide) rfl ?_
  refine r_goto (tgt := 71) dX9_init_96 (by decide) ?_
  refine r_iload_n dX9_init_71 rfl ?_
  refine r_iconst (v := nI 3) dX9_init_72 (by decide) ?_
  refine r_icmp_geN (tgt := 99) dX9_init_73 (by decide) (by omega) (by omega) (fun c3 => absurd c3 (by omega)) (fun c3 => ?_)
  refine r_aload_n dX9_init_76 rfl ?_
  refine r_get (k := 1) dX9_init_77 RM_0 rfl rfl (by decide) kX9_7F ?_
  refine r_bipush (v := nI 28) dX9_init_80 (by decide) ?_
  refine r_iload_n dX9_init_82 rfl ?_
  refine r_iaddN dX9_init_83 ?_
  refine r_sipush (v := nI 150) dX9_init_84 (by decide) ?_
  refine r_bipush (v := nI 100) dX9_init_87 (by decide) ?_
  refine r_iload_n dX9_init_89 rfl ?_
  refine r_imulN dX9_init_90 ?_
  refine r_iaddN dX9_init_91 ?_
  refine r_iastN dX9_init_92 (RM_1 hD) (by omega) (by decide) ?_
  refine r_mem (RM_s1 hD) ?_
  refine r_iinc (v := (nI (0 + 1 + 1 + 1))) (lv' := [(1, .int (nI (0 + 1 + 1 + 1))), (0, .ref (m))]) dX9_init_93 rfl (nI_inc _) (by decide) rfl ?_
  refine r_goto (tgt := 71) dX9_init_96 (by decide) ?_
  refine r_iload_n dX9_init_71 rfl ?_
  refine r_iconst (v := nI 3) dX9_init_72 (by decide) ?_
  refine r_icmp_geN (tgt := 99) dX9_init_73 (by decide) (by omega) (by omega) (fun c4 => ?_) (fun c4 => absurd c4 (by omega))
  refine fR_vret dX9_init_99 rfl ⟨rfl, ?_⟩
  congr 1
  funext j
  unfold upd gI
  (repeat' split) <;> first | rfl | omega
theorem tX9_init {l : Launch} {κ : KP} {M : Mem} {m : Nat} (hm : M m = some (.inl (8, [.int 0, .null, .int 0, .int 0, .null, .int 0, .int 0, .int 0, .null, .long 0]))) : fM l κ mX9_init [.ref m] M (fun o M' => o = .inl none ∧ ∃ sA tA nA, rDis m sA tA nA ∧ M sA = none ∧ M tA = none ∧ M nA = none ∧ M' = RM M m sA tA nA 0 0 0 0 0 0 0 gI (fun _ => 0) (fun _ => 0)) := by
  refine fM_of rfl (by decide +kernel) (Nat.le_of_ble_eq_true rfl) ?_
  show fR l κ mX9_init 0 [(0, .ref m)] [] M 3 3072 _
  refine r_aload_n dX9_init_0 rfl ?_
  refine r_objInit dX9_init_1 kX9_1M kJ_objI kJ_objC (by decide) (by decide) ?_
  refine r_aload_n dX9_init_4 rfl ?_
  refine r_sipush (v := nI 3008) dX9_init_5 (by decide) ?_
  refine r_newa (atype := .int) (t := 0) (N := 3008) (a0 := (3008, .inl (fun _ => 0))) (bc' := 2) (bs' := 64) dX9_init_8 kJ_arrI rfl (fun _ => rfl) (by decide) (by decide) (Nat.le_of_ble_eq_true rfl) rfl rfl (fun sA hs => ?_)
  have n1 := nn_ne hm hs
  refine r_putF (k := 1) (fs' := [.int 0, .ref sA, .int 0, .int 0, .null, .int 0, .int 0, .int 0, .null, .long 0]) dX9_init_10 ((fup_ne n1).trans hm) rfl (by decide) kX9_7F rfl rfl rfl rfl rfl (Nat.le_of_ble_eq_true rfl) rfl ?_
  have x0 : fup (fup M sA (.inr (0, 3008, .inl (fun _ => 0)))) m (.inl (8, [.int 0, .ref sA, .int 0, .int 0, .null, .int 0, .int 0, .int 0, .null, .long 0])) m = _ := fup_eq
  have x1 : fup (fup M sA (.inr (0, 3008, .inl (fun _ => 0)))) m (.inl (8, [.int 0, .ref sA, .int 0, .int 0, .null, .int 0, .int 0, .int 0, .null, .long 0])) sA = _ := (fup_ne n1.symm).trans fup_eq
  have o1 : ∀ b, b ≠ m → b ≠ sA → fup (fup M sA (.inr (0, 3008, .inl (fun _ => 0)))) m (.inl (8, [.int 0, .ref sA, .int 0, .int 0, .null, .int 0, .int 0, .int 0, .null, .long 0])) b = M b := fun b h1 h2 => (fup_ne h1).trans (fup_ne h2)
  generalize fup (fup M sA (.inr (0, 3008, .inl (fun _ => 0)))) m (.inl (8, [.int 0, .ref sA, .int 0, .int 0, .null, .int 0, .int 0, .int 0, .null, .long 0])) = M1 at x0 x1 o1 ⊢
  refine r_aload_n dX9_init_13 rfl ?_
  refine r_bipush (v := nI 60) dX9_init_14 (by decide) ?_
  refine r_newa (atype := .int) (t := 0) (N := 60) (a0 := (60, .inl (fun _ => 0))) (bc' := 1) (bs' := 4) dX9_init_16 kJ_arrI rfl (fun _ => rfl) (by decide) (by decide) (Nat.le_of_ble_eq_true rfl) rfl rfl (fun tA ht => ?_)
  have n2 := nn_ne x0 ht
  have n3 := nn_ne x1 ht
  refine r_putF (k := 4) (fs' := [.int 0, .ref sA, .int 0, .int 0, .ref tA, .int 0, .int 0, .int 0, .null, .long 0]) dX9_init_18 ((fup_ne n2).trans x0) rfl (by decide) kX9_13F rfl rfl rfl rfl rfl (Nat.le_of_ble_eq_true rfl) rfl ?_
  have y0 : fup (fup M1 tA (.inr (0, 60, .inl (fun _ => 0)))) m (.inl (8, [.int 0, .ref sA, .int 0, .int 0, .ref tA, .int 0, .int 0, .int 0, .null, .long 0])) m = _ := fup_eq
  have y1 : fup (fup M1 tA (.inr (0, 60, .inl (fun _ => 0)))) m (.inl (8, [.int 0, .ref sA, .int 0, .int 0, .ref tA, .int 0, .int 0, .int 0, .null, .long 0])) sA = _ := (fup_ne n1.symm).trans ((fup_ne n3).trans x1)
  have y2 : fup (fup M1 tA (.inr (0, 60, .inl (fun _ => 0)))) m (.inl (8, [.int 0, .ref sA, .int 0, .int 0, .ref tA, .int 0, .int 0, .int 0, .null, .long 0])) tA = _ := (fup_ne n2.symm).trans fup_eq
  have o2 : ∀ b, b ≠ m → b ≠ sA → b ≠ tA → fup (fup M1 tA (.inr (0, 60, .inl (fun _ => 0)))) m (.inl (8, [.int 0, .ref sA, .int 0, .int 0, .ref tA, .int 0, .int 0, .int 0, .null, .long 0])) b = M b := fun b h1 h2 h3 => (fup_ne h1).trans ((fup_ne h3).trans (o1 b h1 h2))
  have ht0 : M tA = none := (o1 tA n2.symm n3.symm).symm.trans ht
  generalize fup (fup M1 tA (.inr (0, 60, .inl (fun _ => 0)))) m (.inl (8, [.int 0, .ref sA, .int 0, .int 0, .ref tA, .int 0, .int 0, .int 0, .null, .long 0])) = M2 at y0 y1 y2 o2 ⊢
  refine r_aload_n dX9_init_21 rfl ?_
  refine r_iconst (v := nI 4) dX9_init_22 (by decide) ?_
  refine r_newa (atype := .int) (t := 0) (N := 4) (a0 := (4, .inl (fun _ => 0))) (bc' := 0) (bs' := 0) dX9_init_23 kJ_arrI rfl (fun _ => rfl) (by decide) (by decide) (Nat.le_of_ble_eq_true rfl) rfl rfl (fun nA hn => ?_)
  have n4 := nn_ne y0 hn
  have n5 := nn_ne y1 hn
  have n6 := nn_ne y2 hn
  have hn0 : M nA = none := (o2 nA n4.symm n5.symm n6.symm).symm.trans hn
  refine r_putF (k := 8) (fs' := [.int 0, .ref sA, .int 0, .int 0, .ref tA, .int 0, .int 0, .int 0, .ref nA, .long 0]) dX9_init_25 ((fup_ne n4).trans y0) rfl (by decide) kX9_16F rfl rfl rfl rfl rfl (Nat.le_of_ble_eq_true rfl) rfl ?_
  have hD : rDis m sA tA nA := ⟨n1.symm, n2.symm, n4.symm, n3.symm, n5.symm, n6.symm⟩
  refine r_mem (RM_new (M := M) n1.symm n2.symm n4.symm n3.symm n5.symm n6.symm fup_eq ((fup_ne n1.symm).trans ((fup_ne n5).trans y1)) ((fup_ne n2.symm).trans ((fup_ne n6).trans y2)) ((fup_ne n4.symm).trans fup_eq) (fun b h1 h2 h3 h4 => (fup_ne h1).trans ((fup_ne h4).trans (o2 b h1 h2 h3)))) ?_
  exact fR.mono (lX9_init hD) (fun o M' h => ⟨h.1, sA, tA, nA, hD, hs, ht0, hn0, h.2⟩)
