theorem lX9_passes_cnt {l : Launch} {κ : KP} {M : Mem} {m sA tA nA : Nat} {th sv kp ln ap pt : Int32} {hs : Int64} {g tx nu : Nat → Int32} (hD : rDis m sA tA nA) {n : Nat} (hn : n ≤ 8) (hg : g 1 = nI n) (hB : ∀ k, k < n → ¬ pOf g k 3 = -1 → ∃ b, b < 3 ∧ pOf g k 3 = nI b) {mn : Nat} : ∀ (N k : Nat), n < N + k → k ≤ n → fR l κ mX9_passes 90 [(3, .int (nI (k))), (2, .int (nI (pSame g k))), (0, .ref (m)), (1, .int (nI (mn)))] [] (RM M m sA tA nA (th) (sv) (kp) (ln) (ap) (pt) (hs) (g) (tx) (nu)) 0 0 (isI (nI (pSame g n)) (RM M m sA tA nA (th) (sv) (kp) (ln) (ap) (pt) (hs) (g) (tx) (nu))) := by
  intro N
  induction N with
  | zero => intro k h1 h2; omega
  | succ N ih =>
    intro k h1 h2
    refine r_iload_n dX9_passes_90 rfl ?_
    refine r_aload_n dX9_passes_91 rfl ?_
    refine r_get (k := 1) dX9_passes_92 RM_0 rfl rfl (by decide) kX9_7F ?_
    refine r_iconst (v := nI 1) dX9_passes_95 (by decide) ?_
    refine r_ialdN dX9_passes_96 (RM_1 hD) (by omega) (by decide) rfl ?_
    refine r_top hg ?_
    refine r_icmp_geN (tgt := 147) dX9_passes_97 (by decide) (by omega) (by omega) (fun c1 => ?_) (fun c1 => ?_)
    · skip
      have e : k = n := by omega
      rw [e]
      refine r_iload_n dX9_passes_147 rfl ?_
      exact fR_iret dX9_passes_148 rfl (isI_of (by rfl))
    · skip
      have hJ2 : fR l κ mX9_passes 140 [(3, .int (nI (k))), (2, .int (nI (pSame g k))), (0, .ref (m)), (1, .int (nI (mn)))] [.int (nI (pSame g (k + 1)))] (RM M m sA tA nA (th) (sv) (kp) (ln) (ap) (pt) (hs) (g) (tx) (nu)) 0 0 (isI (nI (pSame g n)) (RM M m sA tA nA (th) (sv) (kp) (ln) (ap) (pt) (hs) (g) (tx) (nu))) := by
        refine r_istore_n (lv' := [(2, .int (nI (pSame g (k + 1)))), (3, .int (nI (k))), (0, .ref (m)), (1, .int (nI (mn)))]) dX9_passes_140 (by decide) rfl ?_
        refine r_iinc (v := (nI (k + 1))) (lv' := [(3, .int (nI (k + 1))), (2, .int (nI (pSame g (k + 1)))), (0, .ref (m)), (1, .int (nI (mn)))]) dX9_passes_141 rfl (nI_inc _) (by decide) rfl ?_
        refine r_goto (tgt := 90) dX9_passes_144 (by decide) ?_
        exact ih (k + 1) (by omega) (by omega)
      refine r_iload_n dX9_passes_100 rfl ?_
      refine r_aload_n dX9_passes_101 rfl ?_
      refine r_iload_n dX9_passes_102 rfl ?_
      refine r_iconst (v := nI 3) dX9_passes_103 (by decide) ?_
      refine r_callV (As := [.int (nI (k)), .int (nI (3))]) dX9_passes_104 (tX9_of hD (by omega)) rfl RM_0 rfl rfl oX9_of rfl kX9_31M nX9_of eX9_of (by unfold fRoom; decide) (Nat.le_of_ble_eq_true rfl) rfl (bc' := 0) (bs' := 0) rfl rfl ?_
      show fR _ _ _ 107 _ (.int (pOf (g) (k) (3)) :: _) _ _ _ _
      refine r_iconst (v := (-1)) dX9_passes_107 (by decide) ?_
      refine r_icmp_eq (tgt := 138) dX9_passes_108 (by decide) (fun c3 => ?_) (fun c3 => ?_)
      · skip
        refine r_iconst (v := nI 0) dX9_passes_138 (by decide) ?_
        refine r_iaddN dX9_passes_139 ?_
        exact r_top (by first | exact congrArg nI (pCnt_f (fun h => h.1 (by assumption))) | exact congrArg nI (pCnt_t ⟨hc, by rw [pAround, if_neg hc, ebb, nI_clamp (by omega)]; assumption⟩) | exact congrArg nI (pCnt_f (fun h => absurd (by have := h.2; rw [pAround, if_neg hc, ebb, nI_clamp (by omega)] at this; exact this) (by assumption)))) hJ2
      · skip
        have hc := c3
        obtain ⟨bb, hbb, ebb⟩ := hB k (by omega) c3
        refine r_aload_n dX9_passes_111 rfl ?_
        refine r_iload_n dX9_passes_112 rfl ?_
        refine r_iconst (v := nI 2) dX9_passes_113 (by decide) ?_
        refine r_callV (As := [.int (nI (k)), .int (nI (2))]) dX9_passes_114 (tX9_of hD (by omega)) rfl RM_0 rfl rfl oX9_of rfl kX9_31M nX9_of eX9_of (by unfold fRoom; decide) (Nat.le_of_ble_eq_true rfl) rfl (bc' := 0) (bs' := 0) rfl rfl ?_
        show fR _ _ _ 117 _ (.int (pOf (g) (k) (2)) :: _) _ _ _ _
        refine r_aload_n dX9_passes_117 rfl ?_
        refine r_get (k := 1) dX9_passes_118 RM_0 rfl rfl (by decide) kX9_7F ?_
        refine r_bipush (v := nI 28) dX9_passes_121 (by decide) ?_
        refine r_aload_n dX9_passes_123 rfl ?_
        refine r_iload_n dX9_passes_124 rfl ?_
        refine r_iconst (v := nI 3) dX9_passes_125 (by decide) ?_
        refine r_callV (As := [.int (nI (k)), .int (nI (3))]) dX9_passes_126 (tX9_of hD (by omega)) rfl RM_0 rfl rfl oX9_of rfl kX9_31M nX9_of eX9_of (by unfold fRoom; decide) (Nat.le_of_ble_eq_true rfl) rfl (bc' := 0) (bs' := 0) rfl rfl ?_
        show fR _ _ _ 129 _ (.int (pOf (g) (k) (3)) :: _) _ _ _ _
        refine r_top ebb ?_
        refine r_iaddN dX9_passes_129 ?_
        refine r_ialdN dX9_passes_130 (RM_1 hD) (by omega) (by decide) rfl ?_
        refine r_icmp_ne (tgt := 138) dX9_passes_131 (by decide) (fun c4 => ?_) (fun c4 => ?_)
        · skip
          refine r_iconst (v := nI 0) dX9_passes_138 (by decide) ?_
          refine r_iaddN dX9_passes_139 ?_
          exact r_top (by first | exact congrArg nI (pCnt_f (fun h => h.1 (by assumption))) | exact congrArg nI (pCnt_t ⟨hc, by rw [pAround, if_neg hc, ebb, nI_clamp (by omega)]; assumption⟩) | exact congrArg nI (pCnt_f (fun h => absurd (by have := h.2; rw [pAround, if_neg hc, ebb, nI_clamp (by omega)] at this; exact this) (by assumption)))) hJ2
        · skip
          refine r_iconst (v := nI 1) dX9_passes_134 (by decide) ?_
          refine r_goto (tgt := 139) dX9_passes_135 (by decide) ?_
          refine r_iaddN dX9_passes_139 ?_
          exact r_top (by first | exact congrArg nI (pCnt_f (fun h => h.1 (by assumption))) | exact congrArg nI (pCnt_t ⟨hc, by rw [pAround, if_neg hc, ebb, nI_clamp (by omega)]; assumption⟩) | exact congrArg nI (pCnt_f (fun h => absurd (by have := h.2; rw [pAround, if_neg hc, ebb, nI_clamp (by omega)] at this; exact this) (by assumption)))) hJ2
def pPassT (f : Nat → Int32) (n mn : Nat) : Nat → Int32 := upd (pPass f n mn) 3 (pPass f n mn 3 + nI mn)
theorem pPassT_ne {f : Nat → Int32} {n mn j : Nat} (h : ∀ i, j ≠ 40 + 42 * i + 2) (h3 : j ≠ 3) : pPassT f n mn j = f j := by
  unfold pPassT; rw [pk_un h3]; exact pPass_ne mn h
theorem lX9_passes_out {l : Launch} {κ : KP} {M : Mem} {m sA tA nA : Nat} {th sv kp ln ap pt : Int32} {hs : Int64} {g tx nu : Nat → Int32} (hD : rDis m sA tA nA) {n : Nat} (hn : n ≤ 8) (hg : g 1 = nI n) (hB : ∀ k, k < n → ¬ pOf g k 3 = -1 → ∃ b, b < 3 ∧ pOf g k 3 = nI b) {mn : Nat} (hmn : mn ≤ 99) : ∀ (N j : Nat), mn < N + j → j ≤ mn → fR l κ mX9_passes 2 [(2, .int (nI (j))), (0, .ref (m)), (1, .int (nI (mn)))] [] (RM M m sA tA nA (th) (sv) (kp) (ln) (ap) (pt) (hs) (pPass g n j) (tx) (nu)) 0 0 (isI (nI (pSame (pPassT g n mn) n)) (RM M m sA tA nA (th) (sv) (kp) (ln) (ap) (pt) (hs) (pPassT g n mn) (tx) (nu))) := by
  intro N
  induction N with
  | zero => intro j h1 h2; omega
  | succ N ih =>
    intro j h1 h2
    refine r_iload_n dX9_passes_2 rfl ?_
    refine r_iload_n dX9_passes_3 rfl ?_
    refine r_icmp_geN (tgt := 76) dX9_passes_4 (by decide) (by omega) (by omega) (fun c1 => ?_) (fun c1 => ?_)
    · skip
      have e : j = mn := by omega
      rw [e]
      refine r_aload_n dX9_passes_76 rfl ?_
      refine r_get (k := 1) dX9_passes_77 RM_0 rfl rfl (by decide) kX9_7F ?_
      refine r_iconst (v := nI 3) dX9_passes_80 (by decide) ?_
      refine r_dup2 dX9_passes_81 rfl rfl ?_
      refine r_ialdN dX9_passes_82 (RM_1 hD) (by omega) (by decide) rfl ?_
      refine r_iload_n dX9_passes_83 rfl ?_
      refine r_iadd dX9_passes_84 ?_
      refine r_iastN dX9_passes_85 (RM_1 hD) (by omega) (by decide) ?_
      refine r_mem (RM_s1 hD) ?_
      refine r_iconst (v := nI 0) dX9_passes_86 (by decide) ?_
      refine r_istore_n (lv' := [(2, .int (nI (0))), (0, .ref (m)), (1, .int (nI (mn)))]) dX9_passes_87 (by decide) rfl ?_
      refine r_iconst (v := nI 0) dX9_passes_88 (by decide) ?_
      refine r_istore_n (lv' := [(3, .int (nI (0))), (2, .int (nI (0))), (0, .ref (m)), (1, .int (nI (mn)))]) dX9_passes_89 (by decide) rfl ?_
      have e1 : pPassT g n mn 1 = nI n := by rw [pPassT_ne (by omega) (by omega)]; exact hg
      have eB : ∀ k, k < n → ¬ pOf (pPassT g n mn) k 3 = -1 → ∃ b, b < 3 ∧ pOf (pPassT g n mn) k 3 = nI b := fun k hk => by rw [show pOf (pPassT g n mn) k 3 = pOf g k 3 from pPassT_ne (by omega) (by omega)]; exact hB k hk
      exact lX9_passes_cnt hD hn e1 eB (n + 1) 0 (by omega) (by omega)
    · skip
      refine r_iconst (v := nI 0) dX9_passes_7 (by decide) ?_
      refine r_istore_n (lv' := [(3, .int (nI (0))), (2, .int (nI (j))), (0, .ref (m)), (1, .int (nI (mn)))]) dX9_passes_8 (by decide) rfl ?_
      refine lX9_passes_in (gi := pPass g n j) hD hn (by rw [pPass_ne j (by omega)]; exact hg) (fun k hk => by rw [show pOf (pPass g n j) k 3 = pOf g k 3 from pPass_ne j (by omega)]; exact hB k hk) (n + 1) 0 (by omega) (by omega) ?_
      refine r_iinc (v := (nI (j + 1))) (lv' := [(2, .int (nI (j + 1))), (3, .int (nI (n))), (0, .ref (m)), (1, .int (nI (mn)))]) dX9_passes_70 rfl (nI_inc _) (by decide) rfl ?_
      refine r_goto (tgt := 2) dX9_passes_73 (by decide) ?_
      refine r_lv (lv' := [(2, .int (nI (j + 1))), (0, .ref (m)), (1, .int (nI (mn)))]) (by simp) ?_
      exact ih (j + 1) (by omega) (by omega)
theorem tX9_passes {l : Launch} {κ : KP} {M : Mem} {m sA tA nA : Nat} {th sv kp ln ap pt : Int32} {hs : Int64} {g tx nu : Nat → Int32} (hD : rDis m sA tA nA) {n : Nat} (hn : n ≤ 8) (hg : g 1 = nI n) (hB : ∀ k, k < n → ¬ pOf g k 3 = -1 → ∃ b, b < 3 ∧ pOf g k 3 = nI b) {mn : Nat} (hmn : mn ≤ 99) : fM l κ mX9_passes [.ref (m), .int (nI (mn))] (RM M m sA tA nA (th) (sv) (kp) (ln) (ap) (pt) (hs) (g) (tx) (nu)) (isI (nI (pSame (pPassT g n mn) n)) (RM M m sA tA nA (th) (sv) (kp) (ln) (ap) (pt) (hs) (pPassT g n mn) (tx) (nu))) := by
  refine fM_of rfl (by decide +kernel) (Nat.le_of_ble_eq_true rfl) ?_
  show fR l κ mX9_passes 0 [(0, .ref (m)), (1, .int (nI (mn)))] [] (RM M m sA tA nA (th) (sv) (kp) (ln) (ap) (pt) (hs) (g) (tx) (nu)) 0 0 _
  refine r_iconst (v := nI 0) dX9_passes_0 (by decide) ?_
  refine r_istore_n (lv' := [(2, .int (nI (0))), (0, .ref (m)), (1, .int (nI (mn)))]) dX9_passes_1 (by decide) rfl ?_
  exact lX9_passes_out hD hn hg hB hmn (mn + 1) 0 (by omega) (by omega)
def pSave (f : Nat → Int32) (sn : Nat) : Nat → Int32 := if sn = 6 then pSave6 f else pSaveL f sn
def pUp (sn : Nat) : Nat := if sn = 6 then 6 else sn + 1
theorem pCp_lo {f : Nat → Int32} {a b j : Nat} (hb : 1 ≤ b) (hj : j < 376) : pCp f a b j = f j := by
  unfold pCp pCpK; rw [if_neg (by omega)]
theorem pSave_lo {f : Nat → Int32} {sn j : Nat} (hj : j < 376) : pSave f sn j = f j := by
  unfold pSave pSave6 pSaveL
  split
  · repeat rw [pCp_lo (by omega) hj]
  · rw [pCp_lo (by omega) hj]
theorem tX9_save {l : Launch} {κ : KP} {M : Mem} {m sA tA nA : Nat} {th kp ln ap pt : Int32} {hs : Int64} {g tx nu : Nat → Int32} (hD : rDis m sA tA nA) {sn : Nat} (h : sn ≤ 6) : fM l κ mX9_save [.ref m] (RM M m sA tA nA (th) (nI (sn)) (kp) (ln) (ap) (pt) (hs) (g) (tx) (nu)) (isR none (RM M m sA tA nA (th) (nI (pUp sn)) (kp) (ln) (ap) (pt) (hs) (pSave g sn) (tx) (nu))) := by
  by_cases e : sn = 6
  · have h1 := tX9_save_6 (sv := 0) (l := l) (κ := κ) (M := M) (th := th) (kp := kp) (ln := ln) (ap := ap) (pt := pt) (hs := hs) (g := g) (tx := tx) (nu := nu) hD
    rw [e, show pSave g 6 = pSave6 g from if_pos rfl]
    exact h1
  · have h1 := tX9_save_l (sv := 0) (l := l) (κ := κ) (M := M) (th := th) (kp := kp) (ln := ln) (ap := ap) (pt := pt) (hs := hs) (g := g) (tx := tx) (nu := nu) hD (sn := sn) (by omega)
    rw [show pSave g sn = pSaveL g sn from if_neg e, show pUp sn = sn + 1 from if_neg e]
    exact h1
theorem tX9_changed {l : Launch} {κ : KP} {M : Mem} {m sA tA nA : Nat} {th sv kp ln ap pt : Int32} {hs : Int64} {g tx nu : Nat → Int32} (hD : rDis m sA tA nA) {sn pl : Nat} {v : Int32} (hsn : sn ≤ 6) (hpl : pl < 376) : fM l κ mX9_changed [.ref (m), .int (nI (pl)), .int (v)] (RM M m sA tA nA (th) (nI (sn)) (kp) (ln) (ap) (pt) (hs) (g) (tx) (nu)) (isI (g pl) (RM M m sA tA nA (th) (nI (pUp sn)) (kp) (ln) (ap) (pt) (hs) (upd (pSave g sn) pl v) (tx) (nu))) := by
  refine fM_of rfl (by decide +kernel) (Nat.le_of_ble_eq_true rfl) ?_
  show fR l κ mX9_changed 0 [(0, .ref (m)), (1, .int (nI (pl))), (2, .int (v))] [] (RM M m sA tA nA (th) (nI (sn)) (kp) (ln) (ap) (pt) (hs) (g) (tx) (nu)) 0 0 _
  refine r_aload_n dX9_changed_0 rfl ?_
  refine r_callV (As := []) dX9_changed_1 (tX9_save hD hsn) rfl RM_0 rfl rfl oX9_save rfl kX9_91M nX9_save eX9_save (by unfold fRoom; decide) (Nat.le_of_ble_eq_true rfl) rfl (bc' := 0) (bs' := 0) rfl rfl ?_
  show fR _ _ _ 4 _ _ _ _ _ _
  refine r_aload_n dX9_changed_4 rfl ?_
  refine r_get (k := 1) dX9_changed_5 RM_0 rfl rfl (by decide) kX9_7F ?_
  refine r_iload_n dX9_changed_8 rfl ?_
  refine r_ialdN dX9_changed_9 (RM_1 hD) (by omega) (by decide) rfl ?_
  refine r_istore_n (lv' := [(3, .int ((pSave (g) sn) (pl))), (0, .ref (m)), (1, .int (nI (pl))), (2, .int (v))]) dX9_changed_10 (by decide) rfl ?_
  refine r_aload_n dX9_changed_11 rfl ?_
  refine r_get (k := 1) dX9_changed_12 RM_0 rfl rfl (by decide) kX9_7F ?_
  refine r_iload_n dX9_changed_15 rfl ?_
  refine r_iload_n dX9_changed_16 rfl ?_
  refine r_iastN dX9_changed_17 (RM_1 hD) (by omega) (by decide) ?_
  refine r_mem (RM_s1 hD) ?_
  refine r_iload_n dX9_changed_18 rfl ?_
  exact fR_iret dX9_changed_19 rfl (isI_of (by exact pSave_lo hpl))
