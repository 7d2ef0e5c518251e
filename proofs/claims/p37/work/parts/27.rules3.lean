/-! Rules over natural numbers, truth values, and exact ends. -/
section FR3
variable {l : Launch} {κ : KP} {μ μ' : MD} {pc : Nat} {lv lv' : List (Nat × Value)} {st rest : List Value} {M M1 : Mem} {bc bs : Nat} {P P' : FPost}
/-- a truth value as the machine has it -/
def bI (b : Bool) : Int32 := if b then 1 else 0
def isR (v : Option Value) (M1 : Mem) : FPost := fun o M' => o = .inl v ∧ M' = M1
def isX (E : String) (M1 : Mem) : FPost := fun o M' => o = .inr E ∧ M' = M1
abbrev isI (r : Int32) (M1 : Mem) : FPost := isR (some (.int r)) M1
theorem isI_of {r x : Int32} {M1 : Mem} (h : x = r) : isI r M1 (.inl (some (.int x))) M1 := ⟨by rw [h], rfl⟩
theorem isR_of {v : Option Value} {M1 : Mem} : isR v M1 (.inl v) M1 := ⟨rfl, rfl⟩
theorem isX_of {E : String} {M1 : Mem} : isX E M1 (.inr E) M1 := ⟨rfl, rfl⟩
theorem nI_inc (i : Nat) : nI i + Int32.ofInt 1 = nI (i + 1) := nI_1 i
theorem r_top {x y : Int32} (h : x = y) (kk : fR l κ μ pc lv (.int y :: st) M bc bs P) : fR l κ μ pc lv (.int x :: st) M bc bs P := by rw [h]; exact kk
theorem r_mem (h : M = M1) (kk : fR l κ μ pc lv st M1 bc bs P) : fR l κ μ pc lv st M bc bs P := by rw [h]; exact kk
theorem r_lv (h : ∀ q ∈ lv', q ∈ lv) (kk : fR l κ μ pc lv' st M bc bs P) : fR l κ μ pc lv st M bc bs P := by
  intro p e s m args below meth c C H locs cells slots ls hW hS hl hc hs
  exact kk p e s m args below meth c C H locs cells slots ls hW hS ⟨hl.1, hl.2.1, fun q hq => hl.2.2 q (h q hq)⟩ hc hs
theorem r_bud {bc' bs' : Nat} (h1 : bc' ≤ bc) (h2 : bs' ≤ bs) (kk : fR l κ μ pc lv st M bc' bs' P) : fR l κ μ pc lv st M bc bs P := by
  intro p e s m args below meth c C H locs cells slots ls hW hS hl hc hs
  exact kk p e s m args below meth c C H locs cells slots ls hW hS hl (by omega) (by omega)
theorem r_iaddN {a b : Nat} (d : decode (mB μ) pc = .ok (.iadd, 1)) (kk : fR l κ μ (pc + 1) lv (.int (nI (a + b)) :: st) M bc bs P) : fR l κ μ pc lv (.int (nI b) :: .int (nI a) :: st) M bc bs P := r_iadd d (by rw [nI_add]; exact kk)
theorem r_imulN {a b : Nat} (d : decode (mB μ) pc = .ok (.imul, 1)) (kk : fR l κ μ (pc + 1) lv (.int (nI (a * b)) :: st) M bc bs P) : fR l κ μ pc lv (.int (nI b) :: .int (nI a) :: st) M bc bs P := r_imul d (by rw [pk_mul]; exact kk)
theorem r_isubN {a b : Nat} (d : decode (mB μ) pc = .ok (.isub, 1)) (h : b ≤ a) (kk : fR l κ μ (pc + 1) lv (.int (nI (a - b)) :: st) M bc bs P) : fR l κ μ pc lv (.int (nI b) :: .int (nI a) :: st) M bc bs P := r_isub d (by rw [pk_sub h]; exact kk)
theorem r_idivN {a b : Nat} (d : decode (mB μ) pc = .ok (.idiv, 1)) (ha : a < 2 ^ 31) (h0 : 0 < b) (hb : b < 2 ^ 31) (kk : fR l κ μ (pc + 1) lv (.int (nI (a / b)) :: st) M bc bs P) : fR l κ μ pc lv (.int (nI b) :: .int (nI a) :: st) M bc bs P := r_idiv d (nI_ne0 h0 hb) (by rw [pk_div ha h0 hb]; exact kk)

theorem r_icmp_eqN {a b : Nat} {off : Int} {tgt : Nat} (d : decode (mB μ) pc = .ok (.if_icmp .eq off, 3)) (ht : (pc : Int) + off = (tgt : Int)) (ha : a < 2 ^ 31) (hb : b < 2 ^ 31) (kt : a = b → fR l κ μ tgt lv st M bc bs P) (kf : ¬ (a = b) → fR l κ μ (pc + 3) lv st M bc bs P) : fR l κ μ pc lv (.int (nI b) :: .int (nI a) :: st) M bc bs P := by
  have e : (nI a = nI b ↔ a = b) := nI_eq ha hb
  have e1 : (nI a ≤ nI b ↔ a ≤ b) := nI_leI ha hb
  have e2 : (nI a < nI b ↔ a < b) := nI_ltI ha hb
  have e3 : (nI b ≤ nI a ↔ b ≤ a) := nI_leI hb ha
  have e4 : (nI b < nI a ↔ b < a) := nI_ltI hb ha
  refine r_icmp_eq d ht (fun h => kt ?_) (fun h => kf ?_) <;> simp only [ne_eq, e, e1, e2, e3, e4, ge_iff_le, gt_iff_lt] at h ⊢ <;> first | exact h | omega

theorem r_if_eqN {a : Nat} {off : Int} {tgt : Nat} (d : decode (mB μ) pc = .ok (.ifCond .eq off, 3)) (ht : (pc : Int) + off = (tgt : Int)) (ha : a < 2 ^ 31) (kt : a = 0 → fR l κ μ tgt lv st M bc bs P) (kf : ¬ (a = 0) → fR l κ μ (pc + 3) lv st M bc bs P) : fR l κ μ pc lv (.int (nI a) :: st) M bc bs P := by
  have hb : (0 : Nat) < 2 ^ 31 := by decide
  have z : (0 : Int32) = nI 0 := rfl
  have e : (nI a = nI 0 ↔ a = 0) := nI_eq ha hb
  have e1 : (nI a ≤ nI 0 ↔ a ≤ 0) := nI_leI ha hb
  have e2 : (nI a < nI 0 ↔ a < 0) := nI_ltI ha hb
  have e3 : (nI 0 ≤ nI a ↔ 0 ≤ a) := nI_leI hb ha
  have e4 : (nI 0 < nI a ↔ 0 < a) := nI_ltI hb ha
  refine r_if_eq d ht (fun h => kt ?_) (fun h => kf ?_) <;> simp only [ne_eq, z, e, e1, e2, e3, e4, ge_iff_le, gt_iff_lt] at h ⊢ <;> first | exact h | omega

theorem r_icmp_neN {a b : Nat} {off : Int} {tgt : Nat} (d : decode (mB μ) pc = .ok (.if_icmp .ne off, 3)) (ht : (pc : Int) + off = (tgt : Int)) (ha : a < 2 ^ 31) (hb : b < 2 ^ 31) (kt : a ≠ b → fR l κ μ tgt lv st M bc bs P) (kf : ¬ (a ≠ b) → fR l κ μ (pc + 3) lv st M bc bs P) : fR l κ μ pc lv (.int (nI b) :: .int (nI a) :: st) M bc bs P := by
  have e : (nI a = nI b ↔ a = b) := nI_eq ha hb
  have e1 : (nI a ≤ nI b ↔ a ≤ b) := nI_leI ha hb
  have e2 : (nI a < nI b ↔ a < b) := nI_ltI ha hb
  have e3 : (nI b ≤ nI a ↔ b ≤ a) := nI_leI hb ha
  have e4 : (nI b < nI a ↔ b < a) := nI_ltI hb ha
  refine r_icmp_ne d ht (fun h => kt ?_) (fun h => kf ?_) <;> simp only [ne_eq, e, e1, e2, e3, e4, ge_iff_le, gt_iff_lt] at h ⊢ <;> first | exact h | omega

theorem r_if_neN {a : Nat} {off : Int} {tgt : Nat} (d : decode (mB μ) pc = .ok (.ifCond .ne off, 3)) (ht : (pc : Int) + off = (tgt : Int)) (ha : a < 2 ^ 31) (kt : a ≠ 0 → fR l κ μ tgt lv st M bc bs P) (kf : ¬ (a ≠ 0) → fR l κ μ (pc + 3) lv st M bc bs P) : fR l κ μ pc lv (.int (nI a) :: st) M bc bs P := by
  have hb : (0 : Nat) < 2 ^ 31 := by decide
  have z : (0 : Int32) = nI 0 := rfl
  have e : (nI a = nI 0 ↔ a = 0) := nI_eq ha hb
  have e1 : (nI a ≤ nI 0 ↔ a ≤ 0) := nI_leI ha hb
  have e2 : (nI a < nI 0 ↔ a < 0) := nI_ltI ha hb
  have e3 : (nI 0 ≤ nI a ↔ 0 ≤ a) := nI_leI hb ha
  have e4 : (nI 0 < nI a ↔ 0 < a) := nI_ltI hb ha
  refine r_if_ne d ht (fun h => kt ?_) (fun h => kf ?_) <;> simp only [ne_eq, z, e, e1, e2, e3, e4, ge_iff_le, gt_iff_lt] at h ⊢ <;> first | exact h | omega

theorem r_icmp_ltN {a b : Nat} {off : Int} {tgt : Nat} (d : decode (mB μ) pc = .ok (.if_icmp .lt off, 3)) (ht : (pc : Int) + off = (tgt : Int)) (ha : a < 2 ^ 31) (hb : b < 2 ^ 31) (kt : a < b → fR l κ μ tgt lv st M bc bs P) (kf : ¬ (a < b) → fR l κ μ (pc + 3) lv st M bc bs P) : fR l κ μ pc lv (.int (nI b) :: .int (nI a) :: st) M bc bs P := by
  have e : (nI a = nI b ↔ a = b) := nI_eq ha hb
  have e1 : (nI a ≤ nI b ↔ a ≤ b) := nI_leI ha hb
  have e2 : (nI a < nI b ↔ a < b) := nI_ltI ha hb
  have e3 : (nI b ≤ nI a ↔ b ≤ a) := nI_leI hb ha
  have e4 : (nI b < nI a ↔ b < a) := nI_ltI hb ha
  refine r_icmp_lt d ht (fun h => kt ?_) (fun h => kf ?_) <;> simp only [ne_eq, e, e1, e2, e3, e4, ge_iff_le, gt_iff_lt] at h ⊢ <;> first | exact h | omega

theorem r_if_ltN {a : Nat} {off : Int} {tgt : Nat} (d : decode (mB μ) pc = .ok (.ifCond .lt off, 3)) (ht : (pc : Int) + off = (tgt : Int)) (ha : a < 2 ^ 31) (kt : a < 0 → fR l κ μ tgt lv st M bc bs P) (kf : ¬ (a < 0) → fR l κ μ (pc + 3) lv st M bc bs P) : fR l κ μ pc lv (.int (nI a) :: st) M bc bs P := by
  have hb : (0 : Nat) < 2 ^ 31 := by decide
  have z : (0 : Int32) = nI 0 := rfl
  have e : (nI a = nI 0 ↔ a = 0) := nI_eq ha hb
  have e1 : (nI a ≤ nI 0 ↔ a ≤ 0) := nI_leI ha hb
  have e2 : (nI a < nI 0 ↔ a < 0) := nI_ltI ha hb
  have e3 : (nI 0 ≤ nI a ↔ 0 ≤ a) := nI_leI hb ha
  have e4 : (nI 0 < nI a ↔ 0 < a) := nI_ltI hb ha
  refine r_if_lt d ht (fun h => kt ?_) (fun h => kf ?_) <;> simp only [ne_eq, z, e, e1, e2, e3, e4, ge_iff_le, gt_iff_lt] at h ⊢ <;> first | exact h | omega

theorem r_icmp_geN {a b : Nat} {off : Int} {tgt : Nat} (d : decode (mB μ) pc = .ok (.if_icmp .ge off, 3)) (ht : (pc : Int) + off = (tgt : Int)) (ha : a < 2 ^ 31) (hb : b < 2 ^ 31) (kt : b ≤ a → fR l κ μ tgt lv st M bc bs P) (kf : ¬ (b ≤ a) → fR l κ μ (pc + 3) lv st M bc bs P) : fR l κ μ pc lv (.int (nI b) :: .int (nI a) :: st) M bc bs P := by
  have e : (nI a = nI b ↔ a = b) := nI_eq ha hb
  have e1 : (nI a ≤ nI b ↔ a ≤ b) := nI_leI ha hb
  have e2 : (nI a < nI b ↔ a < b) := nI_ltI ha hb
  have e3 : (nI b ≤ nI a ↔ b ≤ a) := nI_leI hb ha
  have e4 : (nI b < nI a ↔ b < a) := nI_ltI hb ha
  refine r_icmp_ge d ht (fun h => kt ?_) (fun h => kf ?_) <;> simp only [ne_eq, e, e1, e2, e3, e4, ge_iff_le, gt_iff_lt] at h ⊢ <;> first | exact h | omega

theorem r_if_geN {a : Nat} {off : Int} {tgt : Nat} (d : decode (mB μ) pc = .ok (.ifCond .ge off, 3)) (ht : (pc : Int) + off = (tgt : Int)) (ha : a < 2 ^ 31) (kt : 0 ≤ a → fR l κ μ tgt lv st M bc bs P) (kf : ¬ (0 ≤ a) → fR l κ μ (pc + 3) lv st M bc bs P) : fR l κ μ pc lv (.int (nI a) :: st) M bc bs P := by
  have hb : (0 : Nat) < 2 ^ 31 := by decide
  have z : (0 : Int32) = nI 0 := rfl
  have e : (nI a = nI 0 ↔ a = 0) := nI_eq ha hb
  have e1 : (nI a ≤ nI 0 ↔ a ≤ 0) := nI_leI ha hb
  have e2 : (nI a < nI 0 ↔ a < 0) := nI_ltI ha hb
  have e3 : (nI 0 ≤ nI a ↔ 0 ≤ a) := nI_leI hb ha
  have e4 : (nI 0 < nI a ↔ 0 < a) := nI_ltI hb ha
  refine r_if_ge d ht (fun h => kt ?_) (fun h => kf ?_) <;> simp only [ne_eq, z, e, e1, e2, e3, e4, ge_iff_le, gt_iff_lt] at h ⊢ <;> first | exact h | omega

theorem r_icmp_gtN {a b : Nat} {off : Int} {tgt : Nat} (d : decode (mB μ) pc = .ok (.if_icmp .gt off, 3)) (ht : (pc : Int) + off = (tgt : Int)) (ha : a < 2 ^ 31) (hb : b < 2 ^ 31) (kt : b < a → fR l κ μ tgt lv st M bc bs P) (kf : ¬ (b < a) → fR l κ μ (pc + 3) lv st M bc bs P) : fR l κ μ pc lv (.int (nI b) :: .int (nI a) :: st) M bc bs P := by
  have e : (nI a = nI b ↔ a = b) := nI_eq ha hb
  have e1 : (nI a ≤ nI b ↔ a ≤ b) := nI_leI ha hb
  have e2 : (nI a < nI b ↔ a < b) := nI_ltI ha hb
  have e3 : (nI b ≤ nI a ↔ b ≤ a) := nI_leI hb ha
  have e4 : (nI b < nI a ↔ b < a) := nI_ltI hb ha
  refine r_icmp_gt d ht (fun h => kt ?_) (fun h => kf ?_) <;> simp only [ne_eq, e, e1, e2, e3, e4, ge_iff_le, gt_iff_lt] at h ⊢ <;> first | exact h | omega

theorem r_if_gtN {a : Nat} {off : Int} {tgt : Nat} (d : decode (mB μ) pc = .ok (.ifCond .gt off, 3)) (ht : (pc : Int) + off = (tgt : Int)) (ha : a < 2 ^ 31) (kt : 0 < a → fR l κ μ tgt lv st M bc bs P) (kf : ¬ (0 < a) → fR l κ μ (pc + 3) lv st M bc bs P) : fR l κ μ pc lv (.int (nI a) :: st) M bc bs P := by
  have hb : (0 : Nat) < 2 ^ 31 := by decide
  have z : (0 : Int32) = nI 0 := rfl
  have e : (nI a = nI 0 ↔ a = 0) := nI_eq ha hb
  have e1 : (nI a ≤ nI 0 ↔ a ≤ 0) := nI_leI ha hb
  have e2 : (nI a < nI 0 ↔ a < 0) := nI_ltI ha hb
  have e3 : (nI 0 ≤ nI a ↔ 0 ≤ a) := nI_leI hb ha
  have e4 : (nI 0 < nI a ↔ 0 < a) := nI_ltI hb ha
  refine r_if_gt d ht (fun h => kt ?_) (fun h => kf ?_) <;> simp only [ne_eq, z, e, e1, e2, e3, e4, ge_iff_le, gt_iff_lt] at h ⊢ <;> first | exact h | omega

theorem r_icmp_leN {a b : Nat} {off : Int} {tgt : Nat} (d : decode (mB μ) pc = .ok (.if_icmp .le off, 3)) (ht : (pc : Int) + off = (tgt : Int)) (ha : a < 2 ^ 31) (hb : b < 2 ^ 31) (kt : a ≤ b → fR l κ μ tgt lv st M bc bs P) (kf : ¬ (a ≤ b) → fR l κ μ (pc + 3) lv st M bc bs P) : fR l κ μ pc lv (.int (nI b) :: .int (nI a) :: st) M bc bs P := by
  have e : (nI a = nI b ↔ a = b) := nI_eq ha hb
  have e1 : (nI a ≤ nI b ↔ a ≤ b) := nI_leI ha hb
  have e2 : (nI a < nI b ↔ a < b) := nI_ltI ha hb
  have e3 : (nI b ≤ nI a ↔ b ≤ a) := nI_leI hb ha
  have e4 : (nI b < nI a ↔ b < a) := nI_ltI hb ha
  refine r_icmp_le d ht (fun h => kt ?_) (fun h => kf ?_) <;> simp only [ne_eq, e, e1, e2, e3, e4, ge_iff_le, gt_iff_lt] at h ⊢ <;> first | exact h | omega

theorem r_if_leN {a : Nat} {off : Int} {tgt : Nat} (d : decode (mB μ) pc = .ok (.ifCond .le off, 3)) (ht : (pc : Int) + off = (tgt : Int)) (ha : a < 2 ^ 31) (kt : a ≤ 0 → fR l κ μ tgt lv st M bc bs P) (kf : ¬ (a ≤ 0) → fR l κ μ (pc + 3) lv st M bc bs P) : fR l κ μ pc lv (.int (nI a) :: st) M bc bs P := by
  have hb : (0 : Nat) < 2 ^ 31 := by decide
  have z : (0 : Int32) = nI 0 := rfl
  have e : (nI a = nI 0 ↔ a = 0) := nI_eq ha hb
  have e1 : (nI a ≤ nI 0 ↔ a ≤ 0) := nI_leI ha hb
  have e2 : (nI a < nI 0 ↔ a < 0) := nI_ltI ha hb
  have e3 : (nI 0 ≤ nI a ↔ 0 ≤ a) := nI_leI hb ha
  have e4 : (nI 0 < nI a ↔ 0 < a) := nI_ltI hb ha
  refine r_if_le d ht (fun h => kt ?_) (fun h => kf ?_) <;> simp only [ne_eq, z, e, e1, e2, e3, e4, ge_iff_le, gt_iff_lt] at h ⊢ <;> first | exact h | omega

theorem bI_eq0 {b : Bool} : bI b = 0 ↔ b = false := by cases b <;> decide
theorem r_if_eqB {b : Bool} {off : Int} {tgt : Nat} (d : decode (mB μ) pc = .ok (.ifCond .eq off, 3)) (ht : (pc : Int) + off = (tgt : Int)) (kt : b = false → fR l κ μ tgt lv st M bc bs P) (kf : b = true → fR l κ μ (pc + 3) lv st M bc bs P) : fR l κ μ pc lv (.int (bI b) :: st) M bc bs P :=
  r_if_eq d ht (fun h => kt (bI_eq0.mp h)) (fun h => kf (by cases b with | true => rfl | false => exact (h rfl).elim))
theorem r_if_neB {b : Bool} {off : Int} {tgt : Nat} (d : decode (mB μ) pc = .ok (.ifCond .ne off, 3)) (ht : (pc : Int) + off = (tgt : Int)) (kt : b = true → fR l κ μ tgt lv st M bc bs P) (kf : b = false → fR l κ μ (pc + 3) lv st M bc bs P) : fR l κ μ pc lv (.int (bI b) :: st) M bc bs P :=
  r_if_ne d ht (fun h => kt (by cases b with | true => rfl | false => exact (h rfl).elim)) (fun h => kf (bI_eq0.mp h))
theorem r_zretB {b : Bool} (d : decode (mB μ) pc = .ok (.ireturn, 1)) (hr : mT μ = some .boolean) (hP : P (.inl (some (.int (bI b)))) M) : fR l κ μ pc lv [.int (bI b)] M bc bs P := fR_zret d hr (by cases b <;> rfl) hP
theorem bI_t : (nI 1) = bI true := rfl
theorem bI_f : (nI 0) = bI false := rfl
theorem r_ialdN {a n i : Nat} {f : Nat → Int32} {v : Int32} (d : decode (mB μ) pc = .ok (.iaload, 1)) (hm : M a = some (.inr (0, n, .inl f))) (hi : i < n) (hn : n < 2 ^ 31) (hv : f i = v) (kk : fR l κ μ (pc + 1) lv (.int v :: st) M bc bs P) : fR l κ μ pc lv (.int (nI i) :: .ref a :: st) M bc bs P :=
  r_iald d hm (vp_in_nI hi hn) (by rw [nI_clamp (by omega), hv]; exact kk)
theorem r_caldN {a n i : Nat} {f : Nat → Int32} {v : Int32} (d : decode (mB μ) pc = .ok (.caload, 1)) (hm : M a = some (.inr (1, n, .inl f))) (hi : i < n) (hn : n < 2 ^ 31) (hv : f i = v) (kk : fR l κ μ (pc + 1) lv (.int v :: st) M bc bs P) : fR l κ μ pc lv (.int (nI i) :: .ref a :: st) M bc bs P :=
  r_cald d hm (vp_in_nI hi hn) (by rw [nI_clamp (by omega), hv]; exact kk)
theorem r_iastN {a n i : Nat} {f : Nat → Int32} {x : Int32} (d : decode (mB μ) pc = .ok (.iastore, 1)) (hm : M a = some (.inr (0, n, .inl f))) (hi : i < n) (hn : n < 2 ^ 31) (kk : fR l κ μ (pc + 1) lv st (fup M a (.inr (0, n, .inl (upd f i x)))) bc bs P) : fR l κ μ pc lv (.int x :: .int (nI i) :: .ref a :: st) M bc bs P :=
  r_iast d hm (vp_in_nI hi hn) (by rw [nI_clamp (by omega)]; exact kk)
theorem r_aldqN {a n t i v : Nat} {Cn : String} {f : Nat → Option Nat} (d : decode (mB μ) pc = .ok (.aaload, 1)) (hm : M a = some (.inr (t, n, .inr (.inr (.inr (.inr f)))))) (ht : fTy t = .object Cn) (hi : i < n) (hn : n < 2 ^ 31) (hv : f i = some v) (kk : fR l κ μ (pc + 1) lv (.ref v :: st) M bc bs P) : fR l κ μ pc lv (.int (nI i) :: .ref a :: st) M bc bs P :=
  r_aldq d hm ht (vp_in_nI hi hn) (by rw [nI_clamp (by omega), hv]; exact kk)
theorem r_astqN {a n t v ci i : Nat} {vs : List Value} {q : vw_C} {f : Nat → Option Nat} (d : decode (mB μ) pc = .ok (.aastore, 1)) (hm : M a = some (.inr (t, n, .inr (.inr (.inr (.inr f)))))) (hv : M v = some (.inl (ci, vs))) (hq : vwCl[ci]? = some q) (ht : fTy t = .object q.1) (hi : i < n) (hn : n < 2 ^ 31) (kk : fR l κ μ (pc + 1) lv st (fup M a (.inr (t, n, .inr (.inr (.inr (.inr (va_up f i (some v)))))))) bc bs P) : fR l κ μ pc lv (.ref v :: .int (nI i) :: .ref a :: st) M bc bs P :=
  r_astq d hm hv hq ht (vp_in_nI hi hn) (by rw [nI_clamp (by omega)]; exact kk)
/-- calls with an exact end; the callee makes nothing -/
theorem r_callV {idx n b ci : Nat} {fs As : List Value} {q : vw_C} {v : Option Value} (d : decode (mB μ) pc = .ok (.invokevirtual idx, 3)) (hM : fM l κ μ' (.ref b :: As) M (isR v M1)) (hst : st = As.reverse ++ .ref b :: rest)
    (hb : M b = some (.inl (ci, fs))) (hcl : vwCl[ci]? = some q) (hq : q.1 = (mY μ').cls) (hok : fOK μ' n) (hn : As.length = n) (hlink : Cond.methodLink (mY μ).cls idx (mY μ') ∈ lw_tbl) (hin : Cond.instanceMethod (mY μ') ∈ lw_tbl) (hse : Cond.selects (mY μ').cls (mY μ') (mY μ') ∈ lw_tbl)
    (hR : fRoom μ μ' bc bs) (hcat : (rest.map fun v => v.category).sum ≤ 8) (hH : mH μ = []) {bc' bs' : Nat} (hbc : bc' + (mR μ').cells = bc) (hbs : bs' + (mR μ').slots = bs)
    (kk : fR l κ μ (pc + 3) lv (v.toList ++ rest) M1 bc' bs' P) : fR l κ μ pc lv st M bc bs P :=
  fR_callV d hM hst hb hcl hq hok hn hlink hin hse hR hcat hH (fun v' M' h => by
    obtain ⟨h1, h2⟩ := h; cases h1; subst h2
    rw [show bc - (mR μ').cells = bc' by omega, show bs - (mR μ').slots = bs' by omega]; exact kk) (fun E M' h => by cases h.1)
theorem r_callS {idx n : Nat} {As : List Value} {v : Option Value} (d : decode (mB μ) pc = .ok (.invokestatic idx, 3)) (hM : fM l κ μ' As M (isR v M1)) (hst : st = As.reverse ++ rest)
    (hok : fOK μ' n) (hn : As.length = n) (hlink : Cond.methodLink (mY μ).cls idx (mY μ') ∈ lw_tbl) (hin : Cond.static (mY μ') ∈ lw_tbl)
    (hR : fRoom μ μ' bc bs) (hcat : (rest.map fun v => v.category).sum ≤ 8) (hH : mH μ = []) {bc' bs' : Nat} (hbc : bc' + (mR μ').cells = bc) (hbs : bs' + (mR μ').slots = bs)
    (kk : fR l κ μ (pc + 3) lv (v.toList ++ rest) M1 bc' bs' P) : fR l κ μ pc lv st M bc bs P :=
  fR_callS d hM hst hok hn hlink hin hR hcat hH (fun v' M' h => by
    obtain ⟨h1, h2⟩ := h; cases h1; subst h2
    rw [show bc - (mR μ').cells = bc' by omega, show bs - (mR μ').slots = bs' by omega]; exact kk) (fun E M' h => by cases h.1)
theorem r_callSN {idx n : Nat} {host : String} {As : List Value} {v : Option Value} (d : decode (mB μ) pc = .ok (.invokestatic idx, 3)) (hM : fM l κ μ' As M (isR v M1)) (hst : st = As.reverse ++ rest)
    (hok : fOK μ' n) (hn : As.length = n) (hlink : Cond.methodLinkNest (mY μ).cls idx (mY μ') host ∈ lw_tbl) (hin : Cond.static (mY μ') ∈ lw_tbl)
    (hR : fRoom μ μ' bc bs) (hcat : (rest.map fun v => v.category).sum ≤ 8) {bc' bs' : Nat} (hbc : bc' + (mR μ').cells = bc) (hbs : bs' + (mR μ').slots = bs)
    (kk : fR l κ μ (pc + 3) lv (v.toList ++ rest) M1 bc' bs' P) : fR l κ μ pc lv st M bc bs P :=
  fR_callSN d hM hst hok hn hlink hin hR hcat (fun E M' h => by cases h.1) (fun v' M' h => by
    obtain ⟨h1, h2⟩ := h; cases h1; subst h2
    rw [show bc - (mR μ').cells = bc' by omega, show bs - (mR μ').slots = bs' by omega]; exact kk)
/-- a static call that throws, and this method lets it pass -/
theorem r_callSX {idx n : Nat} {As : List Value} {E : String} (d : decode (mB μ) pc = .ok (.invokestatic idx, 3)) (hM : fM l κ μ' As M (isX E M1)) (hst : st = As.reverse ++ rest)
    (hok : fOK μ' n) (hn : As.length = n) (hlink : Cond.methodLink (mY μ).cls idx (mY μ') ∈ lw_tbl) (hin : Cond.static (mY μ') ∈ lw_tbl)
    (hR : fRoom μ μ' bc bs) (hcat : (rest.map fun v => v.category).sum ≤ 8) (hH : mH μ = []) (hP : P (.inr E) M1) : fR l κ μ pc lv st M bc bs P :=
  fR_callS d hM hst hok hn hlink hin hR hcat hH (fun v' M' h => by cases h.1) (fun E' M' h => by obtain ⟨h1, h2⟩ := h; cases h1; subst h2; exact hP)
end FR3
