/-! THE RULES: a row an instruction, over fR. -/
def fget : List (Nat × Value) → Nat → Option Value
  | [], _ => none
  | (j, v) :: t, i => if j = i then some v else fget t i
theorem fget_mem : ∀ {lv : List (Nat × Value)} {i : Nat} {v : Value}, fget lv i = some v → (i, v) ∈ lv
  | [], i, v, h => by cases h
  | (j, w) :: t, i, v, h => by
    unfold fget at h
    by_cases e : j = i
    · rw [if_pos e] at h; cases h; subst e; exact List.mem_cons_self
    · rw [if_neg e] at h; exact List.mem_cons_of_mem _ (fget_mem h)
theorem fget_at {ls : Array Slot} {n : Nat} {lv : List (Nat × Value)} (h : lv_has ls n lv) {i : Nat} {v : Value} (hv : fget lv i = some v) : ls[i]? = some (.val v) := h.2.2 (i, v) (fget_mem hv)
/-- one change of the memory -/
def fup (M : Mem) (a : Nat) (c : MC) : Mem := fun b => if b = a then some c else M b
theorem fup_eq {M : Mem} {a : Nat} {c : MC} : fup M a c a = some c := if_pos rfl
theorem fup_ne {M : Mem} {a b : Nat} {c : MC} (h : b ≠ a) : fup M a c b = M b := if_neg h
theorem fIn_set {tys : List (ClassId × FieldType)} {ws : va_W} {M : Mem} {o a k0 : Nat} {e e' : va_E} {c' : MC} (hD : va_D (fA o) ws) (h : ∀ b c, M b = some c → fIn tys ws b c) (hk : ws[k0]? = some (a, e)) (hc : fIn tys (ws.set k0 (a, e')) a c') : ∀ b c, fup M a c' b = some c → fIn tys (ws.set k0 (a, e')) b c := by
  intro b c hb
  by_cases e9 : b = a
  · subst e9; rw [fup_eq] at hb; cases hb; exact hc
  · rw [fup_ne e9] at hb
    have keep : ∀ (k : Nat) (z : Nat × va_E), ws[k]? = some z → z.1 = b → (ws.set k0 (a, e'))[k]? = some z := by
      intro k z hz hb
      rw [List.getElem?_set]
      by_cases e8 : k0 = k
      · subst e8; rw [hk] at hz; cases hz; exact absurd hb.symm e9
      · rw [if_neg e8]; exact hz
    have h1 := h b c hb
    cases c with
    | inl x => obtain ⟨k, hk⟩ := h1; exact ⟨k, keep k _ hk rfl⟩
    | inr x => obtain ⟨k, k', cA, hk, ht⟩ := h1; exact ⟨k, k', cA, keep k _ hk rfl, ht⟩
theorem fset_at {ws : va_W} {k0 a : Nat} {e e' : va_E} (hk : ws[k0]? = some (a, e)) : (ws.set k0 (a, e'))[k0]? = some (a, e') := by
  rw [List.getElem?_set, if_pos rfl, if_pos (List.getElem?_eq_some_iff.mp hk).1]
theorem fIn_push {tys tys' : List (ClassId × FieldType)} {ws : va_W} {M : Mem} {q : Nat} {e : va_E} {c' : MC} (h : ∀ b c, M b = some c → fIn tys ws b c) (hc : fIn (tys ++ tys') (ws ++ [(q, e)]) q c') : ∀ b c, fup M q c' b = some c → fIn (tys ++ tys') (ws ++ [(q, e)]) b c := by
  intro b c hb
  by_cases e9 : b = q
  · subst e9; rw [fup_eq] at hb; cases hb; exact hc
  · rw [fup_ne e9] at hb
    have k1 : ∀ (k : Nat) (z : Nat × va_E), ws[k]? = some z → (ws ++ [(q, e)])[k]? = some z := fun k z hz => by
      rw [List.getElem?_append_left (List.getElem?_eq_some_iff.mp hz).1]; exact hz
    have k2 : ∀ (k : Nat) (z : ClassId × FieldType), tys[k]? = some z → (tys ++ tys')[k]? = some z := fun k z hz => by
      rw [List.getElem?_append_left (List.getElem?_eq_some_iff.mp hz).1]; exact hz
    have h1 := h b c hb
    cases c with
    | inl x => obtain ⟨k, hk⟩ := h1; exact ⟨k, k1 k _ hk⟩
    | inr x => obtain ⟨k, k', cA, hk, ht⟩ := h1; exact ⟨k, k', cA, k1 k _ hk, k2 k' _ ht⟩
theorem fIn_fresh {tys : List (ClassId × FieldType)} {ws : va_W} {M : Mem} {o q : Nat} {e : va_E} (hD : va_D (fA o) (ws ++ [(q, e)])) (h : ∀ b c, M b = some c → fIn tys ws b c) : M q = none := by
  cases hq : M q with
  | none => rfl
  | some c =>
    have key : ∀ (k : Nat) (z : va_E), ws[k]? = some (q, z) → False := by
      intro k z hz
      have hlt := (List.getElem?_eq_some_iff.mp hz).1
      have h1 : (ws ++ [(q, e)])[k]? = some (q, z) := by rw [List.getElem?_append_left hlt]; exact hz
      have h2 : (ws ++ [(q, e)])[ws.length]? = some (q, e) := by simp
      have := hD.1 k ws.length _ _ h1 h2 rfl
      omega
    have h1 := h q c hq
    cases c with
    | inl x => obtain ⟨k, hk⟩ := h1; exact (key k _ hk).elim
    | inr x => obtain ⟨k, k', cA, hk, ht⟩ := h1; exact (key k _ hk).elim
/-- the classes' fields: their types, their words -/
def fTyOf : Nat → Nat → FieldType
  | 0 => tyX0
  | 1 => tyX1
  | 2 => tyX2
  | 3 => tyX3
  | 4 => tyX4
  | 5 => tyX5
  | 6 => tyX6
  | _ => tyX8
theorem fcl_cases {Q : Nat → vw_C → Prop} (h0 : Q 0 (RX0, TX0, 3)) (h1 : Q 1 (RX1, TX1, 4)) (h2 : Q 2 (RX2, TX2, 11)) (h3 : Q 3 (RX3, TX3, 3)) (h4 : Q 4 (RX4, TX4, 4)) (h5 : Q 5 (RX5, TX5, 5)) (h6 : Q 6 (RX6, TX6, 7)) (h7 : Q 7 (RX8, TX8, 3)) {ci : Nat} {q : vw_C} (h : vwCl[ci]? = some q) : Q ci q := by
  match ci, h with
  | 0, h => cases h; exact h0
  | 1, h => cases h; exact h1
  | 2, h => cases h; exact h2
  | 3, h => cases h; exact h3
  | 4, h => cases h; exact h4
  | 5, h => cases h; exact h5
  | 6, h => cases h; exact h6
  | 7, h => cases h; exact h7
  | n + 8, h => simp [vwCl] at h
theorem fTy_ok {ci : Nat} {q : vw_C} (h : vwCl[ci]? = some q) : ∀ k, k < q.2.2 → parseFieldDescriptor (q.2.1 k).2.2.1 = some (fTyOf ci k) :=
  fcl_cases (Q := fun ci q => ∀ k, k < q.2.2 → parseFieldDescriptor (q.2.1 k).2.2.1 = some (fTyOf ci k)) tyX0_ok tyX1_ok tyX2_ok tyX3_ok tyX4_ok tyX5_ok tyX6_ok tyX8_ok h
theorem fNm_ok {ci : Nat} {q : vw_C} (h : vwCl[ci]? = some q) : ∀ a, a < q.2.2 → ∀ b, b < q.2.2 → a ≠ b → (q.2.1 a).2.1 ≠ (q.2.1 b).2.1 :=
  fcl_cases (Q := fun ci q => ∀ a, a < q.2.2 → ∀ b, b < q.2.2 → a ≠ b → (q.2.1 a).2.1 ≠ (q.2.1 b).2.1) nmX0 nmX1 nmX2 nmX3 nmX4 nmX5 nmX6 nmX8 h
theorem fWs_ok {ci : Nat} {q : vw_C} (h : vwCl[ci]? = some q) : ∀ w ∈ u_ws q.1 q.2.1 q.2.2, w ∈ lwG :=
  fcl_cases (Q := fun _ q => ∀ w ∈ u_ws q.1 q.2.1 q.2.2, w ∈ lwG) (by decide +kernel) (by decide +kernel) (by decide +kernel) (by decide +kernel) (by decide +kernel) (by decide +kernel) (by decide +kernel) (by decide +kernel) h
section FRR
variable {l : Launch} {κ : KP} {μ μ' : MD} {pc : Nat} {lv lv' : List (Nat × Value)} {st rest : List Value} {M : Mem} {bc bs : Nat} {P P' : FPost}

theorem r_iload_n {k : Fin 4} {x : Int32} (d : decode (mB μ) pc = .ok (.iload_n k, 1)) (h : fget lv (k : Nat) = some (.int x)) (kk : fR l κ μ (pc + 1) lv (.int x :: st) M bc bs P) : fR l κ μ pc lv st M bc bs P := by
  intro p e s m args below meth c C H locs cells slots ls hW hS hl hc hs
  exact lv_iload_n C.2.1 C.2.2.1 d rfl (fget_at hl h) (kk p e s m args below meth c C H locs cells slots ls hW hS hl hc hs)

theorem r_iload {i : Nat} {x : Int32} (d : decode (mB μ) pc = .ok (.iload i, 2)) (h : fget lv i = some (.int x)) (kk : fR l κ μ (pc + 2) lv (.int x :: st) M bc bs P) : fR l κ μ pc lv st M bc bs P := by
  intro p e s m args below meth c C H locs cells slots ls hW hS hl hc hs
  exact lv_iload C.2.1 C.2.2.1 d (fget_at hl h) (kk p e s m args below meth c C H locs cells slots ls hW hS hl hc hs)

theorem r_istore_n {k : Fin 4} {x : Int32} (d : decode (mB μ) pc = .ok (.istore_n k, 1)) (hn : (k : Nat) < mL μ) (h : ((k : Nat), Value.int x) :: lv.filter (fun q => !(q.1 == (k : Nat)) && !(q.1 + 1 == (k : Nat) && q.2.category == 2)) = lv') (kk : fR l κ μ (pc + 1) lv' st M bc bs P) : fR l κ μ pc lv (.int x :: st) M bc bs P := by
  intro p e s m args below meth c C H locs cells slots ls hW hS hl hc hs
  exact lv_istore_n C.2.1 C.2.2.1 d rfl hl hn h (fun ls' hl' => kk p e s m args below meth c C H locs cells slots ls' hW hS hl' hc hs)

theorem r_istore {i : Nat} {x : Int32} (d : decode (mB μ) pc = .ok (.istore i, 2)) (hn : i < mL μ) (h : (i, Value.int x) :: lv.filter (fun q => !(q.1 == i) && !(q.1 + 1 == i && q.2.category == 2)) = lv') (kk : fR l κ μ (pc + 2) lv' st M bc bs P) : fR l κ μ pc lv (.int x :: st) M bc bs P := by
  intro p e s m args below meth c C H locs cells slots ls hW hS hl hc hs
  exact lv_istore C.2.1 C.2.2.1 d hl hn h (fun ls' hl' => kk p e s m args below meth c C H locs cells slots ls' hW hS hl' hc hs)

theorem r_lload_n {k : Fin 4} {x : Int64} (d : decode (mB μ) pc = .ok (.lload_n k, 1)) (h : fget lv (k : Nat) = some (.long x)) (kk : fR l κ μ (pc + 1) lv (.long x :: st) M bc bs P) : fR l κ μ pc lv st M bc bs P := by
  intro p e s m args below meth c C H locs cells slots ls hW hS hl hc hs
  exact lv_lload_n C.2.1 C.2.2.1 d rfl (fget_at hl h) (kk p e s m args below meth c C H locs cells slots ls hW hS hl hc hs)

theorem r_lload {i : Nat} {x : Int64} (d : decode (mB μ) pc = .ok (.lload i, 2)) (h : fget lv i = some (.long x)) (kk : fR l κ μ (pc + 2) lv (.long x :: st) M bc bs P) : fR l κ μ pc lv st M bc bs P := by
  intro p e s m args below meth c C H locs cells slots ls hW hS hl hc hs
  exact lv_lload C.2.1 C.2.2.1 d (fget_at hl h) (kk p e s m args below meth c C H locs cells slots ls hW hS hl hc hs)

theorem r_lstore_n {k : Fin 4} {x : Int64} (d : decode (mB μ) pc = .ok (.lstore_n k, 1)) (hn : (k : Nat) + 1 < mL μ) (h : ((k : Nat), Value.long x) :: lv.filter (fun q => !(q.1 == (k : Nat)) && (!(q.1 == (k : Nat) + 1) && !(q.1 + 1 == (k : Nat) && q.2.category == 2))) = lv') (kk : fR l κ μ (pc + 1) lv' st M bc bs P) : fR l κ μ pc lv (.long x :: st) M bc bs P := by
  intro p e s m args below meth c C H locs cells slots ls hW hS hl hc hs
  exact lv_lstore_n C.2.1 C.2.2.1 d rfl hl hn h (fun ls' hl' => kk p e s m args below meth c C H locs cells slots ls' hW hS hl' hc hs)

theorem r_lstore {i : Nat} {x : Int64} (d : decode (mB μ) pc = .ok (.lstore i, 2)) (hn : i + 1 < mL μ) (h : (i, Value.long x) :: lv.filter (fun q => !(q.1 == i) && (!(q.1 == i + 1) && !(q.1 + 1 == i && q.2.category == 2))) = lv') (kk : fR l κ μ (pc + 2) lv' st M bc bs P) : fR l κ μ pc lv (.long x :: st) M bc bs P := by
  intro p e s m args below meth c C H locs cells slots ls hW hS hl hc hs
  exact lv_lstore C.2.1 C.2.2.1 d hl hn h (fun ls' hl' => kk p e s m args below meth c C H locs cells slots ls' hW hS hl' hc hs)

theorem r_dload_n {k : Fin 4} {x : UInt64} (d : decode (mB μ) pc = .ok (.dload_n k, 1)) (h : fget lv (k : Nat) = some (.double x)) (kk : fR l κ μ (pc + 1) lv (.double x :: st) M bc bs P) : fR l κ μ pc lv st M bc bs P := by
  intro p e s m args below meth c C H locs cells slots ls hW hS hl hc hs
  exact lv_dload_n C.2.1 C.2.2.1 d rfl (fget_at hl h) (kk p e s m args below meth c C H locs cells slots ls hW hS hl hc hs)

theorem r_dload {i : Nat} {x : UInt64} (d : decode (mB μ) pc = .ok (.dload i, 2)) (h : fget lv i = some (.double x)) (kk : fR l κ μ (pc + 2) lv (.double x :: st) M bc bs P) : fR l κ μ pc lv st M bc bs P := by
  intro p e s m args below meth c C H locs cells slots ls hW hS hl hc hs
  exact lv_dload C.2.1 C.2.2.1 d (fget_at hl h) (kk p e s m args below meth c C H locs cells slots ls hW hS hl hc hs)

theorem r_dstore_n {k : Fin 4} {x : UInt64} (d : decode (mB μ) pc = .ok (.dstore_n k, 1)) (hn : (k : Nat) + 1 < mL μ) (h : ((k : Nat), Value.double x) :: lv.filter (fun q => !(q.1 == (k : Nat)) && (!(q.1 == (k : Nat) + 1) && !(q.1 + 1 == (k : Nat) && q.2.category == 2))) = lv') (kk : fR l κ μ (pc + 1) lv' st M bc bs P) : fR l κ μ pc lv (.double x :: st) M bc bs P := by
  intro p e s m args below meth c C H locs cells slots ls hW hS hl hc hs
  exact lv_dstore_n C.2.1 C.2.2.1 d rfl hl hn h (fun ls' hl' => kk p e s m args below meth c C H locs cells slots ls' hW hS hl' hc hs)

theorem r_dstore {i : Nat} {x : UInt64} (d : decode (mB μ) pc = .ok (.dstore i, 2)) (hn : i + 1 < mL μ) (h : (i, Value.double x) :: lv.filter (fun q => !(q.1 == i) && (!(q.1 == i + 1) && !(q.1 + 1 == i && q.2.category == 2))) = lv') (kk : fR l κ μ (pc + 2) lv' st M bc bs P) : fR l κ μ pc lv (.double x :: st) M bc bs P := by
  intro p e s m args below meth c C H locs cells slots ls hW hS hl hc hs
  exact lv_dstore C.2.1 C.2.2.1 d hl hn h (fun ls' hl' => kk p e s m args below meth c C H locs cells slots ls' hW hS hl' hc hs)

theorem r_aload_n {k : Fin 4} {x : Nat} (d : decode (mB μ) pc = .ok (.aload_n k, 1)) (h : fget lv (k : Nat) = some (.ref x)) (kk : fR l κ μ (pc + 1) lv (.ref x :: st) M bc bs P) : fR l κ μ pc lv st M bc bs P := by
  intro p e s m args below meth c C H locs cells slots ls hW hS hl hc hs
  exact lv_aload_n C.2.1 C.2.2.1 d rfl (fget_at hl h) (kk p e s m args below meth c C H locs cells slots ls hW hS hl hc hs)

theorem r_aload {i : Nat} {x : Nat} (d : decode (mB μ) pc = .ok (.aload i, 2)) (h : fget lv i = some (.ref x)) (kk : fR l κ μ (pc + 2) lv (.ref x :: st) M bc bs P) : fR l κ μ pc lv st M bc bs P := by
  intro p e s m args below meth c C H locs cells slots ls hW hS hl hc hs
  exact lv_aload C.2.1 C.2.2.1 d (fget_at hl h) (kk p e s m args below meth c C H locs cells slots ls hW hS hl hc hs)

theorem r_astore_n {k : Fin 4} {x : Nat} (d : decode (mB μ) pc = .ok (.astore_n k, 1)) (hn : (k : Nat) < mL μ) (h : ((k : Nat), Value.ref x) :: lv.filter (fun q => !(q.1 == (k : Nat)) && !(q.1 + 1 == (k : Nat) && q.2.category == 2)) = lv') (kk : fR l κ μ (pc + 1) lv' st M bc bs P) : fR l κ μ pc lv (.ref x :: st) M bc bs P := by
  intro p e s m args below meth c C H locs cells slots ls hW hS hl hc hs
  exact lv_astore_n C.2.1 C.2.2.1 d rfl hl hn h (fun ls' hl' => kk p e s m args below meth c C H locs cells slots ls' hW hS hl' hc hs)

theorem r_astore {i : Nat} {x : Nat} (d : decode (mB μ) pc = .ok (.astore i, 2)) (hn : i < mL μ) (h : (i, Value.ref x) :: lv.filter (fun q => !(q.1 == i) && !(q.1 + 1 == i && q.2.category == 2)) = lv') (kk : fR l κ μ (pc + 2) lv' st M bc bs P) : fR l κ μ pc lv (.ref x :: st) M bc bs P := by
  intro p e s m args below meth c C H locs cells slots ls hW hS hl hc hs
  exact lv_astore C.2.1 C.2.2.1 d hl hn h (fun ls' hl' => kk p e s m args below meth c C H locs cells slots ls' hW hS hl' hc hs)

theorem r_iinc {i : Nat} {n : Int} {x v : Int32} (d : decode (mB μ) pc = .ok (.iinc i n, 3)) (hg : fget lv i = some (.int x)) (hv : x + Int32.ofInt n = v) (hn : i < mL μ) (h : (i, Value.int v) :: lv.filter (fun q => !(q.1 == i) && !(q.1 + 1 == i && q.2.category == 2)) = lv') (kk : fR l κ μ (pc + 3) lv' st M bc bs P) : fR l κ μ pc lv st M bc bs P := by
  intro p e s m args below meth c C H locs cells slots ls hW hS hl hc hs
  obtain ⟨j, hj⟩ := List.getElem?_of_mem (fget_mem hg)
  exact lv_iinc C.2.1 C.2.2.1 d hl hj hv hn h (fun ls' hl' => kk p e s m args below meth c C H locs cells slots ls' hW hS hl' hc hs)

theorem r_iconst {n : Int} {v : Int32} (d : decode (mB μ) pc = .ok (.iconst n, 1)) (hv : Int32.ofInt n = v) (kk : fR l κ μ (pc + 1) lv (.int v :: st) M bc bs P) : fR l κ μ pc lv (st) M bc bs P := by
  intro p e s m args below meth c C H locs cells slots ls hW hS hl hc hs
  exact lv_iconst C.2.1 C.2.2.1 d hv (kk p e s m args below meth c C H locs cells slots ls hW hS hl hc hs)

theorem r_bipush {n : Int} {v : Int32} (d : decode (mB μ) pc = .ok (.bipush n, 2)) (hv : (Int8.ofInt n).toInt32 = v) (kk : fR l κ μ (pc + 2) lv (.int v :: st) M bc bs P) : fR l κ μ pc lv (st) M bc bs P := by
  intro p e s m args below meth c C H locs cells slots ls hW hS hl hc hs
  exact lv_bipush C.2.1 C.2.2.1 d hv (kk p e s m args below meth c C H locs cells slots ls hW hS hl hc hs)

theorem r_sipush {n : Int} {v : Int32} (d : decode (mB μ) pc = .ok (.sipush n, 3)) (hv : (Int16.ofInt n).toInt32 = v) (kk : fR l κ μ (pc + 3) lv (.int v :: st) M bc bs P) : fR l κ μ pc lv (st) M bc bs P := by
  intro p e s m args below meth c C H locs cells slots ls hW hS hl hc hs
  exact lv_sipush C.2.1 C.2.2.1 d hv (kk p e s m args below meth c C H locs cells slots ls hW hS hl hc hs)

theorem r_lconst {n : Fin 2} {v : Int64} (d : decode (mB μ) pc = .ok (.lconst n, 1)) (hv : Int64.ofNat (n : Nat) = v) (kk : fR l κ μ (pc + 1) lv (.long v :: st) M bc bs P) : fR l κ μ pc lv (st) M bc bs P := by
  intro p e s m args below meth c C H locs cells slots ls hW hS hl hc hs
  exact lv_lconst C.2.1 C.2.2.1 d hv (kk p e s m args below meth c C H locs cells slots ls hW hS hl hc hs)

theorem r_ldc2 {idx : Nat} {v : Int64} (d : decode (mB μ) pc = .ok (.ldc2_w idx, 3)) (hw : Cond.constantLong (mY μ).cls idx v ∈ lw_tbl) (kk : fR l κ μ (pc + 3) lv (.long v :: st) M bc bs P) : fR l κ μ pc lv (st) M bc bs P := by
  intro p e s m args below meth c C H locs cells slots ls hW hS hl hc hs
  exact lv_ldc2 C.2.1 C.2.2.1 C.2.2.2.2.2.1 (C.2.2.2.2.2.2.1 _ (lwG_of hw rfl)) d (kk p e s m args below meth c C H locs cells slots ls hW hS hl hc hs)

theorem r_ldc2d {idx : Nat} {v : UInt64} (d : decode (mB μ) pc = .ok (.ldc2_w idx, 3)) (hw : Cond.constantDouble (mY μ).cls idx v ∈ lw_tbl) (kk : fR l κ μ (pc + 3) lv (.double v :: st) M bc bs P) : fR l κ μ pc lv (st) M bc bs P := by
  intro p e s m args below meth c C H locs cells slots ls hW hS hl hc hs
  exact lv_ldc2d C.2.1 C.2.2.1 C.2.2.2.2.2.1 (C.2.2.2.2.2.2.1 _ (lwG_of hw rfl)) d (kk p e s m args below meth c C H locs cells slots ls hW hS hl hc hs)

theorem r_ldc {idx : Nat} {v : Int32} (d : decode (mB μ) pc = .ok (.ldc idx, 2)) (hw : Cond.constant (mY μ).cls idx v ∈ lw_tbl) (kk : fR l κ μ (pc + 2) lv (.int v :: st) M bc bs P) : fR l κ μ pc lv (st) M bc bs P := by
  intro p e s m args below meth c C H locs cells slots ls hW hS hl hc hs
  exact lv_ldc C.2.1 C.2.2.1 C.2.2.2.2.2.1 (C.2.2.2.2.2.2.1 _ (lwG_of hw rfl)) d (kk p e s m args below meth c C H locs cells slots ls hW hS hl hc hs)

theorem r_ldcS {idx j : Nat} {tx : String} (d : decode (mB μ) pc = .ok (.ldc idx, 2)) (hw : ((mY μ).cls, idx, tx, j) ∈ fStr) (kk : fR l κ μ (pc + 2) lv (.ref (kK κ j) :: st) M bc bs P) : fR l κ μ pc lv (st) M bc bs P := by
  intro p e s m args below meth c C H locs cells slots ls hW hS hl hc hs
  exact va_ldcS C.2.1 C.2.2.1 C.2.2.2.2.2.1 (C.2.2.2.2.2.2.2.2.2.2.2.1.2.2.1 _ hw) d (kk p e s m args below meth c C H locs cells slots ls hW hS hl hc hs)

theorem r_dup {v : Value} (d : decode (mB μ) pc = .ok (.dup, 1)) (hv : v.category = 1) (kk : fR l κ μ (pc + 1) lv (v :: v :: st) M bc bs P) : fR l κ μ pc lv (v :: st) M bc bs P := by
  intro p e s m args below meth c C H locs cells slots ls hW hS hl hc hs
  exact lv_dup C.2.1 C.2.2.1 d hv (kk p e s m args below meth c C H locs cells slots ls hW hS hl hc hs)

theorem r_pop {v : Value} (d : decode (mB μ) pc = .ok (.pop, 1)) (hv : v.category = 1) (kk : fR l κ μ (pc + 1) lv (st) M bc bs P) : fR l κ μ pc lv (v :: st) M bc bs P := by
  intro p e s m args below meth c C H locs cells slots ls hW hS hl hc hs
  exact lv_pop C.2.1 C.2.2.1 d hv (kk p e s m args below meth c C H locs cells slots ls hW hS hl hc hs)

theorem r_dup2 {v w : Value} (d : decode (mB μ) pc = .ok (.dup2, 1)) (hv : v.category = 1) (hw : w.category = 1) (kk : fR l κ μ (pc + 1) lv (v :: w :: v :: w :: st) M bc bs P) : fR l κ μ pc lv (v :: w :: st) M bc bs P := by
  intro p e s m args below meth c C H locs cells slots ls hW hS hl hc hs
  exact lv_dup2_11 C.2.1 C.2.2.1 d hv hw (kk p e s m args below meth c C H locs cells slots ls hW hS hl hc hs)

theorem r_dup_x1 {v w : Value} (d : decode (mB μ) pc = .ok (.dup_x1, 1)) (hv : v.category = 1) (hw : w.category = 1) (kk : fR l κ μ (pc + 1) lv (v :: w :: v :: st) M bc bs P) : fR l κ μ pc lv (v :: w :: st) M bc bs P := by
  intro p e s m args below meth c C H locs cells slots ls hW hS hl hc hs
  exact lv_dup_x1 C.2.1 C.2.2.1 d hv hw (kk p e s m args below meth c C H locs cells slots ls hW hS hl hc hs)

theorem r_iadd {x y : Int32} (d : decode (mB μ) pc = .ok (.iadd, 1)) (kk : fR l κ μ (pc + 1) lv (.int (x + y) :: st) M bc bs P) : fR l κ μ pc lv (.int y :: .int x :: st) M bc bs P := by
  intro p e s m args below meth c C H locs cells slots ls hW hS hl hc hs
  exact lv_iadd C.2.1 C.2.2.1 d (kk p e s m args below meth c C H locs cells slots ls hW hS hl hc hs)

theorem r_isub {x y : Int32} (d : decode (mB μ) pc = .ok (.isub, 1)) (kk : fR l κ μ (pc + 1) lv (.int (x - y) :: st) M bc bs P) : fR l κ μ pc lv (.int y :: .int x :: st) M bc bs P := by
  intro p e s m args below meth c C H locs cells slots ls hW hS hl hc hs
  exact lv_isub C.2.1 C.2.2.1 d (kk p e s m args below meth c C H locs cells slots ls hW hS hl hc hs)

theorem r_imul {x y : Int32} (d : decode (mB μ) pc = .ok (.imul, 1)) (kk : fR l κ μ (pc + 1) lv (.int (x * y) :: st) M bc bs P) : fR l κ μ pc lv (.int y :: .int x :: st) M bc bs P := by
  intro p e s m args below meth c C H locs cells slots ls hW hS hl hc hs
  exact lv_imul C.2.1 C.2.2.1 d (kk p e s m args below meth c C H locs cells slots ls hW hS hl hc hs)

theorem r_iand {x y : Int32} (d : decode (mB μ) pc = .ok (.iand, 1)) (kk : fR l κ μ (pc + 1) lv (.int (x &&& y) :: st) M bc bs P) : fR l κ μ pc lv (.int y :: .int x :: st) M bc bs P := by
  intro p e s m args below meth c C H locs cells slots ls hW hS hl hc hs
  exact lv_iand C.2.1 C.2.2.1 d (kk p e s m args below meth c C H locs cells slots ls hW hS hl hc hs)

theorem r_ior {x y : Int32} (d : decode (mB μ) pc = .ok (.ior, 1)) (kk : fR l κ μ (pc + 1) lv (.int (x ||| y) :: st) M bc bs P) : fR l κ μ pc lv (.int y :: .int x :: st) M bc bs P := by
  intro p e s m args below meth c C H locs cells slots ls hW hS hl hc hs
  exact lv_ior C.2.1 C.2.2.1 d (kk p e s m args below meth c C H locs cells slots ls hW hS hl hc hs)

theorem r_ixor {x y : Int32} (d : decode (mB μ) pc = .ok (.ixor, 1)) (kk : fR l κ μ (pc + 1) lv (.int (x ^^^ y) :: st) M bc bs P) : fR l κ μ pc lv (.int y :: .int x :: st) M bc bs P := by
  intro p e s m args below meth c C H locs cells slots ls hW hS hl hc hs
  exact lv_ixor C.2.1 C.2.2.1 d (kk p e s m args below meth c C H locs cells slots ls hW hS hl hc hs)

theorem r_ishl {x y : Int32} (d : decode (mB μ) pc = .ok (.ishl, 1)) (kk : fR l κ μ (pc + 1) lv (.int (x <<< (y &&& 31)) :: st) M bc bs P) : fR l κ μ pc lv (.int y :: .int x :: st) M bc bs P := by
  intro p e s m args below meth c C H locs cells slots ls hW hS hl hc hs
  exact lv_ishl C.2.1 C.2.2.1 d (kk p e s m args below meth c C H locs cells slots ls hW hS hl hc hs)

theorem r_idiv {x y : Int32} (d : decode (mB μ) pc = .ok (.idiv, 1)) (hne : ¬ y = 0) (kk : fR l κ μ (pc + 1) lv (.int (x / y) :: st) M bc bs P) : fR l κ μ pc lv (.int y :: .int x :: st) M bc bs P := by
  intro p e s m args below meth c C H locs cells slots ls hW hS hl hc hs
  exact lv_idiv C.2.1 C.2.2.1 d hne (kk p e s m args below meth c C H locs cells slots ls hW hS hl hc hs)

theorem r_irem {x y : Int32} (d : decode (mB μ) pc = .ok (.irem, 1)) (hne : ¬ y = 0) (kk : fR l κ μ (pc + 1) lv (.int (x - x / y * y) :: st) M bc bs P) : fR l κ μ pc lv (.int y :: .int x :: st) M bc bs P := by
  intro p e s m args below meth c C H locs cells slots ls hW hS hl hc hs
  exact lv_irem C.2.1 C.2.2.1 d hne (kk p e s m args below meth c C H locs cells slots ls hW hS hl hc hs)

theorem r_ineg {x : Int32} (d : decode (mB μ) pc = .ok (.ineg, 1)) (kk : fR l κ μ (pc + 1) lv (.int (-x) :: st) M bc bs P) : fR l κ μ pc lv (.int x :: st) M bc bs P := by
  intro p e s m args below meth c C H locs cells slots ls hW hS hl hc hs
  exact lv_ineg C.2.1 C.2.2.1 d (kk p e s m args below meth c C H locs cells slots ls hW hS hl hc hs)

theorem r_i2l {x : Int32} (d : decode (mB μ) pc = .ok (.i2l, 1)) (kk : fR l κ μ (pc + 1) lv (.long x.toInt64 :: st) M bc bs P) : fR l κ μ pc lv (.int x :: st) M bc bs P := by
  intro p e s m args below meth c C H locs cells slots ls hW hS hl hc hs
  exact lv_i2l C.2.1 C.2.2.1 d rfl (kk p e s m args below meth c C H locs cells slots ls hW hS hl hc hs)

theorem r_i2d {x : Int32} (d : decode (mB μ) pc = .ok (.i2d, 1)) (kk : fR l κ μ (pc + 1) lv (.double (FP.i2d x) :: st) M bc bs P) : fR l κ μ pc lv (.int x :: st) M bc bs P := by
  intro p e s m args below meth c C H locs cells slots ls hW hS hl hc hs
  exact lv_i2d C.2.1 C.2.2.1 d (kk p e s m args below meth c C H locs cells slots ls hW hS hl hc hs)

theorem r_i2c {x : Int32} (d : decode (mB μ) pc = .ok (.i2c, 1)) (kk : fR l κ μ (pc + 1) lv (.int (x.toUInt32 % 65536).toInt32 :: st) M bc bs P) : fR l κ μ pc lv (.int x :: st) M bc bs P := by
  intro p e s m args below meth c C H locs cells slots ls hW hS hl hc hs
  exact lv_i2c C.2.1 C.2.2.1 d rfl (kk p e s m args below meth c C H locs cells slots ls hW hS hl hc hs)

theorem r_ladd {x y : Int64} (d : decode (mB μ) pc = .ok (.ladd, 1)) (kk : fR l κ μ (pc + 1) lv (.long (x + y) :: st) M bc bs P) : fR l κ μ pc lv (.long y :: .long x :: st) M bc bs P := by
  intro p e s m args below meth c C H locs cells slots ls hW hS hl hc hs
  exact lv_ladd C.2.1 C.2.2.1 d (kk p e s m args below meth c C H locs cells slots ls hW hS hl hc hs)

theorem r_lsub {x y : Int64} (d : decode (mB μ) pc = .ok (.lsub, 1)) (kk : fR l κ μ (pc + 1) lv (.long (x - y) :: st) M bc bs P) : fR l κ μ pc lv (.long y :: .long x :: st) M bc bs P := by
  intro p e s m args below meth c C H locs cells slots ls hW hS hl hc hs
  exact lv_lsub C.2.1 C.2.2.1 d (kk p e s m args below meth c C H locs cells slots ls hW hS hl hc hs)

theorem r_lmul {x y : Int64} (d : decode (mB μ) pc = .ok (.lmul, 1)) (kk : fR l κ μ (pc + 1) lv (.long (x * y) :: st) M bc bs P) : fR l κ μ pc lv (.long y :: .long x :: st) M bc bs P := by
  intro p e s m args below meth c C H locs cells slots ls hW hS hl hc hs
  exact lv_lmul C.2.1 C.2.2.1 d (kk p e s m args below meth c C H locs cells slots ls hW hS hl hc hs)

theorem r_dmul {x y : UInt64} (d : decode (mB μ) pc = .ok (.dmul, 1)) (hne : vf_n64 (FP.dmul x y)) (kk : fR l κ μ (pc + 1) lv (.double (FP.dmul x y) :: st) M bc bs P) : fR l κ μ pc lv (.double y :: .double x :: st) M bc bs P := by
  intro p e s m args below meth c C H locs cells slots ls hW hS hl hc hs
  exact lv_dmul C.2.1 C.2.2.1 d hne (kk p e s m args below meth c C H locs cells slots ls hW hS hl hc hs)

theorem r_ddiv {x y : UInt64} (d : decode (mB μ) pc = .ok (.ddiv, 1)) (hne : vf_n64 (FP.ddiv x y)) (kk : fR l κ μ (pc + 1) lv (.double (FP.ddiv x y) :: st) M bc bs P) : fR l κ μ pc lv (.double y :: .double x :: st) M bc bs P := by
  intro p e s m args below meth c C H locs cells slots ls hW hS hl hc hs
  exact lv_ddiv C.2.1 C.2.2.1 d hne (kk p e s m args below meth c C H locs cells slots ls hW hS hl hc hs)

theorem r_dsub {x y : UInt64} (d : decode (mB μ) pc = .ok (.dsub, 1)) (hne : vf_n64 (FP.dsub x y)) (kk : fR l κ μ (pc + 1) lv (.double (FP.dsub x y) :: st) M bc bs P) : fR l κ μ pc lv (.double y :: .double x :: st) M bc bs P := by
  intro p e s m args below meth c C H locs cells slots ls hW hS hl hc hs
  exact lv_dsub C.2.1 C.2.2.1 d hne (kk p e s m args below meth c C H locs cells slots ls hW hS hl hc hs)

theorem r_dcmp {x y : UInt64} {op : CmpOp} (d : decode (mB μ) pc = .ok (.dcmp op, 1)) (kk : fR l κ μ (pc + 1) lv (.int (Op.cmpValue (FP.dcmp x y) op) :: st) M bc bs P) : fR l κ μ pc lv (.double y :: .double x :: st) M bc bs P := by
  intro p e s m args below meth c C H locs cells slots ls hW hS hl hc hs
  exact lv_dcmp C.2.1 C.2.2.1 d (kk p e s m args below meth c C H locs cells slots ls hW hS hl hc hs)

theorem r_if_eq {x : Int32} {off : Int} {tgt : Nat} (d : decode (mB μ) pc = .ok (.ifCond .eq off, 3)) (ht : (pc : Int) + off = (tgt : Int)) (kt : x = 0 → fR l κ μ tgt lv st M bc bs P) (kf : ¬ x = 0 → fR l κ μ (pc + 3) lv st M bc bs P) : fR l κ μ pc lv (.int x :: st) M bc bs P := by
  intro p e s m args below meth c C H locs cells slots ls hW hS hl hc hs
  exact lv_if_eq C.2.1 C.2.2.1 d ht (fun h => kt h p e s m args below meth c C H locs cells slots ls hW hS hl hc hs) (fun h => kf h p e s m args below meth c C H locs cells slots ls hW hS hl hc hs)

theorem r_if_ne {x : Int32} {off : Int} {tgt : Nat} (d : decode (mB μ) pc = .ok (.ifCond .ne off, 3)) (ht : (pc : Int) + off = (tgt : Int)) (kt : ¬ x = 0 → fR l κ μ tgt lv st M bc bs P) (kf : x = 0 → fR l κ μ (pc + 3) lv st M bc bs P) : fR l κ μ pc lv (.int x :: st) M bc bs P := by
  intro p e s m args below meth c C H locs cells slots ls hW hS hl hc hs
  exact lv_if_ne C.2.1 C.2.2.1 d ht (fun h => kt h p e s m args below meth c C H locs cells slots ls hW hS hl hc hs) (fun h => kf h p e s m args below meth c C H locs cells slots ls hW hS hl hc hs)

theorem r_if_lt {x : Int32} {off : Int} {tgt : Nat} (d : decode (mB μ) pc = .ok (.ifCond .lt off, 3)) (ht : (pc : Int) + off = (tgt : Int)) (kt : x < 0 → fR l κ μ tgt lv st M bc bs P) (kf : ¬ x < 0 → fR l κ μ (pc + 3) lv st M bc bs P) : fR l κ μ pc lv (.int x :: st) M bc bs P := by
  intro p e s m args below meth c C H locs cells slots ls hW hS hl hc hs
  exact lv_if_lt C.2.1 C.2.2.1 d ht (fun h => kt h p e s m args below meth c C H locs cells slots ls hW hS hl hc hs) (fun h => kf h p e s m args below meth c C H locs cells slots ls hW hS hl hc hs)

theorem r_if_ge {x : Int32} {off : Int} {tgt : Nat} (d : decode (mB μ) pc = .ok (.ifCond .ge off, 3)) (ht : (pc : Int) + off = (tgt : Int)) (kt : 0 ≤ x → fR l κ μ tgt lv st M bc bs P) (kf : ¬ 0 ≤ x → fR l κ μ (pc + 3) lv st M bc bs P) : fR l κ μ pc lv (.int x :: st) M bc bs P := by
  intro p e s m args below meth c C H locs cells slots ls hW hS hl hc hs
  exact lv_if_ge C.2.1 C.2.2.1 d ht (fun h => kt h p e s m args below meth c C H locs cells slots ls hW hS hl hc hs) (fun h => kf h p e s m args below meth c C H locs cells slots ls hW hS hl hc hs)

theorem r_if_gt {x : Int32} {off : Int} {tgt : Nat} (d : decode (mB μ) pc = .ok (.ifCond .gt off, 3)) (ht : (pc : Int) + off = (tgt : Int)) (kt : 0 < x → fR l κ μ tgt lv st M bc bs P) (kf : ¬ 0 < x → fR l κ μ (pc + 3) lv st M bc bs P) : fR l κ μ pc lv (.int x :: st) M bc bs P := by
  intro p e s m args below meth c C H locs cells slots ls hW hS hl hc hs
  exact lv_if_gt C.2.1 C.2.2.1 d ht (fun h => kt h p e s m args below meth c C H locs cells slots ls hW hS hl hc hs) (fun h => kf h p e s m args below meth c C H locs cells slots ls hW hS hl hc hs)

theorem r_if_le {x : Int32} {off : Int} {tgt : Nat} (d : decode (mB μ) pc = .ok (.ifCond .le off, 3)) (ht : (pc : Int) + off = (tgt : Int)) (kt : x ≤ 0 → fR l κ μ tgt lv st M bc bs P) (kf : ¬ x ≤ 0 → fR l κ μ (pc + 3) lv st M bc bs P) : fR l κ μ pc lv (.int x :: st) M bc bs P := by
  intro p e s m args below meth c C H locs cells slots ls hW hS hl hc hs
  exact lv_if_le C.2.1 C.2.2.1 d ht (fun h => kt h p e s m args below meth c C H locs cells slots ls hW hS hl hc hs) (fun h => kf h p e s m args below meth c C H locs cells slots ls hW hS hl hc hs)

theorem r_icmp_eq {x y : Int32} {off : Int} {tgt : Nat} (d : decode (mB μ) pc = .ok (.if_icmp .eq off, 3)) (ht : (pc : Int) + off = (tgt : Int)) (kt : x = y → fR l κ μ tgt lv st M bc bs P) (kf : ¬ x = y → fR l κ μ (pc + 3) lv st M bc bs P) : fR l κ μ pc lv (.int y :: .int x :: st) M bc bs P := by
  intro p e s m args below meth c C H locs cells slots ls hW hS hl hc hs
  exact lv_icmp_eq C.2.1 C.2.2.1 d ht (fun h => kt h p e s m args below meth c C H locs cells slots ls hW hS hl hc hs) (fun h => kf h p e s m args below meth c C H locs cells slots ls hW hS hl hc hs)

theorem r_icmp_ne {x y : Int32} {off : Int} {tgt : Nat} (d : decode (mB μ) pc = .ok (.if_icmp .ne off, 3)) (ht : (pc : Int) + off = (tgt : Int)) (kt : ¬ x = y → fR l κ μ tgt lv st M bc bs P) (kf : x = y → fR l κ μ (pc + 3) lv st M bc bs P) : fR l κ μ pc lv (.int y :: .int x :: st) M bc bs P := by
  intro p e s m args below meth c C H locs cells slots ls hW hS hl hc hs
  exact lv_icmp_ne C.2.1 C.2.2.1 d ht (fun h => kt h p e s m args below meth c C H locs cells slots ls hW hS hl hc hs) (fun h => kf h p e s m args below meth c C H locs cells slots ls hW hS hl hc hs)

theorem r_icmp_lt {x y : Int32} {off : Int} {tgt : Nat} (d : decode (mB μ) pc = .ok (.if_icmp .lt off, 3)) (ht : (pc : Int) + off = (tgt : Int)) (kt : x < y → fR l κ μ tgt lv st M bc bs P) (kf : ¬ x < y → fR l κ μ (pc + 3) lv st M bc bs P) : fR l κ μ pc lv (.int y :: .int x :: st) M bc bs P := by
  intro p e s m args below meth c C H locs cells slots ls hW hS hl hc hs
  exact lv_icmp_lt C.2.1 C.2.2.1 d ht (fun h => kt h p e s m args below meth c C H locs cells slots ls hW hS hl hc hs) (fun h => kf h p e s m args below meth c C H locs cells slots ls hW hS hl hc hs)

theorem r_icmp_ge {x y : Int32} {off : Int} {tgt : Nat} (d : decode (mB μ) pc = .ok (.if_icmp .ge off, 3)) (ht : (pc : Int) + off = (tgt : Int)) (kt : y ≤ x → fR l κ μ tgt lv st M bc bs P) (kf : ¬ y ≤ x → fR l κ μ (pc + 3) lv st M bc bs P) : fR l κ μ pc lv (.int y :: .int x :: st) M bc bs P := by
  intro p e s m args below meth c C H locs cells slots ls hW hS hl hc hs
  exact lv_icmp_ge C.2.1 C.2.2.1 d ht (fun h => kt h p e s m args below meth c C H locs cells slots ls hW hS hl hc hs) (fun h => kf h p e s m args below meth c C H locs cells slots ls hW hS hl hc hs)

theorem r_icmp_gt {x y : Int32} {off : Int} {tgt : Nat} (d : decode (mB μ) pc = .ok (.if_icmp .gt off, 3)) (ht : (pc : Int) + off = (tgt : Int)) (kt : y < x → fR l κ μ tgt lv st M bc bs P) (kf : ¬ y < x → fR l κ μ (pc + 3) lv st M bc bs P) : fR l κ μ pc lv (.int y :: .int x :: st) M bc bs P := by
  intro p e s m args below meth c C H locs cells slots ls hW hS hl hc hs
  exact lv_icmp_gt C.2.1 C.2.2.1 d ht (fun h => kt h p e s m args below meth c C H locs cells slots ls hW hS hl hc hs) (fun h => kf h p e s m args below meth c C H locs cells slots ls hW hS hl hc hs)

theorem r_icmp_le {x y : Int32} {off : Int} {tgt : Nat} (d : decode (mB μ) pc = .ok (.if_icmp .le off, 3)) (ht : (pc : Int) + off = (tgt : Int)) (kt : x ≤ y → fR l κ μ tgt lv st M bc bs P) (kf : ¬ x ≤ y → fR l κ μ (pc + 3) lv st M bc bs P) : fR l κ μ pc lv (.int y :: .int x :: st) M bc bs P := by
  intro p e s m args below meth c C H locs cells slots ls hW hS hl hc hs
  exact lv_icmp_le C.2.1 C.2.2.1 d ht (fun h => kt h p e s m args below meth c C H locs cells slots ls hW hS hl hc hs) (fun h => kf h p e s m args below meth c C H locs cells slots ls hW hS hl hc hs)

theorem r_goto {off : Int} {tgt : Nat} (d : decode (mB μ) pc = .ok (.goto off, 3)) (ht : (pc : Int) + off = (tgt : Int)) (kk : fR l κ μ tgt lv st M bc bs P) : fR l κ μ pc lv st M bc bs P := by
  intro p e s m args below meth c C H locs cells slots ls hW hS hl hc hs
  exact lv_goto C.2.1 C.2.2.1 d ht (kk p e s m args below meth c C H locs cells slots ls hW hS hl hc hs)

theorem r_lookup {dflt : Int} {ps : Array (Int × Int)} {len : Nat} {x : Int32} {off : Int} {tgt : Nat} (d : decode (mB μ) pc = .ok (.lookupswitch dflt ps, len)) (hp : (ps.toList.zip (ps.toList.drop 1)).all (fun (a, next) => a.1 < next.1) = true) (ho : Op.lookupswitch.offset ps.toList dflt x.toInt = off) (ht : (pc : Int) + off = (tgt : Int)) (kk : fR l κ μ tgt lv st M bc bs P) : fR l κ μ pc lv (.int x :: st) M bc bs P := by
  intro p e s m args below meth c C H locs cells slots ls hW hS hl hc hs
  exact lv_lookup C.2.1 C.2.2.1 d hp ho ht (kk p e s m args below meth c C H locs cells slots ls hW hS hl hc hs)

theorem r_tableOut {dflt lo hi : Int} {offs : Array Int} {len : Nat} {x : Int32} {tgt : Nat} (d : decode (mB μ) pc = .ok (.tableswitch dflt lo hi offs, len)) (h : x.toInt < lo ∨ hi < x.toInt) (ht : (pc : Int) + dflt = (tgt : Int)) (kk : fR l κ μ tgt lv st M bc bs P) : fR l κ μ pc lv (.int x :: st) M bc bs P := by
  intro p e s m args below meth c C H locs cells slots ls hW hS hl hc hs
  exact lv_tableOut C.2.1 C.2.2.1 d h ht (kk p e s m args below meth c C H locs cells slots ls hW hS hl hc hs)

theorem r_tableIn {dflt lo hi : Int} {offs : Array Int} {len : Nat} {x : Int32} {off : Int} {tgt : Nat} (d : decode (mB μ) pc = .ok (.tableswitch dflt lo hi offs, len)) (h1 : ¬ x.toInt < lo) (h2 : ¬ hi < x.toInt) (ho : offs[(x.toInt - lo).toNat]? = some off) (ht : (pc : Int) + off = (tgt : Int)) (kk : fR l κ μ tgt lv st M bc bs P) : fR l κ μ pc lv (.int x :: st) M bc bs P := by
  intro p e s m args below meth c C H locs cells slots ls hW hS hl hc hs
  exact lv_tableIn C.2.1 C.2.2.1 d h1 h2 ho ht (kk p e s m args below meth c C H locs cells slots ls hW hS hl hc hs)

theorem r_get {idx ci k a : Nat} {fs : List Value} {v : Value} {C0 : String} {T0 : u_T} {N0 : Nat} (d : decode (mB μ) pc = .ok (.getfield idx, 3)) (hm : M a = some (.inl (ci, fs))) (hq : vwCl[ci]? = some (C0, T0, N0)) (hv : fs[k]? = some v) (hk : k < N0) (hlink : Cond.fieldLink (mY μ).cls idx (T0 k).1 (T0 k).2.1 (T0 k).2.2.1 ∈ lw_tbl) (kk : fR l κ μ (pc + 3) lv (v :: st) M bc bs P) : fR l κ μ pc lv (.ref a :: st) M bc bs P := by
  intro p e s m args below meth c C H locs cells slots ls hW hS hl hc hs
  obtain ⟨dC, dI, tys, ws, hK, hP, hD, hM9⟩ := id hW
  obtain ⟨k0, hk0⟩ := hM9 a _ hm
  exact va_get C.2.1 C.2.2.1 C.2.2.2.2.2.2.1 (fWs_ok hq) C.2.2.2.2.2.1 hK hP k0 hk0 hq k hk (C.2.2.2.2.2.2.1 _ (lwG_of hlink rfl)) (fun x h => h) hv d (kk p e s m args below meth c C H locs cells slots ls hW hS hl hc hs)

theorem r_put {idx ci k a : Nat} {fs fs' : List Value} {v : Value} {C0 : String} {T0 : u_T} {N0 : Nat} (d : decode (mB μ) pc = .ok (.putfield idx, 3)) (hm : M a = some (.inl (ci, fs))) (hq : vwCl[ci]? = some (C0, T0, N0)) (hk : k < N0) (hlink : Cond.fieldLink (mY μ).cls idx (T0 k).1 (T0 k).2.1 (T0 k).2.2.1 ∈ lw_tbl) (hfin : (T0 k).2.2.2 = false) (hn : narrow (fTyOf ci k) v = v) (hfit : fits (fTyOf ci k) v = true) (hlen : k < fs.length) (hset : fs.set k v = fs') (kk : fR l κ μ (pc + 3) lv st (fup M a (.inl (ci, fs'))) bc bs P) : fR l κ μ pc lv (v :: .ref a :: st) M bc bs P := by
  subst hset
  intro p e s m args below meth c C H locs cells slots ls hW hS hl hc hs
  obtain ⟨dC, dI, tys, ws, hK, hP, hD, hM9⟩ := id hW
  obtain ⟨k0, hk0⟩ := hM9 a _ hm
  exact va_put C.2.1 C.2.2.1 C.2.2.2.2.2.2.1 (fWs_ok hq) (fTyOf ci) (fTy_ok hq) (fNm_ok hq) C.2.2.2.2.2.1 hK hP hD hS k0 hk0 hq k hk (C.2.2.2.2.2.2.1 _ (lwG_of hlink rfl)) (fun x h => h) hfin (fTy_ok hq k hk) hn hfit hlen d (fun H1 locs1 hP1 hD1 hS1 => kk p e s m args below meth c C H1 locs1 cells slots ls ⟨dC, dI, tys, _, hK, hP1, hD1, fIn_set hD hM9 hk0 ⟨k0, fset_at hk0⟩⟩ hS1 hl hc hs)

theorem r_putF {idx ci k a : Nat} {fs fs' : List Value} {v : Value} {C0 : String} {T0 : u_T} {N0 : Nat} (d : decode (mB μ) pc = .ok (.putfield idx, 3)) (hm : M a = some (.inl (ci, fs))) (hq : vwCl[ci]? = some (C0, T0, N0)) (hk : k < N0) (hlink : Cond.fieldLink (mY μ).cls idx (T0 k).1 (T0 k).2.1 (T0 k).2.2.1 ∈ lw_tbl) (hfin : (T0 k).2.2.2 = true) (hin : (mY μ).name = "<init>") (hdecl : (T0 k).1 = (mY μ).cls) (hn : narrow (fTyOf ci k) v = v) (hfit : fits (fTyOf ci k) v = true) (hlen : k < fs.length) (hset : fs.set k v = fs') (kk : fR l κ μ (pc + 3) lv st (fup M a (.inl (ci, fs'))) bc bs P) : fR l κ μ pc lv (v :: .ref a :: st) M bc bs P := by
  subst hset
  intro p e s m args below meth c C H locs cells slots ls hW hS hl hc hs
  obtain ⟨dC, dI, tys, ws, hK, hP, hD, hM9⟩ := id hW
  obtain ⟨k0, hk0⟩ := hM9 a _ hm
  exact va_putF C.2.1 C.2.2.1 C.2.2.2.2.2.2.1 (fWs_ok hq) (fTyOf ci) (fTy_ok hq) (fNm_ok hq) C.2.2.2.2.2.1 hK hP hD hS k0 hk0 hq k hk (C.2.2.2.2.2.2.1 _ (lwG_of hlink rfl)) (fun x h => h) hfin (C.2.2.2.2.2.2.2.2.1.trans hin) hdecl (fTy_ok hq k hk) hn hfit hlen d (fun H1 locs1 hP1 hD1 hS1 => kk p e s m args below meth c C H1 locs1 cells slots ls ⟨dC, dI, tys, _, hK, hP1, hD1, fIn_set hD hM9 hk0 ⟨k0, fset_at hk0⟩⟩ hS1 hl hc hs)

theorem r_iald {a n : Nat} {f : Nat → Int32} {i : Int32} (d : decode (mB μ) pc = .ok (.iaload, 1)) (hm : M a = some (.inr (0, n, .inl f))) (hin : vp_in i n) (kk : fR l κ μ (pc + 1) lv (.int (f i.toNatClampNeg) :: st) M bc bs P) : fR l κ μ pc lv (.int i :: .ref a :: st) M bc bs P := by
  intro p e s m args below meth c C H locs cells slots ls hW hS hl hc hs
  obtain ⟨dC, dI, tys, ws, hK, hP, hD, hM9⟩ := id hW
  obtain ⟨k0, t0, cA, hk0, ht0⟩ := hM9 a _ hm
  exact va_iald C.2.1 C.2.2.1 hK hP k0 t0 hk0 ht0 hin d (kk p e s m args below meth c C H locs cells slots ls hW hS hl hc hs)

theorem r_cald {a n : Nat} {f : Nat → Int32} {i : Int32} (d : decode (mB μ) pc = .ok (.caload, 1)) (hm : M a = some (.inr (1, n, .inl f))) (hin : vp_in i n) (kk : fR l κ μ (pc + 1) lv (.int (f i.toNatClampNeg) :: st) M bc bs P) : fR l κ μ pc lv (.int i :: .ref a :: st) M bc bs P := by
  intro p e s m args below meth c C H locs cells slots ls hW hS hl hc hs
  obtain ⟨dC, dI, tys, ws, hK, hP, hD, hM9⟩ := id hW
  obtain ⟨k0, t0, cA, hk0, ht0⟩ := hM9 a _ hm
  exact va_cald C.2.1 C.2.2.1 hK hP k0 t0 hk0 ht0 hin d (kk p e s m args below meth c C H locs cells slots ls hW hS hl hc hs)

theorem r_lald {a n : Nat} {f : Nat → Int64} {i : Int32} (d : decode (mB μ) pc = .ok (.laload, 1)) (hm : M a = some (.inr (2, n, .inr (.inl f)))) (hin : vp_in i n) (kk : fR l κ μ (pc + 1) lv (.long (f i.toNatClampNeg) :: st) M bc bs P) : fR l κ μ pc lv (.int i :: .ref a :: st) M bc bs P := by
  intro p e s m args below meth c C H locs cells slots ls hW hS hl hc hs
  obtain ⟨dC, dI, tys, ws, hK, hP, hD, hM9⟩ := id hW
  obtain ⟨k0, t0, cA, hk0, ht0⟩ := hM9 a _ hm
  exact va_lald C.2.1 C.2.2.1 hK hP k0 t0 hk0 ht0 hin d (kk p e s m args below meth c C H locs cells slots ls hW hS hl hc hs)

theorem r_aldq {a n t : Nat} {Cn : String} {f : Nat → Option Nat} {i : Int32} (d : decode (mB μ) pc = .ok (.aaload, 1)) (hm : M a = some (.inr (t, n, .inr (.inr (.inr (.inr f)))))) (ht : fTy t = .object Cn) (hin : vp_in i n) (kk : fR l κ μ (pc + 1) lv (va_rf (f i.toNatClampNeg) :: st) M bc bs P) : fR l κ μ pc lv (.int i :: .ref a :: st) M bc bs P := by
  intro p e s m args below meth c C H locs cells slots ls hW hS hl hc hs
  obtain ⟨dC, dI, tys, ws, hK, hP, hD, hM9⟩ := id hW
  obtain ⟨k0, t0, cA, hk0, ht0⟩ := hM9 a _ hm
  exact va_aldq C.2.1 C.2.2.1 hK hP k0 t0 hk0 (ht0.trans (by rw [ht])) hin d (kk p e s m args below meth c C H locs cells slots ls hW hS hl hc hs)

theorem r_iast {a n : Nat} {f : Nat → Int32} {i : Int32} {x : Int32} (d : decode (mB μ) pc = .ok (.iastore, 1)) (hm : M a = some (.inr (0, n, .inl f))) (hin : vp_in i n) (kk : fR l κ μ (pc + 1) lv st (fup M a (.inr (0, n, .inl (upd f i.toNatClampNeg x)))) bc bs P) : fR l κ μ pc lv (.int x :: .int i :: .ref a :: st) M bc bs P := by
  intro p e s m args below meth c C H locs cells slots ls hW hS hl hc hs
  obtain ⟨dC, dI, tys, ws, hK, hP, hD, hM9⟩ := id hW
  obtain ⟨k0, t0, cA, hk0, ht0⟩ := hM9 a _ hm
  exact va_iast C.2.1 C.2.2.1 hK hP hD hS k0 t0 hk0 ht0 hin d (fun H1 locs1 hP1 hD1 hS1 => kk p e s m args below meth c C H1 locs1 cells slots ls ⟨dC, dI, tys, _, hK, hP1, hD1, fIn_set hD hM9 hk0 ⟨k0, t0, cA, fset_at hk0, ht0⟩⟩ hS1 hl hc hs)

theorem r_cast {a n : Nat} {f : Nat → Int32} {i : Int32} {x : Int32} (d : decode (mB μ) pc = .ok (.castore, 1)) (hm : M a = some (.inr (1, n, .inl f))) (hin : vp_in i n) (kk : fR l κ μ (pc + 1) lv st (fup M a (.inr (1, n, .inl (upd f i.toNatClampNeg (vp_nar .char x))))) bc bs P) : fR l κ μ pc lv (.int x :: .int i :: .ref a :: st) M bc bs P := by
  intro p e s m args below meth c C H locs cells slots ls hW hS hl hc hs
  obtain ⟨dC, dI, tys, ws, hK, hP, hD, hM9⟩ := id hW
  obtain ⟨k0, t0, cA, hk0, ht0⟩ := hM9 a _ hm
  exact va_cast C.2.1 C.2.2.1 hK hP hD hS k0 t0 hk0 ht0 hin d (fun H1 locs1 hP1 hD1 hS1 => kk p e s m args below meth c C H1 locs1 cells slots ls ⟨dC, dI, tys, _, hK, hP1, hD1, fIn_set hD hM9 hk0 ⟨k0, t0, cA, fset_at hk0, ht0⟩⟩ hS1 hl hc hs)

theorem r_last {a n : Nat} {f : Nat → Int64} {i : Int32} {x : Int64} (d : decode (mB μ) pc = .ok (.lastore, 1)) (hm : M a = some (.inr (2, n, .inr (.inl f)))) (hin : vp_in i n) (kk : fR l κ μ (pc + 1) lv st (fup M a (.inr (2, n, .inr (.inl (vp_updL f i.toNatClampNeg x))))) bc bs P) : fR l κ μ pc lv (.long x :: .int i :: .ref a :: st) M bc bs P := by
  intro p e s m args below meth c C H locs cells slots ls hW hS hl hc hs
  obtain ⟨dC, dI, tys, ws, hK, hP, hD, hM9⟩ := id hW
  obtain ⟨k0, t0, cA, hk0, ht0⟩ := hM9 a _ hm
  exact va_last C.2.1 C.2.2.1 hK hP hD hS k0 t0 hk0 ht0 hin d (fun H1 locs1 hP1 hD1 hS1 => kk p e s m args below meth c C H1 locs1 cells slots ls ⟨dC, dI, tys, _, hK, hP1, hD1, fIn_set hD hM9 hk0 ⟨k0, t0, cA, fset_at hk0, ht0⟩⟩ hS1 hl hc hs)

theorem r_astq {a n t v ci : Nat} {vs : List Value} {q : vw_C} {f : Nat → Option Nat} {i : Int32} (d : decode (mB μ) pc = .ok (.aastore, 1)) (hm : M a = some (.inr (t, n, .inr (.inr (.inr (.inr f)))))) (hv : M v = some (.inl (ci, vs))) (hq : vwCl[ci]? = some q) (ht : fTy t = .object q.1) (hin : vp_in i n) (kk : fR l κ μ (pc + 1) lv st (fup M a (.inr (t, n, .inr (.inr (.inr (.inr (va_up f i.toNatClampNeg (some v)))))))) bc bs P) : fR l κ μ pc lv (.ref v :: .int i :: .ref a :: st) M bc bs P := by
  intro p e s m args below meth c C H locs cells slots ls hW hS hl hc hs
  obtain ⟨dC, dI, tys, ws, hK, hP, hD, hM9⟩ := id hW
  obtain ⟨k0, t0, cA, hk0, ht0⟩ := hM9 a _ hm
  obtain ⟨k1, hk1⟩ := hM9 v _ hv
  exact va_astq C.2.1 C.2.2.1 hK hP hD hS k0 t0 k1 ci hk0 (ht0.trans (by rw [ht])) hk1 hq hin d (fun H1 locs1 hP1 hD1 hS1 => kk p e s m args below meth c C H1 locs1 cells slots ls ⟨dC, dI, tys, _, hK, hP1, hD1, fIn_set hD hM9 hk0 ⟨k0, t0, cA, fset_at hk0, ht0⟩⟩ hS1 hl hc hs)

theorem r_alen {a : Nat} {t : Nat} {x : vp_A} {v : Int32} (d : decode (mB μ) pc = .ok (.arraylength, 1)) (hm : M a = some (.inr (t, x))) (hv : Int32.ofNat x.1 = v) (kk : fR l κ μ (pc + 1) lv (.int v :: st) M bc bs P) : fR l κ μ pc lv (.ref a :: st) M bc bs P := by
  intro p e s m args below meth c C H locs cells slots ls hW hS hl hc hs
  obtain ⟨dC, dI, tys, ws, hK, hP, hD, hM9⟩ := id hW
  obtain ⟨k0, t0, cA, hk0, ht0⟩ := hM9 a _ hm
  exact va_alen C.2.1 C.2.2.1 hK hP k0 t0 hk0 ht0 hv d (kk p e s m args below meth c C H locs cells slots ls hW hS hl hc hs)

theorem r_sld {i : Int32} (d : decode (mB μ) pc = .ok (.iaload, 1)) (hin : vp_in i (kL κ)) (kk : fR l κ μ (pc + 1) lv (.int (kX κ i.toNatClampNeg) :: st) M bc bs P) : fR l κ μ pc lv (.int i :: .ref (kB κ) :: st) M bc bs P := by
  intro p e s m args below meth c C H locs cells slots ls hW hS hl hc hs
  have hZ := C.2.2.2.2.2.2.2.2.2.2.1.1
  exact va_sld C.2.1 C.2.2.1 hZ.1 (by obtain ⟨scr, h1, -⟩ := hZ.1; exact (Array.getElem?_eq_some_iff.mp h1).1) (Nat.not_le.mpr hZ.2) hS hin d (kk p e s m args below meth c C H locs cells slots ls hW hS hl hc hs)
theorem r_slen (d : decode (mB μ) pc = .ok (.arraylength, 1)) (kk : fR l κ μ (pc + 1) lv (.int (Int32.ofNat (kL κ)) :: st) M bc bs P) : fR l κ μ pc lv (.ref (kB κ) :: st) M bc bs P := by
  intro p e s m args below meth c C H locs cells slots ls hW hS hl hc hs
  have hZ := C.2.2.2.2.2.2.2.2.2.2.1.1
  exact va_slen C.2.1 C.2.2.1 hZ.1 (by obtain ⟨scr, h1, -⟩ := hZ.1; exact (Array.getElem?_eq_some_iff.mp h1).1) (Nat.not_le.mpr hZ.2) hS d (kk p e s m args below meth c C H locs cells slots ls hW hS hl hc hs)

theorem r_new {idx ci : Nat} {fs : List Value} {C0 : String} {T0 : u_T} {N0 bc' bs' : Nat} (d : decode (mB μ) pc = .ok (.new idx, 3)) (hq : vwCl[ci]? = some (C0, T0, N0)) (hlink : Cond.classLink (mY μ).cls idx C0 ∈ lw_tbl) (hins : Cond.instantiable C0 N0 ∈ lw_tbl) (hini : Cond.initialized C0 ∈ lw_tbl) (hfs : ∀ j, j < N0 → defaultValue (fTyOf ci j) = vp_V fs j) (hbc : bc = bc' + 1) (hbs : bs = bs' + N0) (kk : ∀ q : Nat, M q = none → fR l κ μ (pc + 3) lv (.ref q :: st) (fup M q (.inl (ci, fs))) bc' bs' P) : fR l κ μ pc lv st M bc bs P := by
  intro p e s m args below meth c C H locs cells slots ls hW hS hl hc hs
  obtain ⟨dC, dI, tys, ws, hK, hP, hD, hM9⟩ := id hW
  have hA : ∀ q, s.heap.size ≤ q → fA (kO κ) q := fun q h => Nat.le_trans C.2.2.2.2.2.2.2.2.2.2.2.2 h
  refine va_new C.2.1 C.2.2.1 C.2.2.2.2.2.2.1 (fWs_ok hq) (fTyOf ci) (fTy_ok hq) C.2.2.2.2.2.1 (C.2.2.2.2.2.2.1 _ (lwG_of hlink rfl)) (C.2.2.2.2.2.2.1 _ (lwG_of hins rfl)) (C.2.2.2.2.2.2.1 _ (lwG_of hini rfl)) hK hP hD hS hA hq hfs (by omega) (show slots + N0 ≤ (mR μ).slots by omega) d (fun q H1 hP1 hD1 hS1 => kk q (fIn_fresh hD1 hM9) p e s m args below meth c C H1 locs (cells + 1) (slots + N0) ls ⟨dC, dI, tys ++ [], _, by rw [List.append_nil]; exact hK, hP1, hD1, fIn_push hM9 ⟨ws.length, by simp⟩⟩ hS1 hl (by omega) (by omega))

theorem r_newa {atype : ArrayType} {t : Nat} {n : Int32} {N bc' bs' : Nat} {a0 : vp_A} (d : decode (mB μ) pc = .ok (.newarray atype, 2)) (harr : Cond.arrayClass (newarray.typeOf atype) ∈ lw_tbl) (hty : newarray.typeOf atype = fTy t) (ha : ∀ cA : ClassId, vp_cell cA a0 = arrV cA N (fun _ => defaultValue (fTy t))) (hn : ¬ n < 0) (hN : n.toNatClampNeg = N) (hby : N * componentBytes (fTy t) ≤ 536870912) (hbc : bc = bc' + 1) (hbs : bs = bs' + N) (kk : ∀ q : Nat, M q = none → fR l κ μ (pc + 2) lv (.ref q :: st) (fup M q (.inr (t, a0))) bc' bs' P) : fR l κ μ pc lv (.int n :: st) M bc bs P := by
  intro p e s m args below meth c C H locs cells slots ls hW hS hl hc hs
  obtain ⟨dC, dI, tys, ws, hK, hP, hD, hM9⟩ := id hW
  have hA : ∀ q, s.heap.size ≤ q → fA (kO κ) q := fun q h => Nat.le_trans C.2.2.2.2.2.2.2.2.2.2.2.2 h
  refine va_newa (atype := atype) C.2.1 C.2.2.1 (C.2.2.2.2.2.2.1 _ (lwG_of harr rfl)) hty hK hP hD hS hA ha hn hN hby (by omega) (by omega) d (fun q cA H1 hK1 hP1 hD1 hS1 => kk q (fIn_fresh hD1 hM9) p e s m args below meth c C H1 locs (cells + 1) (slots + N) ls ⟨dC, dI, _, _, hK1, hP1, hD1, fIn_push hM9 ⟨ws.length, tys.length, cA, by simp, by simp⟩⟩ hS1 hl (by omega) (by omega))

theorem r_newq {idx t : Nat} {C0 : String} {n : Int32} {N bc' bs' : Nat} (d : decode (mB μ) pc = .ok (.anewarray idx, 3)) (hlink : Cond.classLink (mY μ).cls idx C0 ∈ lw_tbl) (hov : C0 ∈ ["BitumenNeedle$Drum", "BitumenNeedle$Specimen", "BitumenNeedle$Needle", "BitumenNeedle$Lab"]) (hty : FieldType.object C0 = fTy t) (hn : ¬ n < 0) (hN : n.toNatClampNeg = N) (hby : N * 4 ≤ 536870912) (hbc : bc = bc' + 1) (hbs : bs = bs' + N) (kk : ∀ q : Nat, M q = none → fR l κ μ (pc + 3) lv (.ref q :: st) (fup M q (.inr (t, N, .inr (.inr (.inr (.inr (fun _ => none))))))) bc' bs' P) : fR l κ μ pc lv (.int n :: st) M bc bs P := by
  intro p e s m args below meth c C H locs cells slots ls hW hS hl hc hs
  obtain ⟨dC, dI, tys, ws, hK, hP, hD, hM9⟩ := id hW
  have hA : ∀ q, s.heap.size ≤ q → fA (kO κ) q := fun q h => Nat.le_trans C.2.2.2.2.2.2.2.2.2.2.2.2 h
  refine va_newq C.2.1 C.2.2.1 C.2.2.2.2.2.1 (C.2.2.2.2.2.2.1 _ (lwG_of hlink rfl)) (C.2.2.2.2.2.2.2.2.2.2.2.1.2.1 C0 hov) hK hP hD hS hA hn hN hby (by omega) (by omega) d (fun q cA H1 hK1 hP1 hD1 hS1 => kk q (fIn_fresh hD1 hM9) p e s m args below meth c C H1 locs (cells + 1) (slots + N) ls ⟨dC, dI, _, _, hK1, hP1, hD1, fIn_push hM9 ⟨ws.length, tys.length, cA, by simp, by simp [hty]⟩⟩ hS1 hl (by omega) (by omega))

end FRR
