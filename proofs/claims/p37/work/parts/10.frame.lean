/-! THE FRAME: an abstract memory M (address to cell), one predicate fW between it and the heap, one judgement fR for a point of a body, one contract fM for a method. -/
abbrev MC : Type := (Nat × List Value) ⊕ (Nat × vp_A)
abbrev Mem : Type := Nat → Option MC
abbrev Out : Type := Option Value ⊕ String
abbrev FPost : Type := Out → Mem → Prop
/-- a method: name, bytes, locals, return type, room, its table of handlers -/
abbrev MD : Type := MethodName × ByteArray × Nat × Option FieldType × Room × List (Nat × Nat × Nat × Nat)
/-- what is fixed in a run: the first address of the run's own cells, the script (address, length, values), the addresses of String constants, of their arrays, of the static arrays -/
abbrev KP : Type := Nat × Nat × Nat × (Nat → Int32) × (Nat → Nat) × (Nat → Nat) × (Nat → Nat)
abbrev kO (κ : KP) : Nat := κ.1
abbrev kB (κ : KP) : Nat := κ.2.1
abbrev kL (κ : KP) : Nat := κ.2.2.1
abbrev kX (κ : KP) : Nat → Int32 := κ.2.2.2.1
abbrev kK (κ : KP) : Nat → Nat := κ.2.2.2.2.1
abbrev kV (κ : KP) : Nat → Nat := κ.2.2.2.2.2.1
abbrev kT (κ : KP) : Nat → Nat := κ.2.2.2.2.2.2
abbrev mY (μ : MD) : MethodName := μ.1
abbrev mB (μ : MD) : ByteArray := μ.2.1
abbrev mL (μ : MD) : Nat := μ.2.2.1
abbrev mT (μ : MD) : Option FieldType := μ.2.2.2.1
abbrev mR (μ : MD) : Room := μ.2.2.2.2.1
abbrev mH (μ : MD) : List (Nat × Nat × Nat × Nat) := μ.2.2.2.2.2
def fA (o : Nat) : Nat → Prop := fun q => o ≤ q
def fTy : Nat → FieldType
  | 0 => .int
  | 1 => .char
  | 2 => .long
  | 3 => .object "BitumenNeedle$Drum"
  | 4 => .object "BitumenNeedle$Specimen"
  | 5 => .object "BitumenNeedle$Needle"
  | _ => .object "BitumenNeedle$Lab"
def fIn (tys : List (ClassId × FieldType)) (ws : va_W) (a : Nat) : MC → Prop
  | .inl x => ∃ k : Nat, ws[k]? = some (a, (Sum.inr x : va_E))
  | .inr x => ∃ (k k' : Nat) (cA : ClassId), ws[k]? = some (a, (Sum.inl (cA, x.2) : va_E)) ∧ tys[k']? = some (cA, fTy x.1)
/-- the heap H holds what M says -/
def fW (o : Nat) (U : State) (M : Mem) (H : Heap) : Prop :=
  ∃ (dC : Nat → ClassId) (dI : Nat → Nat → Nat) (tys : List (ClassId × FieldType)) (ws : va_W), va_K (dC, dI) vwCl tys U ∧ va_P (dC, dI) vwCl ws H ∧ va_D (fA o) ws ∧ (∀ a c, M a = some c → fIn tys ws a c)
theorem fW.moved {o : Nat} {u U : State} {M : Mem} {H : Heap} (hvm : u.vm.Alike U.vm) (h : fW o u M H) : fW o U M H := by
  obtain ⟨dC, dI, tys, ws, h1, h2⟩ := h
  exact ⟨dC, dI, tys, ws, va_K.moved hvm h1, h2⟩
/-- the String constants: class, place in its file, text, our number -/
def fStr : List (String × Nat × String × Nat) := [("BitumenNeedle$Part", 9, "", 0), ("BitumenNeedle$Part", 9, "", 0), ("BitumenNeedle$Part", 9, "", 0), ("BitumenNeedle$Part", 9, "", 0), ("BitumenNeedle$Part", 9, "", 0), ("BitumenNeedle$Part", 9, "", 0), ("BitumenNeedle", 259, "a value is out of range", 6), ("BitumenNeedle", 261, "there is no such drum or sample", 7), ("BitumenNeedle", 263, "it is refused", 8), ("BitumenNeedle", 256, "there is no such number", 9), ("BitumenNeedle$Part", 9, "", 0), ("BitumenNeedle", 179, "no state is saved", 11), ("BitumenNeedle", 195, "there is no snapshot", 12), ("BitumenNeedle", 203, "a reading has a place from 0", 13)]
def fLen : List Nat := [0]
def fByt : List (List Int32) := [[]]
def fNcs : List (String × String) := []
/-- an array of ints of three, of the very class of int arrays -/
def fEx (t : Nat) (U : State) (H : Heap) : Prop := ∀ cell : Cell, H[t]? = some cell → cell.slots.size = 3 ∧ U.vm.findClass "[I" = some cell.cls
theorem fEx.moved {t : Nat} {u U : State} {H : Heap} (hvm : u.vm.Alike U.vm) (h : fEx t u H) : fEx t U H := fun cell hc => ⟨(h cell hc).1, by rw [hvm.findClass]; exact (h cell hc).2⟩
theorem fEx.kept {ty : FieldType} {t N : Nat} {f : Nat → Value} {A : Nat → Prop} {U : State} {H H1 : Heap} (h : fEx t U H) (hT : va_T ty t N f A U H) (hq : ∀ a : Nat, a < H.size → ¬ A a → H1[a]? = H[a]?) : fEx t U H1 := by
  obtain ⟨cell, h1, h2, h3, h4, h5, h6, h7⟩ := hT
  intro c hc
  rw [hq t (Array.getElem?_eq_some_iff.mp h1).1 h7] at hc
  exact h c hc
/-- constants of the run that lie below its own cells -/
def fZ (κ : KP) (U : State) (H : Heap) : Prop :=
  (va_X (kB κ) (kL κ) (kX κ) U H ∧ kB κ < kO κ) ∧
  (va_Z "BitumenNeedle" "FIRST_DEGREES" "[I" (.ref (kT κ 0)) (fA (kO κ)) U H ∧ va_T .int (kT κ 0) 3 (fun j => .int ([150, 250, 350].getD j 0)) (fA (kO κ)) U H ∧ fEx (kT κ 0) U H) ∧
  (va_Z "BitumenNeedle" "FIRST_SETTINGS" "[I" (.ref (kT κ 1)) (fA (kO κ)) U H ∧ va_T .int (kT κ 1) 3 (fun j => .int ([5, 12, 8].getD j 0)) (fA (kO κ)) U H ∧ fEx (kT κ 1) U H) ∧
  (va_Z "BitumenNeedle" "MOST_OF_SETTING" "[I" (.ref (kT κ 2)) (fA (kO κ)) U H ∧ va_T .int (kT κ 2) 3 (fun j => .int ([50, 100, 60].getD j 0)) (fA (kO κ)) U H) ∧
  (vx_Zq Bundle.tN "UNASSIGNED_STACK" Bundle.steD (fA (kO κ)) U H ∧ vx_Zq Bundle.tN "SUPPRESSED_SENTINEL" Bundle.listD (fA (kO κ)) U H) ∧
  (vk_S 1 fLen fByt (kK κ) (kV κ) (fA (kO κ)) U H ∧ True ∧ True)
theorem fZ.moved {κ : KP} {u U : State} {H : Heap} (hvm : u.vm.Alike U.vm) (h : fZ κ u H) : fZ κ U H := by
  obtain ⟨⟨a1, a2⟩, ⟨b1, b2⟩, ⟨c1, c2⟩, ⟨d1, d2⟩, ⟨e1, e2⟩, f1, f2, f3⟩ := h
  exact ⟨⟨va_X.moved hvm a1, a2⟩, ⟨va_Z.moved hvm b1, va_T.moved hvm b2.1, b2.2.moved hvm⟩, ⟨va_Z.moved hvm c1, va_T.moved hvm c2.1, c2.2.moved hvm⟩, ⟨va_Z.moved hvm d1, va_T.moved hvm d2⟩, ⟨vx_Zq.moved hvm e1, vx_Zq.moved hvm e2⟩, vk_S.moved hvm f1, f2, f3⟩
theorem fZ.kept {κ : KP} {U : State} {H H1 : Heap} (h : fZ κ U H) (hq : ∀ a : Nat, a < H.size → ¬ fA (kO κ) a → H1[a]? = H[a]?) : fZ κ U H1 := by
  obtain ⟨⟨a1, a2⟩, ⟨b1, b2⟩, ⟨c1, c2⟩, ⟨d1, d2⟩, ⟨e1, e2⟩, f1, f2, f3⟩ := h
  have hb : H1[kB κ]? = H[kB κ]? := by
    obtain ⟨scr, h1, -⟩ := a1
    exact hq _ (Array.getElem?_eq_some_iff.mp h1).1 (Nat.not_le.mpr a2)
  exact ⟨⟨a1.kept hb, a2⟩, ⟨b1.kept hq, b2.1.kept hq, b2.2.kept b2.1 hq⟩, ⟨c1.kept hq, c2.1.kept hq, c2.2.kept c2.1 hq⟩, ⟨d1.kept hq, d2.kept hq⟩, ⟨e1.kept hq, e2.kept hq⟩, f1.kept hq, f2, f3⟩
/-- words that keep by other laws than the good ones -/
def fKind : Cond → Bool
  | .methodLinkNest .. => true
  | .fieldLinkNest .. => true
  | .declares _ => true
  | .castable .. => true
  | .privateMethod _ => true
  | _ => false
theorem fKind_warm {w : Cond} {s U : State} (hW : s.WarmedH U.vm) (hk : fKind w = true) (h : va_Nw w s) : va_Nw w U := by
  cases w with
  | methodLinkNest a b c d => exact va_Nw.warmM hW h
  | fieldLinkNest a b c d e f => exact va_Nw.warmF hW h
  | declares a => exact va_Nw.warmD hW h
  | castable a b => exact va_Nw.warmC hW h
  | privateMethod x => exact va_tabs rfl (rfl : (s.setVm U.vm).vm = U.vm) (by rw [Cond.privateMethod_setVm hW.alike]; exact h)
  | _ => cases hk
def fN (κ : KP) (U : State) : Prop :=
  (∀ w ∈ lw_tbl, fKind w = true → va_Nw w U) ∧
  (∀ C ∈ ["BitumenNeedle$Drum", "BitumenNeedle$Specimen", "BitumenNeedle$Needle", "BitumenNeedle$Lab"], va_AO C U) ∧
  (∀ q ∈ fStr, vk_R q.1 q.2.1 q.2.2.1 (kK κ q.2.2.2) U) ∧
  (∀ q ∈ fNcs, va_Nc q.1 q.2 U)
theorem fN.warm {κ : KP} {s U : State} (hW : s.WarmedH U.vm) (h : fN κ s) : fN κ U :=
  ⟨fun w hw hk => fKind_warm hW hk (h.1 w hw hk), fun C hC => va_AO.moved hW.alike (h.2.1 C hC), fun q hq => vk_R.warm hW (h.2.2.1 q hq), fun q hq => va_Nc.moved hW.alike (h.2.2.2 q hq)⟩
def fCode (μ : MD) : Cond := match mH μ with
  | [] => .code (mY μ) (mB μ) (mL μ) (mT μ)
  | hh => .codeWith (mY μ) (mB μ) (mL μ) (mT μ) hh
def lwG : List Cond := lw_tbl.filter goodWord
theorem lwG_of {w : Cond} (h : w ∈ lw_tbl) (hg : goodWord w = true) : w ∈ lwG := List.mem_filter.mpr ⟨h, hg⟩
theorem lw_of {w : Cond} {i : Nat} (h : tables_1[i]? = some w) : w ∈ lw_tbl := List.mem_append_right _ (List.mem_of_getElem? h)
/-- what stands through a whole body -/
def fC (l : Launch) (κ : KP) (μ : MD) (p : Program) (e : Env) (s : State) (m : MethodId) (args : Array Value) (meth : Method) (c : Code) : Prop :=
  l.stackTraces = false ∧ p.tables.exec = Jvm.exec ∧ c.code = mB μ ∧ meth.sig.returnType = mT μ ∧ c.maxLocals = mL μ ∧ s.vm.findClass (mY μ).cls = some m.cls ∧ (∀ w ∈ lwG, w.before args s = true) ∧ meth.locks = false ∧ meth.name = (mY μ).name ∧ c.exceptionTable.toList = tableOf (mH μ) ∧ fZ κ s s.heap ∧ fN κ s ∧ kO κ ≤ s.heap.size
def fQ (κ : KP) (P : FPost) : Array Value → State → Outcome → State → Prop := fun _ st oc t => (∃ (v : Option Value) (M' : Mem), oc = .returned v ∧ P (.inl v) M' ∧ fW (kO κ) t M' t.heap) ∧ va_F (fA (kO κ)) st t
def fX (κ : KP) (P : FPost) : String → State → State → Prop := fun E st t => (∃ M' : Mem, P (.inr E) M' ∧ fW (kO κ) t M' t.heap) ∧ va_F (fA (kO κ)) st t
def fP (κ : KP) (av : List Value) (M : Mem) : Array Value → State → Prop := va_Pc av (fun U => fW (kO κ) U M U.heap ∧ fZ κ U U.heap ∧ fN κ U ∧ kO κ ≤ U.heap.size)
/-- a method's contract -/
def fM (l : Launch) (κ : KP) (μ : MD) (av : List Value) (M : Mem) (P : FPost) : Prop :=
  l.stackTraces = false → vx_Met l (mY μ) (fCode μ :: lwG) (mR μ) (fP κ av M) (fQ κ P) (fX κ P) (mR μ).cells (mR μ).slots (fA (kO κ))
/-- a point of a body: locals lv, stack st, memory M, bc cells and bs slots still to be made -/
def fR (l : Launch) (κ : KP) (μ : MD) (pc : Nat) (lv : List (Nat × Value)) (st : List Value) (M : Mem) (bc bs : Nat) (P : FPost) : Prop :=
  ∀ (p : Program) (e : Env) (s : State) (m : MethodId) (args : Array Value) (below : List Frame) (meth : Method) (c : Code), fC l κ μ p e s m args meth c →
    ∀ (H : Heap) (locs : List Loc) (cells slots : Nat) (ls : Array Slot), fW (kO κ) s M H → va_S (fA (kO κ)) s.heap H locs → lv_has ls (mL μ) lv → cells + bc ≤ (mR μ).cells → slots + bs ≤ (mR μ).slots →
      W p l e (mR μ) s m args below meth c H locs cells slots (vx_MQ below (fQ κ P) (fX κ P) args s (mR μ).cells (mR μ).slots (fA (kO κ))) (F0 m pc ls st)

theorem fZ.at {κ : KP} {s : State} {H : Heap} {locs : List Loc} (h : fZ κ s s.heap) (hS : va_S (fA (kO κ)) s.heap H locs) : fZ κ s H := h.kept hS.2.1
theorem fP_blind {κ : KP} {av : List Value} {M : Mem} : FrameBlind (fP κ av M) := by
  intro a U g mk ⟨h0, h1, h2, h3, h4⟩
  refine ⟨h0, ?_, ?_, ?_, h4⟩
  · exact fW.moved (u := U) (U := U.calling g mk a) (Vm.Alike.refl U.vm) h1
  · exact fZ.moved (u := U) (U := U.calling g mk a) (Vm.Alike.refl U.vm) h2
  · obtain ⟨a1, a2, a3, a4⟩ := h3
    exact ⟨fun w hw hk => va_tabs (by cases w <;> first | rfl | cases hk) (rfl : U.vm = (U.calling g mk a).vm) (a1 w hw hk), fun C hC => va_AO.moved (u := U) (U := U.calling g mk a) (Vm.Alike.refl U.vm) (a2 C hC), fun q hq => vk_R.same (u := U) rfl (a3 q hq), fun q hq => va_Nc.moved (u := U) (U := U.calling g mk a) (Vm.Alike.refl U.vm) (a4 q hq)⟩
section FR
variable {l : Launch} {κ : KP} {μ μ' : MD} {pc : Nat} {lv : List (Nat × Value)} {st rest : List Value} {M : Mem} {bc bs : Nat} {P P' : FPost}
/-- a body's start -/
theorem fM_of {av : List Value} (hH : mH μ = []) (hy : plainName (mY μ).cls = true) (hn : (lg_sl av).length ≤ mL μ) (k : fR l κ μ 0 (lv_args 0 av) [] M (mR μ).cells (mR μ).slots P) : fM l κ μ av M P := by
  intro hl
  have hcode : fCode μ = Cond.code (mY μ) (mB μ) (mL μ) (mT μ) := by unfold fCode; rw [hH]
  rw [hcode]
  refine vx_ofW (cc := mB μ) (maxL := mL μ) (ret := mT μ) hy rfl ?_
  intro p e s m args below meth c s₁ B hml htab hv
  obtain ⟨rfl, hW, hZ, hN, hO⟩ := hv
  have htl : c.exceptionTable.toList = tableOf (mH μ) := by
    rw [hH]
    cases ht : c.exceptionTable.toList with
    | nil => rfl
    | cons x t => exact (htab x (by rw [ht]; exact List.mem_cons_self)).elim
  have hts := atoms_spec (ws := Cond.code (mY μ) (mB μ) (mL μ) (mT μ) :: lwG) B.pre
  rw [lg_entry_eq]
  exact k p e s m av.toArray below meth c ⟨hl, B.exec, B.bytes, B.returns, hml, findClass_of_methodNamed B.named, fun w hw => hts w (List.mem_cons_of_mem _ hw), B.notSynchronized, (name_of_methodNamed B.named B.method).1, htl, hZ, hN, hO⟩ s.heap [] 0 0 _ hW va_S.rf (lv_entry av hn) (Nat.le_of_eq (Nat.zero_add _)) (Nat.le_of_eq (Nat.zero_add _))
/-- a weaker end -/
theorem fR.mono (h : fR l κ μ pc lv st M bc bs P) (hP : ∀ o M', P o M' → P' o M') : fR l κ μ pc lv st M bc bs P' := by
  intro p e s m args below meth c C H locs cells slots ls hW hS hl hc hs
  have k := h p e s m args below meth c C H locs cells slots ls hW hS hl hc hs
  intro T hT X
  obtain ⟨t, a1, o, b1, b2, b3⟩ := k T hT X
  refine ⟨t, a1, o, b1, b2, ?_⟩
  rcases b3 with ⟨⟨⟨v, M', h1, h2, h3⟩, h4⟩, h5⟩ | ⟨q, h0, E, ce, L, ⟨⟨M', h1, h2⟩, h3⟩, h4⟩
  · exact Or.inl ⟨⟨⟨v, M', h1, hP _ _ h2, h3⟩, h4⟩, h5⟩
  · exact Or.inr ⟨q, h0, E, ce, L, ⟨⟨M', hP _ _ h1, h2⟩, h3⟩, h4⟩
theorem fM.mono {av : List Value} (h : fM l κ μ av M P) (hP : ∀ o M', P o M' → P' o M') : fM l κ μ av M P' := by
  intro hl
  refine MetFree.mono (h hl) (fun _ _ h => h) (fun _ _ _ _ _ h => h) ?_
  rintro a s o t - (⟨⟨⟨v, M', h1, h2, h3⟩, h4⟩, h5⟩ | ⟨q, h0, E, ce, L, ⟨⟨M', h1, h2⟩, h3⟩, h4⟩)
  · exact Or.inl ⟨⟨⟨v, M', h1, hP _ _ h2, h3⟩, h4⟩, h5⟩
  · exact Or.inr ⟨q, h0, E, ce, L, ⟨⟨M', hP _ _ h1, h2⟩, h3⟩, h4⟩
/-- a method that doesn't throw -/
theorem fM_met {av : List Value} (h : fM l κ μ av M P) (hl : l.stackTraces = false) (hno : ∀ E M', ¬ P (.inr E) M') : Met l (mY μ) (fCode μ :: lwG) (mR μ) (fP κ av M) (fQ κ P) (mR μ).cells (mR μ).slots (fA (kO κ)) := by
  refine MetFree.mono (h hl) (fun _ _ h => h) (fun _ _ _ _ _ h => h) ?_
  rintro a s o t - (h1 | ⟨q, h0, E, ce, L, ⟨⟨M', h1, -⟩, -⟩, -⟩)
  · exact h1
  · exact (hno _ _ h1).elim
/-- the ends -/
theorem fR_iret {v : Int32} (d : decode (mB μ) pc = .ok (.ireturn, 1)) (hr : mT μ = some .int) (hP : P (.inl (some (.int v))) M) : fR l κ μ pc lv [.int v] M bc bs P := by
  intro p e s m args below meth c C H locs cells slots ls hW hS hl hc hs
  refine W.widen (k := (mR μ).cells) (n := (mR μ).slots) (by omega) (by omega) (vx_ret ?_)
  exact W.iret C.2.1 C.2.2.1 (C.2.2.2.1.trans hr) (fun t ht hw => ⟨⟨_, M, rfl, hP, by rw [ht]; exact hW.moved hw.alike⟩, hS.F ht⟩) hS.2.2 d (hlocks := C.2.2.2.2.2.2.2.1)
theorem fR_zret {v : Int32} {ty : FieldType} (d : decode (mB μ) pc = .ok (.ireturn, 1)) (hr : mT μ = some ty) (hn : narrow ty (.int v) = .int v) (hP : P (.inl (some (.int v))) M) : fR l κ μ pc lv [.int v] M bc bs P := by
  intro p e s m args below meth c C H locs cells slots ls hW hS hl hc hs
  refine W.widen (k := (mR μ).cells) (n := (mR μ).slots) (by omega) (by omega) (vx_ret ?_)
  exact W.zret C.2.1 C.2.2.1 (C.2.2.2.1.trans hr) hn (fun t ht hw => ⟨⟨_, M, rfl, hP, by rw [ht]; exact hW.moved hw.alike⟩, hS.F ht⟩) hS.2.2 d (hlocks := C.2.2.2.2.2.2.2.1)
theorem fR_vret (d : decode (mB μ) pc = .ok (.return_, 1)) (hr : mT μ = none) (hP : P (.inl none) M) : fR l κ μ pc lv [] M bc bs P := by
  intro p e s m args below meth c C H locs cells slots ls hW hS hl hc hs
  refine W.widen (k := (mR μ).cells) (n := (mR μ).slots) (by omega) (by omega) (vx_ret ?_)
  exact W.vret C.2.1 C.2.2.1 (C.2.2.2.1.trans hr) (fun t ht hw => ⟨⟨_, M, rfl, hP, by rw [ht]; exact hW.moved hw.alike⟩, hS.F ht⟩) hS.2.2 d (hlocks := C.2.2.2.2.2.2.2.1)
theorem fR_lret {v : Int64} (d : decode (mB μ) pc = .ok (.lreturn, 1)) (hr : mT μ = some .long) (hP : P (.inl (some (.long v))) M) : fR l κ μ pc lv [.long v] M bc bs P := by
  intro p e s m args below meth c C H locs cells slots ls hW hS hl hc hs
  refine W.widen (k := (mR μ).cells) (n := (mR μ).slots) (by omega) (by omega) (vx_ret ?_)
  exact W.lret C.2.1 C.2.2.1 (C.2.2.2.1.trans hr) (fun t ht hw => ⟨⟨_, M, rfl, hP, by rw [ht]; exact hW.moved hw.alike⟩, hS.F ht⟩) hS.2.2 d (hlocks := C.2.2.2.2.2.2.2.1)
theorem fR_dret {v : UInt64} (d : decode (mB μ) pc = .ok (.dreturn, 1)) (hr : mT μ = some .double) (hP : P (.inl (some (.double v))) M) : fR l κ μ pc lv [.double v] M bc bs P := by
  intro p e s m args below meth c C H locs cells slots ls hW hS hl hc hs
  refine W.widen (k := (mR μ).cells) (n := (mR μ).slots) (by omega) (by omega) (vx_ret ?_)
  exact W.dret C.2.1 C.2.2.1 (C.2.2.2.1.trans hr) (fun t ht hw => ⟨⟨_, M, rfl, hP, by rw [ht]; exact hW.moved hw.alike⟩, hS.F ht⟩) hS.2.2 d (hlocks := C.2.2.2.2.2.2.2.1)
/-- what every use of a method needs of the tables -/
def fOK (μ : MD) (n : Nat) : Prop := mH μ = [] ∧ fCode μ ∈ lw_tbl ∧ Cond.initialized (mY μ).cls ∈ lw_tbl ∧ ((mY μ).cls ≠ "java/lang/invoke/MethodHandle" ∧ (mY μ).cls ≠ "java/lang/invoke/VarHandle") ∧ (parseMethodDescriptor (mY μ).desc).map (fun d => d.parameters.length) = some n
def fRoom (μ μ' : MD) (bc bs : Nat) : Prop := (mR μ').frames + 1 ≤ (mR μ).frames ∧ 8 + (mL μ' + 11) + (mR μ').locals ≤ (mR μ).locals ∧ (mR μ').cells ≤ bc ∧ (mR μ').slots ≤ bs
theorem fcallB {n idx : Nat} {s : State} {args : Array Value} (hts : ∀ w ∈ lwG, w.before args s = true) (hok : fOK μ' n) (hlink : Cond.methodLink (mY μ).cls idx (mY μ') ∈ lw_tbl) (hR : fRoom μ μ' bc bs) :
    CallB (mR μ) s args (mY μ).cls idx (mY μ') (mB μ') (mL μ') (mT μ') (fCode μ' :: lwG) (mR μ') (mR μ').cells (mR μ').slots n := by
  obtain ⟨h0, h1, h2, h3, h4⟩ := hok
  have hc : fCode μ' = Cond.code (mY μ') (mB μ') (mL μ') (mT μ') := by unfold fCode; rw [h0]
  rw [hc] at h1 ⊢
  refine callB_of n hts ?_ rfl rfl rfl (hts _ (lwG_of h2 rfl)) (hts _ (lwG_of hlink rfl)) ⟨h3.1, h3.2, h4⟩ ⟨hR.1, hR.2.1⟩
  intro w hw
  rcases List.mem_cons.mp hw with rfl | hw
  · exact ⟨lwG_of h1 rfl, good_of_word rfl⟩
  · exact ⟨hw, good_of_word (List.mem_filter.mp hw).2⟩
/-- behind a call: it returned, or it threw and this method lets it pass -/
theorem fR_run {p : Program} {e : Env} {s : State} {m : MethodId} {args : Array Value} {below : List Frame} {meth : Method} {c : Code} {H : Heap} {locs : List Loc} {cells slots : Nat} {ls : Array Slot} {a : Array Value} {st0 : List Value}
    (C : fC l κ μ p e s m args meth c) (hH : mH μ = []) (hS : va_S (fA (kO κ)) s.heap H locs) (hl : lv_has ls (mL μ) lv) (hc : cells + bc ≤ (mR μ).cells) (hs : slots + bs ≤ (mR μ).slots) (hb : (mR μ').cells ≤ bc ∧ (mR μ').slots ≤ bs)
    (hr : vx_Run p l e (mR μ) s m args below meth c H locs cells slots (mR μ').cells (mR μ').slots (F0 m pc ls st0) rest (fQ κ P' a) (fX κ P') (fA (kO κ)))
    (kr : ∀ v M', P' (.inl v) M' → fR l κ μ (pc + 3) lv (v.toList ++ rest) M' (bc - (mR μ').cells) (bs - (mR μ').slots) P) (kx : ∀ E M', P' (.inr E) M' → P (.inr E) M') :
    W p l e (mR μ) s m args below meth c H locs cells slots (vx_MQ below (fQ κ P) (fX κ P) args s (mR μ).cells (mR μ).slots (fA (kO κ))) (F0 m pc ls st0) := by
  intro T hT X
  have hA : ∀ q, q < H.size → fA (kO κ) q → fA (kO κ) q := fun _ _ h => h
  have hf : ∀ q, fA (kO κ) q → fA (kO κ) q := fun _ h => h
  rcases hr T hT X with ⟨v, st₀, t, T', L, h0, X', hL, e1, e2, ⟨⟨v', M', hv, hp, hw⟩, hF⟩, stp⟩ | ⟨q, st₀, t, T', L, E, ce, h0, X', hL, e1, e2, ⟨⟨M', hp, hw⟩, hF⟩, hce, hcv, hcl, stp⟩
  · cases hv
    obtain ⟨k1, k2, k3⟩ := vx_keep h0 e1 hS hA hf hL hF
    have hal : s.vm.Alike t.vm := by rw [← e2]; exact X'.warmed.alike
    obtain ⟨t2, a1, b1⟩ := kr v M' hp p e s m args below meth c C T'.heap (locs ++ L) (cells + (mR μ').cells) (slots + (mR μ').slots) ls (by rw [e1]; exact hw.moved hal.symm) k3 hl (by omega) (by omega) T' rfl X'
    exact ⟨t2, stp t2 a1, b1⟩
  · obtain ⟨k1, k2, k3⟩ := vx_keep h0 e1 hS hA hf hL hF
    have hal : s.vm.Alike t.vm := by rw [← e2]; exact X'.warmed.alike
    have htab : ∀ x ∈ c.exceptionTable.toList, covers x pc = false := by
      have h9 := C.2.2.2.2.2.2.2.2.2.1
      rw [hH] at h9
      intro x hx
      rw [h9] at hx
      cases hx
    obtain ⟨t2, a1, b1⟩ := (vx_out (p := p) (l := l) (e := e) (R := mR μ) (s := s) (m := m) (args := args) (below := below) (meth := meth) (c := c) (H := T'.heap) (locs := locs ++ L) (cells := cells + (mR μ').cells) (slots := slots + (mR μ').slots) (ls := ls) (rest := rest) (Qc := fQ κ P) (XC := fX κ P) (pc := pc) (free := fA (kO κ)) htab C.2.2.2.2.2.2.2.1 (by rw [e1]; exact hce) hcv hcl
      (fun t9 h9 hal9 => ⟨⟨M', kx E M' hp, by rw [h9, e1]; exact (hw.moved hal.symm).moved hal9⟩, ⟨by rw [h9]; exact k3.1, fun q h1 h2 => by rw [h9]; exact k3.2.1 q h1 h2⟩⟩) k3.2.2 (show cells + (mR μ').cells ≤ (mR μ).cells by omega) (show slots + (mR μ').slots ≤ (mR μ).slots by omega)) T' rfl X'
    exact ⟨t2, stp.trans a1, b1⟩
/-- a virtual call of a method of the receiver's own class -/
theorem fR_callV {idx n b ci : Nat} {fs As : List Value} {q : vw_C} (d : decode (mB μ) pc = .ok (.invokevirtual idx, 3)) (hM : fM l κ μ' (.ref b :: As) M P') (hst : st = As.reverse ++ .ref b :: rest)
    (hb : M b = some (.inl (ci, fs))) (hcl : vwCl[ci]? = some q) (hq : q.1 = (mY μ').cls) (hok : fOK μ' n) (hn : As.length = n) (hlink : Cond.methodLink (mY μ).cls idx (mY μ') ∈ lw_tbl) (hin : Cond.instanceMethod (mY μ') ∈ lw_tbl) (hse : Cond.selects (mY μ').cls (mY μ') (mY μ') ∈ lw_tbl)
    (hR : fRoom μ μ' bc bs) (hcat : (rest.map fun v => v.category).sum ≤ 8) (hH : mH μ = [])
    (kr : ∀ v M', P' (.inl v) M' → fR l κ μ (pc + 3) lv (v.toList ++ rest) M' (bc - (mR μ').cells) (bs - (mR μ').slots) P) (kx : ∀ E M', P' (.inr E) M' → P (.inr E) M') : fR l κ μ pc lv st M bc bs P := by
  subst hst
  intro p e s m args below meth c C H locs cells slots ls hW hS hl hc hs
  have hts := C.2.2.2.2.2.2.1
  obtain ⟨dC, dI, tys, ws, hK, hP, hD, hM9⟩ := id hW
  obtain ⟨k0, hk0⟩ := hM9 b _ hb
  refine fR_run C hH hS hl hc hs hR.2.2 (vx_runV (As := As) (rest := rest) (n := n) (C := (mY μ').cls) (own := (mY μ).cls) (index := idx) ⟨C.2.1, C.2.2.1, C.2.2.2.2.1, C.2.2.2.2.2.1, hts⟩ (hM C.1) ⟨fcallB hts hok hlink hR, hts _ (lwG_of hin rfl), hts _ (lwG_of hse rfl)⟩ ⟨fP_blind, ?_, ?_⟩ rfl hn hl.1 rfl (lv_room hcat) d ⟨?_, ?_⟩) kr kx
  · obtain ⟨cell, g1, g2, g3⟩ := va_recv hK hP hcl hk0
    exact ⟨cell, g1, g2, by rw [← hq]; exact g3⟩
  · intro U hU hw
    exact ⟨rfl, by rw [hU]; exact hW.moved hw.alike, by rw [hU]; exact (C.2.2.2.2.2.2.2.2.2.2.1.at hS).moved hw.alike, fN.warm hw C.2.2.2.2.2.2.2.2.2.2.2.1, by rw [hU]; exact Nat.le_trans C.2.2.2.2.2.2.2.2.2.2.2.2 hS.1⟩
  · have := hR.2.2.1; omega
  · have := hR.2.2.2; omega
/-- a static call -/
theorem fR_callS {idx n : Nat} {As : List Value} (d : decode (mB μ) pc = .ok (.invokestatic idx, 3)) (hM : fM l κ μ' As M P') (hst : st = As.reverse ++ rest)
    (hok : fOK μ' n) (hn : As.length = n) (hlink : Cond.methodLink (mY μ).cls idx (mY μ') ∈ lw_tbl) (hin : Cond.static (mY μ') ∈ lw_tbl)
    (hR : fRoom μ μ' bc bs) (hcat : (rest.map fun v => v.category).sum ≤ 8) (hH : mH μ = [])
    (kr : ∀ v M', P' (.inl v) M' → fR l κ μ (pc + 3) lv (v.toList ++ rest) M' (bc - (mR μ').cells) (bs - (mR μ').slots) P) (kx : ∀ E M', P' (.inr E) M' → P (.inr E) M') : fR l κ μ pc lv st M bc bs P := by
  subst hst
  intro p e s m args below meth c C H locs cells slots ls hW hS hl hc hs
  have hts := C.2.2.2.2.2.2.1
  refine fR_run C hH hS hl hc hs hR.2.2 (vx_runS (As := As) (rest := rest) (n := n) (own := (mY μ).cls) (index := idx) ⟨C.2.1, C.2.2.1, C.2.2.2.2.1, C.2.2.2.2.2.1, hts⟩ (hM C.1) ⟨fcallB hts hok hlink hR, hts _ (lwG_of hin rfl)⟩ ⟨fP_blind, ?_⟩ rfl hn hl.1 rfl (lv_room hcat) d ⟨?_, ?_⟩) kr kx
  · intro U hU hw
    exact ⟨rfl, by rw [hU]; exact hW.moved hw.alike, by rw [hU]; exact (C.2.2.2.2.2.2.2.2.2.2.1.at hS).moved hw.alike, fN.warm hw C.2.2.2.2.2.2.2.2.2.2.2.1, by rw [hU]; exact Nat.le_trans C.2.2.2.2.2.2.2.2.2.2.2.2 hS.1⟩
  · have := hR.2.2.1; omega
  · have := hR.2.2.2; omega
end FR
