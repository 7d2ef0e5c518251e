/-! METHODS WITH HANDLERS -/
section FH
variable {l : Launch} {κ : KP} {μ μ' : MD} {pc : Nat} {lv : List (Nat × Value)} {st rest : List Value} {M M1 : Mem} {bc bs : Nat} {P P' : FPost}
theorem fM_ofH {av : List Value} {h0 : Nat × Nat × Nat × Nat} {ht : List (Nat × Nat × Nat × Nat)} (hH : mH μ = h0 :: ht) (hy : plainName (mY μ).cls = true) (hn : (lg_sl av).length ≤ mL μ) (k : fR l κ μ 0 (lv_args 0 av) [] M (mR μ).cells (mR μ).slots P) : fM l κ μ av M P := by
  intro hl
  have hcode : fCode μ = Cond.codeWith (mY μ) (mB μ) (mL μ) (mT μ) (mH μ) := by unfold fCode; rw [hH]
  rw [hcode]
  refine vx_ofWH (cc := mB μ) (maxL := mL μ) (ret := mT μ) (hh := mH μ) hy rfl ?_
  intro p e s m args below meth c s₁ B hml hv
  obtain ⟨rfl, hW, hZ, hN, hO⟩ := hv
  have hts := atoms_spec (ws := Cond.codeWith (mY μ) (mB μ) (mL μ) (mT μ) (mH μ) :: lwG) B.pre
  have htl : c.exceptionTable.toList = tableOf (mH μ) := vx_table (x := mY μ) B (hts _ List.mem_cons_self)
  rw [lg_entry_eq]
  exact k p e s m av.toArray below meth c ⟨hl, B.exec, B.bytes, B.returns, hml, findClass_of_methodNamed B.named, fun w hw => hts w (List.mem_cons_of_mem _ hw), B.notSynchronized, (name_of_methodNamed B.named B.method).1, htl, hZ, hN, hO⟩ s.heap [] 0 0 _ hW va_S.rf (lv_entry av hn) (Nat.le_of_eq (Nat.zero_add _)) (Nat.le_of_eq (Nat.zero_add _))
/-- where a thrown E goes on: the table's row x -/
def fCat (μ : MD) (pc : Nat) (E : String) (hp : Nat) : Prop := ∃ (pre suf : List ExceptionTableEntry) (x : ExceptionTableEntry) (nm : String), tableOf (mH μ) = pre ++ x :: suf ∧ (∀ z ∈ pre, z.catchType ≠ 0 ∧ ∃ n2, Cond.classLink (mY μ).cls z.catchType n2 ∈ lw_tbl ∧ (E, n2) ∈ fNcs) ∧ covers x pc = true ∧ x.catchType ≠ 0 ∧ Cond.classLink (mY μ).cls x.catchType nm ∈ lw_tbl ∧ Cond.castable E nm ∈ lw_tbl ∧ x.handlerPc = hp
theorem fR_runC {p : Program} {e : Env} {s : State} {m : MethodId} {args : Array Value} {below : List Frame} {meth : Method} {c : Code} {H : Heap} {locs : List Loc} {cells slots : Nat} {ls : Array Slot} {a : Array Value} {st0 : List Value}
    (C : fC l κ μ p e s m args meth c) (hS : va_S (fA (kO κ)) s.heap H locs) (hl : lv_has ls (mL μ) lv) (hc : cells + bc ≤ (mR μ).cells) (hs : slots + bs ≤ (mR μ).slots) (hb : (mR μ').cells ≤ bc ∧ (mR μ').slots ≤ bs)
    (hr : vx_Run p l e (mR μ) s m args below meth c H locs cells slots (mR μ').cells (mR μ').slots (F0 m pc ls st0) rest (fQ κ P' a) (fX κ P') (fA (kO κ)))
    (kr : ∀ v M', P' (.inl v) M' → fR l κ μ (pc + 3) lv (v.toList ++ rest) M' (bc - (mR μ').cells) (bs - (mR μ').slots) P) (kx : ∀ E M', P' (.inr E) M' → ∃ hp, fCat μ pc E hp ∧ ∀ q, fR l κ μ hp lv [.ref q] M' (bc - (mR μ').cells) (bs - (mR μ').slots) P) :
    W p l e (mR μ) s m args below meth c H locs cells slots (vx_MQ below (fQ κ P) (fX κ P) args s (mR μ).cells (mR μ).slots (fA (kO κ))) (F0 m pc ls st0) := by
  intro T hT X
  have hA : ∀ q, q < H.size → fA (kO κ) q → fA (kO κ) q := fun _ _ h => h
  have hf : ∀ q, fA (kO κ) q → fA (kO κ) q := fun _ h => h
  rcases hr T hT X with ⟨v, st₀, t, T', L, h0, X', hL, e1, e2, ⟨⟨v', M', hv, hp, hw⟩, hF⟩, stp⟩ | ⟨q, st₀, t, T', L, E, ce, h0, X', hL, e1, e2, ⟨⟨M', hp, hw⟩, hF⟩, hce, hcv, hcl, stp⟩
  · cases hv
    obtain ⟨k1, k2, k3⟩ := vx_keep h0 e1 hS hA hf hL hF
    have hal : s.vm.Alike t.vm := by rw [← e2]; exact X'.warmed.alike
    obtain ⟨t2, a1, b1⟩ := kr v M' hp p e s m args below meth c C T'.heap (locs ++ L) (cells + (mR μ').cells) (slots + (mR μ').slots) ls (by rw [e1]; exact hw.moved hal.symm) k3 hl (by omega) (by omega) T' rfl X'
    exact ⟨t2, stp t2 a1, b1⟩
  · obtain ⟨k1, k2, k3⟩ := vx_keep h0 e1 hS hA hf hL hF
    have hal : s.vm.Alike t.vm := by rw [← e2]; exact X'.warmed.alike
    have hts := C.2.2.2.2.2.2.1
    have hN := C.2.2.2.2.2.2.2.2.2.2.2.1
    obtain ⟨hp9, ⟨pre, suf, x, nm, t1, t2, t3, t4, t5, t6, t7⟩, kk⟩ := kx E M' hp
    obtain ⟨t9, a1, b1⟩ := (vx_catch (p := p) (l := l) (e := e) (R := mR μ) (s := s) (m := m) (args := args) (below := below) (meth := meth) (c := c) (H := T'.heap) (locs := locs ++ L) (cells := cells + (mR μ').cells) (slots := slots + (mR μ').slots) (ls := ls) (rest := rest) (pc := pc) (q := q) C.2.2.2.2.2.1 pre x suf (C.2.2.2.2.2.2.2.2.2.1.trans t1)
      (fun z hz => Or.inr ⟨(t2 z hz).1, by obtain ⟨n2, g1, g2⟩ := (t2 z hz).2; exact ⟨n2, hts _ (lwG_of g1 rfl), hN.2.2.2 _ g2⟩⟩) t3 t4 (hts _ (lwG_of t5 rfl)) (va_Nw.use (A := args) rfl (hN.1 _ t6 rfl)) (by rw [e1]; exact hce) hcv hcl
      (by rw [t7]; exact kk q p e s m args below meth c C T'.heap (locs ++ L) (cells + (mR μ').cells) (slots + (mR μ').slots) ls (by rw [e1]; exact hw.moved hal.symm) k3 hl (by omega) (by omega))) T' rfl X'
    exact ⟨t9, stp.trans a1, b1⟩
theorem fR_catchV {idx n b ci : Nat} {fs As : List Value} {q : vw_C} (d : decode (mB μ) pc = .ok (.invokevirtual idx, 3)) (hM : fM l κ μ' (.ref b :: As) M P') (hst : st = As.reverse ++ .ref b :: rest)
    (hb : M b = some (.inl (ci, fs))) (hcl : vwCl[ci]? = some q) (hq : q.1 = (mY μ').cls) (hok : fOK μ' n) (hn : As.length = n) (hlink : Cond.methodLink (mY μ).cls idx (mY μ') ∈ lw_tbl) (hin : Cond.instanceMethod (mY μ') ∈ lw_tbl) (hse : Cond.selects (mY μ').cls (mY μ') (mY μ') ∈ lw_tbl)
    (hR : fRoom μ μ' bc bs) (hcat : (rest.map fun v => v.category).sum ≤ 8)
    (kr : ∀ v M', P' (.inl v) M' → fR l κ μ (pc + 3) lv (v.toList ++ rest) M' (bc - (mR μ').cells) (bs - (mR μ').slots) P) (kx : ∀ E M', P' (.inr E) M' → ∃ hp, fCat μ pc E hp ∧ ∀ q, fR l κ μ hp lv [.ref q] M' (bc - (mR μ').cells) (bs - (mR μ').slots) P) : fR l κ μ pc lv st M bc bs P := by
  subst hst
  intro p e s m args below meth c C H locs cells slots ls hW hS hl hc hs
  have hts := C.2.2.2.2.2.2.1
  obtain ⟨dC, dI, tys, ws, hK, hP, hD, hM9⟩ := id hW
  obtain ⟨k0, hk0⟩ := hM9 b _ hb
  refine fR_runC C hS hl hc hs hR.2.2 (vx_runV (As := As) (rest := rest) (n := n) (C := (mY μ').cls) (own := (mY μ).cls) (index := idx) ⟨C.2.1, C.2.2.1, C.2.2.2.2.1, C.2.2.2.2.2.1, hts⟩ (hM C.1) ⟨fcallB hts hok hlink hR, hts _ (lwG_of hin rfl), hts _ (lwG_of hse rfl)⟩ ⟨fP_blind, ?_, ?_⟩ rfl hn hl.1 rfl (lv_room hcat) d ⟨?_, ?_⟩) kr kx
  · obtain ⟨cell, g1, g2, g3⟩ := va_recv hK hP hcl hk0
    exact ⟨cell, g1, g2, by rw [← hq]; exact g3⟩
  · intro U hU hw
    exact ⟨rfl, by rw [hU]; exact hW.moved hw.alike, by rw [hU]; exact (C.2.2.2.2.2.2.2.2.2.2.1.at hS).moved hw.alike, fN.warm hw C.2.2.2.2.2.2.2.2.2.2.2.1, by rw [hU]; exact Nat.le_trans C.2.2.2.2.2.2.2.2.2.2.2.2 hS.1⟩
  · have := hR.2.2.1; omega
  · have := hR.2.2.2; omega
/-- a call of a static method that catches all that it meets -/
def fOKH (μ : MD) (n : Nat) : Prop := mH μ ≠ [] ∧ fCode μ ∈ lw_tbl ∧ Cond.initialized (mY μ).cls ∈ lw_tbl ∧ ((mY μ).cls ≠ "java/lang/invoke/MethodHandle" ∧ (mY μ).cls ≠ "java/lang/invoke/VarHandle") ∧ (parseMethodDescriptor (mY μ).desc).map (fun d => d.parameters.length) = some n
theorem fR_callSH {idx n : Nat} {As : List Value} (d : decode (mB μ) pc = .ok (.invokestatic idx, 3)) (hM : fM l κ μ' As M P') (hst : st = As.reverse ++ rest)
    (hok : fOKH μ' n) (hn : As.length = n) (hlink : Cond.methodLink (mY μ).cls idx (mY μ') ∈ lw_tbl) (hin : Cond.static (mY μ') ∈ lw_tbl)
    (hR : fRoom μ μ' bc bs) (hcat : (rest.map fun v => v.category).sum ≤ 8) (hno : ∀ E M', ¬ P' (.inr E) M') {bc' bs' : Nat} (hbc : bc' + (mR μ').cells = bc) (hbs : bs' + (mR μ').slots = bs)
    (kr : ∀ v M', P' (.inl v) M' → fR l κ μ (pc + 3) lv (v.toList ++ rest) M' bc' bs' P) : fR l κ μ pc lv st M bc bs P := by
  subst hst
  intro p e s m args below meth c C H locs cells slots ls hW hS hl hc hs
  have hts := C.2.2.2.2.2.2.1
  obtain ⟨h0, h1, h2, h3, h4⟩ := hok
  have hcode : fCode μ' = Cond.codeWith (mY μ') (mB μ') (mL μ') (mT μ') (mH μ') := by
    unfold fCode
    cases hm : mH μ' with
    | nil => exact absurd hm h0
    | cons a t => rfl
  have hmet := fM_met hM C.1 hno
  rw [hcode] at h1 hmet
  refine fR_run0 C hS hl hc hs hR.2.2 (vx_runSW (As := As) (rest := rest) (n := n) (own := (mY μ).cls) (index := idx) (hh := mH μ') (bytes := mB μ') (maxL := mL μ') (ret := mT μ') ⟨C.2.1, C.2.2.1, C.2.2.2.2.1, C.2.2.2.2.2.1, hts⟩ hmet (vx_cwSW n hts ?_ rfl rfl rfl ⟨h3.1, h3.2, h4⟩ ⟨hR.1, hR.2.1⟩) ⟨fP_blind, ?_⟩ rfl hn hl.1 rfl (lv_room hcat) d ⟨?_, ?_⟩) (fun v M' h => by
    rw [show bc - (mR μ').cells = bc' by omega, show bs - (mR μ').slots = bs' by omega]; exact kr v M' h)
  · intro w hw
    unfold va_wsS at hw
    rcases List.mem_append.mp hw with hw | hw
    · simp only [List.mem_cons, List.mem_nil_iff, or_false] at hw
      rcases hw with rfl | rfl | rfl
      · exact ⟨lwG_of hlink rfl, good_of_word rfl⟩
      · exact ⟨lwG_of hin rfl, good_of_word rfl⟩
      · exact ⟨lwG_of h2 rfl, good_of_word rfl⟩
    · rcases List.mem_cons.mp hw with rfl | hw
      · exact ⟨lwG_of h1 rfl, good_of_word rfl⟩
      · exact ⟨hw, good_of_word (List.mem_filter.mp hw).2⟩
  · intro U hU hw
    exact ⟨rfl, by rw [hU]; exact hW.moved hw.alike, by rw [hU]; exact (C.2.2.2.2.2.2.2.2.2.2.1.at hS).moved hw.alike, fN.warm hw C.2.2.2.2.2.2.2.2.2.2.2.1, by rw [hU]; exact Nat.le_trans C.2.2.2.2.2.2.2.2.2.2.2.2 hS.1⟩
  · have := hR.2.2.1; omega
  · have := hR.2.2.2; omega
end FH
