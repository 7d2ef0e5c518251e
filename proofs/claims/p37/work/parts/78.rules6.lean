/-! RULES OF CONSTRUCTORS: static arrays of the class copied -/
def fFirst (j i : Nat) : Int32 := if j = 0 then [150, 250, 350].getD i 0 else [5, 12, 8].getD i 0
theorem fZ_arr {κ : KP} {U : State} {H : Heap} (h : fZ κ U H) : ∀ j, j < 2 → va_T .int (kT κ j) 3 (fun i => .int (fFirst j i)) (fA (kO κ)) U H ∧ fEx (kT κ j) U H
  | 0, _ => h.2.1.2
  | 1, _ => h.2.2.1.2
  | j + 2, q => by omega
theorem cell_int {cell : Cell} {F : Nat → Int32} (hn : cell.slots.size = 3) (hF : ∀ j : Nat, j < 3 → cell.slots[j]? = some (.int (F j))) : ({ cls := cell.cls, slots := cell.slots } : Cell) = vp_cell cell.cls (3, .inl F) := by
  rw [vp_cell_i]
  have hs : cell.slots = (arrV cell.cls 3 (fun j => .int (F j))).slots := by
    apply Array.ext_getElem?
    intro i
    by_cases hi : i < 3
    · rw [hF i hi, arrV_read _ _ hi]
    · rw [Array.getElem?_eq_none (by omega), Array.getElem?_eq_none (by rw [arrV_size]; omega)]
  rw [hs]
  rfl
section R78
variable {l : Launch} {κ : KP} {μ μ' : MD} {pc : Nat} {lv : List (Nat × Value)} {st rest : List Value} {M M1 : Mem} {bc bs : Nat} {P P' : FPost}
theorem r_gets0 {idx : Nat} {host : String} (d : decode (mB μ) pc = .ok (.getstatic idx, 3)) (hlink : Cond.fieldLinkNest (mY μ).cls idx "BitumenNeedle" "FIRST_DEGREES" "[I" host ∈ lw_tbl) (kk : fR l κ μ (pc + 3) lv (.ref (kT κ 0) :: st) M bc bs P) : fR l κ μ pc lv st M bc bs P := by
  intro p e s m args below meth c C H locs cells slots ls hW hS hl hc hs
  have hN := C.2.2.2.2.2.2.2.2.2.2.2.1
  exact va_getsN C.2.1 C.2.2.1 C.2.2.2.2.2.2.2.2.2.2.1.2.1.1 hS C.2.2.2.2.2.1 (va_Nw.use (A := args) rfl (hN.1 _ hlink rfl)) (fun x h => h) d (kk p e s m args below meth c C H locs cells slots ls hW hS hl hc hs)
theorem r_gets1 {idx : Nat} {host : String} (d : decode (mB μ) pc = .ok (.getstatic idx, 3)) (hlink : Cond.fieldLinkNest (mY μ).cls idx "BitumenNeedle" "FIRST_SETTINGS" "[I" host ∈ lw_tbl) (kk : fR l κ μ (pc + 3) lv (.ref (kT κ 1) :: st) M bc bs P) : fR l κ μ pc lv st M bc bs P := by
  intro p e s m args below meth c C H locs cells slots ls hW hS hl hc hs
  have hN := C.2.2.2.2.2.2.2.2.2.2.2.1
  exact va_getsN C.2.1 C.2.2.1 C.2.2.2.2.2.2.2.2.2.2.1.2.2.1.1 hS C.2.2.2.2.2.1 (va_Nw.use (A := args) rfl (hN.1 _ hlink rfl)) (fun x h => h) d (kk p e s m args below meth c C H locs cells slots ls hW hS hl hc hs)
theorem r_clone {idx j bc' bs' : Nat} (hj : j < 2) (d : decode (mB μ) pc = .ok (.invokevirtual idx, 3)) (hlink : Cond.methodLink (mY μ).cls idx ⟨"[I", "clone", "()Ljava/lang/Object;"⟩ ∈ lw_tbl) (hfr : 1 ≤ (mR μ).frames) (hlo : (st.map fun v => v.category).sum + 14 ≤ (mR μ).locals) (hbc : bc = bc' + 1) (hbs : bs = bs' + 3)
    (kk : ∀ q : Nat, M q = none → fR l κ μ (pc + 3) lv (.ref q :: st) (fup M q (.inr (0, 3, .inl (fFirst j)))) bc' bs' P) : fR l κ μ pc lv (.ref (kT κ j) :: st) M bc bs P := by
  intro p e s m args below meth c C H locs cells slots ls hW hS hl hc hs
  have hts := C.2.2.2.2.2.2.1
  have hN := C.2.2.2.2.2.2.2.2.2.2.2.1
  have hO := C.2.2.2.2.2.2.2.2.2.2.2.2
  obtain ⟨hTT, hE⟩ := fZ_arr C.2.2.2.2.2.2.2.2.2.2.1 j hj
  obtain ⟨dC, dI, tys, ws, hK, hP, hD, hM9⟩ := id hW
  obtain ⟨cell, h1, h2, h3, h4, h5, h6, h7⟩ := hTT
  obtain ⟨hsz, hnm⟩ := hE cell h1
  have hH : H[kT κ j]? = some cell := by rw [hS.2.1 _ (Array.getElem?_eq_some_iff.mp h1).1 h7]; exact h1
  have hce := cell_int (F := fFirst j) hsz h6
  intro T hT X
  have hcT : T.heap[kT κ j]? = some cell := by rw [hT]; exact hH
  obtain ⟨c0, t0, f1, f2, f3⟩ := Cond.castable_spec (va_Nw.use (A := args) rfl (hN.1 _ (lw_of (i := 46) (by decide +kernel) : Cond.castable "[I" "java/lang/Cloneable" ∈ lw_tbl) rfl))
  cases hnm.symm.trans f1
  obtain ⟨-, kA, hkA, comp, hkind⟩ := State.isArrayOf_alike X.warmed.alike h2
  obtain ⟨hns, kS, hkS, compS, hkindS⟩ := id h2
  obtain ⟨vm', X', go⟩ := X.cloneArray C.2.1 C.2.2.2.2.2.1 (hts _ (lwG_of hlink rfl)) (hts _ (lwG_of (lw_of (i := 42) (by decide +kernel) : Cond.sameMethod "[I" "java/lang/Object" "clone" "()Ljava/lang/Object;" ∈ lw_tbl) rfl))
    (hts _ (lwG_of (lw_of (i := 43) (by decide +kernel) : Cond.native ⟨"java/lang/Object", "clone", "()Ljava/lang/Object;"⟩ ∈ lw_tbl) rfl)) (hts _ (lwG_of (lw_of (i := 44) (by decide +kernel) : Cond.instanceMethod ⟨"java/lang/Object", "clone", "()Ljava/lang/Object;"⟩ ∈ lw_tbl) rfl))
    (hts _ (lwG_of (lw_of (i := 45) (by decide +kernel) : Cond.selects "[I" ⟨"[I", "clone", "()Ljava/lang/Object;"⟩ ⟨"java/lang/Object", "clone", "()Ljava/lang/Object;"⟩ ∈ lw_tbl) rfl)) hcT hns h3 hnm f2 f3
    (fun i v hv => by
      have hi : i < 3 := by
        have := (Array.getElem?_eq_some_iff.mp hv).1
        omega
      rw [h6 i hi] at hv
      cases hv
      have hk' : T.vm.classes[cell.cls]? = some kA := hkA
      simp [State.fitsSlot, State.slotType?, hk', hkind, fits])
    (g := F0 m pc ls (.ref (kT κ j) :: st)) rfl (by rw [C.2.2.2.2.1]; exact hl.1) rfl (by rw [C.2.2.1]; exact d) hfr (by show 2 * 0 + _ + 14 ≤ _; omega) (show cells + 1 ≤ _ by omega) (by rw [hsz]; show slots + 3 ≤ _; omega) (hloader := Vm.clonesLoader_of_array hkS hkindS)
  rw [hce, hsz] at X'
  generalize hH1 : H.push (vp_cell cell.cls (3, .inl (fFirst j))) = H1
  have z1 : H1.size = H.size + 1 := by rw [← hH1, Array.size_push]
  have e1 : H1[H.size]? = some (vp_cell cell.cls (3, .inl (fFirst j))) := by rw [← hH1, Array.getElem?_push_size]
  have o1 : ∀ q : Nat, q < H.size → H1[q]? = H[q]? := fun q hq => by rw [← hH1, Array.getElem?_push, if_neg (Nat.ne_of_lt hq)]
  have hk : ∀ (k : Nat) (y : Nat × va_E), ws[k]? = some y → H1[y.1]? = H[y.1]? := fun k y hy => o1 y.1 ((hP k y hy).lt)
  have hA : fA (kO κ) H.size := Nat.le_trans hO hS.1
  have hP1 : va_P (dC, dI) vwCl (ws ++ [(H.size, .inl (cell.cls, (3, .inl (fFirst j))))]) H1 := (hP.kept hk).app (fun k y hy => by
    have hz : k < 1 := (List.getElem?_eq_some_iff.mp hy).1
    rw [show k = 0 by omega] at hy
    cases hy
    exact e1)
  have hD1 := hD.push (e := (.inl (cell.cls, (3, .inl (fFirst j))) : va_E)) hP rfl hA
  have hK1 : va_K (dC, dI) vwCl (tys ++ [(cell.cls, .int)]) s := ⟨hK.1, fun k y hy => by
    by_cases hl9 : k < tys.length
    · rw [List.getElem?_append_left hl9] at hy
      exact hK.2 k y hy
    · rw [List.getElem?_append_right (by omega)] at hy
      have hz : k - tys.length < 1 := (List.getElem?_eq_some_iff.mp hy).1
      rw [show k - tys.length = 0 by omega] at hy
      cases hy
      refine ⟨fun n F => ⟨fun z hz => (by cases hz), kS, hkS, compS, hkindS⟩, ?_⟩
      have e9 : "[" ++ FieldType.int.toString = "[I" := by decide +kernel
      show s.vm.findClass ("[" ++ FieldType.int.toString) = some cell.cls
      rw [e9]; exact hnm⟩
  have hS1 : va_S (fA (kO κ)) s.heap H1 locs := ⟨Nat.le_trans hS.1 (by omega), fun y q1 q2 => (o1 y (Nat.lt_of_lt_of_le q1 hS.1)).trans (hS.2.1 y q1 q2), hS.2.2⟩
  obtain ⟨t, b1, b2⟩ := kk H.size (fIn_fresh hD1 hM9) p e s m args below meth c C H1 locs (cells + 1) (slots + 3) ls
    ⟨dC, dI, _, _, hK1, hP1, hD1, fIn_push hM9 ⟨ws.length, tys.length, cell.cls, by simp, by simp [fTy]⟩⟩ hS1 hl (by omega) (by omega) ((T.setVm vm').pushCell (vp_cell cell.cls (3, .inl (fFirst j)))) (by rw [← hH1, ← hT]; rfl) X'
  refine ⟨t, go t ?_, b2⟩
  rw [hce, hT]
  exact b1
theorem r_ccast {idx q n : Nat} {f : Nat → Int32} (d : decode (mB μ) pc = .ok (.checkcast idx, 3)) (hlink : Cond.classLink (mY μ).cls idx "[I" ∈ lw_tbl) (hm : M q = some (.inr (0, n, .inl f))) (kk : fR l κ μ (pc + 3) lv (.ref q :: st) M bc bs P) : fR l κ μ pc lv (.ref q :: st) M bc bs P := by
  intro p e s m args below meth c C H locs cells slots ls hW hS hl hc hs
  obtain ⟨dC, dI, tys, ws, hK, hP, hD, hM9⟩ := id hW
  obtain ⟨q0, t0, c0, hk0, ht0⟩ := hM9 q _ hm
  exact va_castA C.2.1 C.2.2.1 C.2.2.2.2.2.1 (C.2.2.2.2.2.2.1 _ (lwG_of hlink rfl)) hP q0 hk0 (va_nm_int (hK.2 t0 _ ht0).2) d (kk p e s m args below meth c C H locs cells slots ls hW hS hl hc hs)
theorem r_callIP {idx n b : Nat} {As : List Value} (d : decode (mB μ) pc = .ok (.invokespecial idx, 3)) (hM : fM l κ μ' (.ref b :: As) M P') (hst : st = As.reverse ++ .ref b :: rest)
    (hok : fOK μ' n) (hn : As.length = n) (hret : mT μ' = none) (hnm : (mY μ').name = "<init>") (hlink : Cond.methodLink (mY μ).cls idx (mY μ') ∈ lw_tbl) (hin : Cond.instanceMethod (mY μ') ∈ lw_tbl)
    (hR : fRoom μ μ' bc bs) (hcat : (rest.map fun v => v.category).sum ≤ 8) {bc' bs' : Nat} (hbc : bc' + (mR μ').cells = bc) (hbs : bs' + (mR μ').slots = bs) (hno : ∀ E M', ¬ P' (.inr E) M')
    (kk : ∀ v M', P' (.inl v) M' → fR l κ μ (pc + 3) lv (v.toList ++ rest) M' bc' bs' P) : fR l κ μ pc lv st M bc bs P :=
  fR_callI d hM hst hok hn hret hnm hlink hin hR hcat hno (fun v M' h => by
    rw [show bc - (mR μ').cells = bc' by omega, show bs - (mR μ').slots = bs' by omega]; exact kk v M' h)
theorem r_callINP {idx n b : Nat} {host : String} {As : List Value} (d : decode (mB μ) pc = .ok (.invokespecial idx, 3)) (hM : fM l κ μ' (.ref b :: As) M P') (hst : st = As.reverse ++ .ref b :: rest)
    (hok : fOK μ' n) (hn : As.length = n) (hret : mT μ' = none) (hnm : (mY μ').name = "<init>") (hlink : Cond.methodLinkNest (mY μ).cls idx (mY μ') host ∈ lw_tbl) (hin : Cond.instanceMethod (mY μ') ∈ lw_tbl)
    (hR : fRoom μ μ' bc bs) (hcat : (rest.map fun v => v.category).sum ≤ 8) {bc' bs' : Nat} (hbc : bc' + (mR μ').cells = bc) (hbs : bs' + (mR μ').slots = bs) (hno : ∀ E M', ¬ P' (.inr E) M')
    (kk : ∀ v M', P' (.inl v) M' → fR l κ μ (pc + 3) lv (v.toList ++ rest) M' bc' bs' P) : fR l κ μ pc lv st M bc bs P :=
  fR_callIN d hM hst hok hn hret hnm hlink hin hR hcat hno (fun v M' h => by
    rw [show bc - (mR μ').cells = bc' by omega, show bs - (mR μ').slots = bs' by omega]; exact kk v M' h)
end R78
