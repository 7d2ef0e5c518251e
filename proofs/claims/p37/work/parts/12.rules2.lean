section FR2
variable {l : Launch} {κ : KP} {μ μ' : MD} {pc : Nat} {lv lv' : List (Nat × Value)} {st rest : List Value} {M : Mem} {bc bs : Nat} {P P' : FPost}
/-- behind a call of a method that doesn't throw -/
theorem fR_run0 {p : Program} {e : Env} {s : State} {m : MethodId} {args : Array Value} {below : List Frame} {meth : Method} {c : Code} {H : Heap} {locs : List Loc} {cells slots : Nat} {ls : Array Slot} {a : Array Value} {st0 : List Value}
    (C : fC l κ μ p e s m args meth c) (hS : va_S (fA (kO κ)) s.heap H locs) (hl : lv_has ls (mL μ) lv) (hc : cells + bc ≤ (mR μ).cells) (hs : slots + bs ≤ (mR μ).slots) (hb : (mR μ').cells ≤ bc ∧ (mR μ').slots ≤ bs)
    (hr : va_Run p l e (mR μ) s m args below meth c H locs cells slots (mR μ').cells (mR μ').slots (F0 m pc ls st0) rest (fQ κ P' a) (fA (kO κ)))
    (kr : ∀ v M', P' (.inl v) M' → fR l κ μ (pc + 3) lv (v.toList ++ rest) M' (bc - (mR μ').cells) (bs - (mR μ').slots) P) :
    W p l e (mR μ) s m args below meth c H locs cells slots (vx_MQ below (fQ κ P) (fX κ P) args s (mR μ).cells (mR μ).slots (fA (kO κ))) (F0 m pc ls st0) := by
  intro T hT X
  have hA : ∀ q, q < H.size → fA (kO κ) q → fA (kO κ) q := fun _ _ h => h
  have hf : ∀ q, fA (kO κ) q → fA (kO κ) q := fun _ h => h
  obtain ⟨v, st₀, t, T', L, h0, X', hL, e1, e2, ⟨⟨v', M', hv, hp, hw⟩, hF⟩, stp⟩ := hr T hT X
  cases hv
  obtain ⟨k1, k2, k3⟩ := vx_keep h0 e1 hS hA hf hL hF
  have hal : s.vm.Alike t.vm := by rw [← e2]; exact X'.warmed.alike
  obtain ⟨t2, a1, b1⟩ := kr v M' hp p e s m args below meth c C T'.heap (locs ++ L) (cells + (mR μ').cells) (slots + (mR μ').slots) ls (by rw [e1]; exact hw.moved hal.symm) k3 hl (by omega) (by omega) T' rfl X'
  exact ⟨t2, stp t2 a1, b1⟩
theorem fPre {s : State} {p : Program} {e : Env} {m : MethodId} {args : Array Value} {meth : Method} {c : Code} {H : Heap} {locs : List Loc} (C : fC l κ μ p e s m args meth c) (hW : fW (kO κ) s M H) (hS : va_S (fA (kO κ)) s.heap H locs) (av : List Value) : PreS s H (fP κ av M) av :=
  ⟨fP_blind, fun U hU hw => ⟨rfl, by rw [hU]; exact hW.moved hw.alike, by rw [hU]; exact (C.2.2.2.2.2.2.2.2.2.2.1.at hS).moved hw.alike, fN.warm hw C.2.2.2.2.2.2.2.2.2.2.2.1, by rw [hU]; exact Nat.le_trans C.2.2.2.2.2.2.2.2.2.2.2.2 hS.1⟩⟩
theorem fcallN {n idx : Nat} {host : String} {s : State} {args : Array Value} (hts : ∀ w ∈ lwG, w.before args s = true) (hN : fN κ s) (hok : fOK μ' n) (hlink : Cond.methodLinkNest (mY μ).cls idx (mY μ') host ∈ lw_tbl) (hR : fRoom μ μ' bc bs) :
    va_CN (mR μ) s args (mY μ).cls idx (mY μ') host (mB μ') (mL μ') (mT μ') (fCode μ' :: lwG) (mR μ') (mR μ').cells (mR μ').slots n := by
  obtain ⟨h0, h1, h2, h3, h4⟩ := hok
  have hc : fCode μ' = Cond.code (mY μ') (mB μ') (mL μ') (mT μ') := by unfold fCode; rw [h0]
  rw [hc] at h1 ⊢
  refine va_cnB n hts ?_ rfl rfl rfl (hN.1 _ hlink rfl) (hts _ (lwG_of h2 rfl)) ⟨h3.1, h3.2, h4⟩ ⟨hR.1, hR.2.1⟩
  intro w hw
  rcases List.mem_cons.mp hw with rfl | hw
  · exact ⟨lwG_of h1 rfl, good_of_word rfl⟩
  · exact ⟨hw, good_of_word (List.mem_filter.mp hw).2⟩
/-- a constructor of an own class -/
theorem fR_callI {idx n b : Nat} {As : List Value} (d : decode (mB μ) pc = .ok (.invokespecial idx, 3)) (hM : fM l κ μ' (.ref b :: As) M P') (hst : st = As.reverse ++ .ref b :: rest)
    (hok : fOK μ' n) (hn : As.length = n) (hret : mT μ' = none) (hnm : (mY μ').name = "<init>") (hlink : Cond.methodLink (mY μ).cls idx (mY μ') ∈ lw_tbl) (hin : Cond.instanceMethod (mY μ') ∈ lw_tbl)
    (hR : fRoom μ μ' bc bs) (hcat : (rest.map fun v => v.category).sum ≤ 8) (hno : ∀ E M', ¬ P' (.inr E) M')
    (kr : ∀ v M', P' (.inl v) M' → fR l κ μ (pc + 3) lv (v.toList ++ rest) M' (bc - (mR μ').cells) (bs - (mR μ').slots) P) : fR l κ μ pc lv st M bc bs P := by
  subst hst
  intro p e s m args below meth c C H locs cells slots ls hW hS hl hc hs
  have hts := C.2.2.2.2.2.2.1
  have hcb := fcallB hts hok hlink hR
  rw [hret] at hcb
  refine fR_run0 C hS hl hc hs hR.2.2 (va_runI (As := As) (rest := rest) (n := n) (own := (mY μ).cls) (index := idx) ⟨C.2.1, C.2.2.1, C.2.2.2.2.1, C.2.2.2.2.2.1, hts⟩ (fM_met hM C.1 hno) ⟨hcb, hnm, hts _ (lwG_of hin rfl)⟩ (fPre C hW hS _) rfl hn hl.1 rfl (lv_room hcat) d ⟨?_, ?_⟩) kr
  · have := hR.2.2.1; omega
  · have := hR.2.2.2; omega
/-- a private constructor of a nest mate -/
theorem fR_callIN {idx n b : Nat} {host : String} {As : List Value} (d : decode (mB μ) pc = .ok (.invokespecial idx, 3)) (hM : fM l κ μ' (.ref b :: As) M P') (hst : st = As.reverse ++ .ref b :: rest)
    (hok : fOK μ' n) (hn : As.length = n) (hret : mT μ' = none) (hnm : (mY μ').name = "<init>") (hlink : Cond.methodLinkNest (mY μ).cls idx (mY μ') host ∈ lw_tbl) (hin : Cond.instanceMethod (mY μ') ∈ lw_tbl)
    (hR : fRoom μ μ' bc bs) (hcat : (rest.map fun v => v.category).sum ≤ 8) (hno : ∀ E M', ¬ P' (.inr E) M')
    (kr : ∀ v M', P' (.inl v) M' → fR l κ μ (pc + 3) lv (v.toList ++ rest) M' (bc - (mR μ').cells) (bs - (mR μ').slots) P) : fR l κ μ pc lv st M bc bs P := by
  subst hst
  intro p e s m args below meth c C H locs cells slots ls hW hS hl hc hs
  have hts := C.2.2.2.2.2.2.1
  have hcb := fcallN (κ := κ) hts C.2.2.2.2.2.2.2.2.2.2.2.1 hok hlink hR
  rw [hret] at hcb
  refine fR_run0 C hS hl hc hs hR.2.2 (va_runIN (As := As) (rest := rest) (n := n) (own := (mY μ).cls) (index := idx) ⟨C.2.1, C.2.2.1, C.2.2.2.2.1, C.2.2.2.2.2.1, hts⟩ (fM_met hM C.1 hno) ⟨hcb, hnm, hts _ (lwG_of hin rfl)⟩ (fPre C hW hS _) rfl hn hl.1 rfl (lv_room hcat) d ⟨?_, ?_⟩) kr
  · have := hR.2.2.1; omega
  · have := hR.2.2.2; omega
/-- a private static method of a nest mate -/
theorem fR_callSN {idx n : Nat} {host : String} {As : List Value} (d : decode (mB μ) pc = .ok (.invokestatic idx, 3)) (hM : fM l κ μ' As M P') (hst : st = As.reverse ++ rest)
    (hok : fOK μ' n) (hn : As.length = n) (hlink : Cond.methodLinkNest (mY μ).cls idx (mY μ') host ∈ lw_tbl) (hin : Cond.static (mY μ') ∈ lw_tbl)
    (hR : fRoom μ μ' bc bs) (hcat : (rest.map fun v => v.category).sum ≤ 8) (hno : ∀ E M', ¬ P' (.inr E) M')
    (kr : ∀ v M', P' (.inl v) M' → fR l κ μ (pc + 3) lv (v.toList ++ rest) M' (bc - (mR μ').cells) (bs - (mR μ').slots) P) : fR l κ μ pc lv st M bc bs P := by
  subst hst
  intro p e s m args below meth c C H locs cells slots ls hW hS hl hc hs
  have hts := C.2.2.2.2.2.2.1
  refine fR_run0 C hS hl hc hs hR.2.2 (va_runSN (As := As) (rest := rest) (n := n) (own := (mY μ).cls) (index := idx) ⟨C.2.1, C.2.2.1, C.2.2.2.2.1, C.2.2.2.2.2.1, hts⟩ (fM_met hM C.1 hno) ⟨fcallN (κ := κ) hts C.2.2.2.2.2.2.2.2.2.2.2.1 hok hlink hR, hts _ (lwG_of hin rfl), trivial⟩ (fPre C hW hS _) rfl hn hl.1 rfl (lv_room hcat) d ⟨?_, ?_⟩) kr
  · have := hR.2.2.1; omega
  · have := hR.2.2.2; omega
/-- Object.<init> -/
theorem r_objInit {idx a : Nat} (d : decode (mB μ) pc = .ok (.invokespecial idx, 3)) (hlink : Cond.methodLink (mY μ).cls idx Lib.objectInit ∈ lw_tbl) (hin : Cond.instanceMethod Lib.objectInit ∈ lw_tbl) (hcode : Cond.code Lib.objectInit ⟨#[0xb1]⟩ 1 none ∈ lw_tbl) (hfr : 1 ≤ (mR μ).frames) (hlo : (st.map fun v => v.category).sum + 12 ≤ (mR μ).locals)
    (kk : fR l κ μ (pc + 3) lv st M bc bs P) : fR l κ μ pc lv (.ref a :: st) M bc bs P := by
  intro p e s m args below meth c C H locs cells slots ls hW hS hl hc hs
  have hts := C.2.2.2.2.2.2.1
  refine W.objInit C.2.1 C.2.2.1 C.2.2.2.2.2.1 (hts _ (lwG_of hlink rfl)) (hts _ (lwG_of hin rfl)) (hts _ (lwG_of hcode rfl)) rfl (by rw [C.2.2.2.2.1]; exact hl.1) rfl d hfr (by show 2 * 0 + _ + 12 ≤ _; omega) ?_
  exact kk p e s m args below meth c C H locs cells slots ls hW hS hl hc hs
theorem r_mmax {idx : Nat} {x y : Int32} (d : decode (mB μ) pc = .ok (.invokestatic idx, 3)) (hlink : Cond.methodLink (mY μ).cls idx Lib.Math.max.name ∈ lw_tbl) (hst : Cond.static Lib.Math.max.name ∈ lw_tbl) (hini : Cond.initialized "java/lang/Math" ∈ lw_tbl) (hcode : Cond.code Lib.Math.max.name Lib.Math.max.code 2 (some .int) ∈ lw_tbl) (hfr : 1 ≤ (mR μ).frames) (hlo : (st.map fun v => v.category).sum + 13 ≤ (mR μ).locals)
    (kk : fR l κ μ (pc + 3) lv (.int (if x < y then y else x) :: st) M bc bs P) : fR l κ μ pc lv (.int y :: .int x :: st) M bc bs P := by
  intro p e s m args below meth c C H locs cells slots ls hW hS hl hc hs
  have hts := C.2.2.2.2.2.2.1
  exact va_mmax C.2.1 C.2.2.1 (C.2.2.2.2.1.trans hl.1.symm) C.2.2.2.2.2.1 (hts _ (lwG_of hlink rfl)) (hts _ (lwG_of hst rfl)) (hts _ (lwG_of hini rfl)) (hts _ (lwG_of hcode rfl)) hfr hlo (by omega) (by omega) d (kk p e s m args below meth c C H locs cells slots ls hW hS hl hc hs)
theorem r_mmin {idx : Nat} {x y : Int32} (d : decode (mB μ) pc = .ok (.invokestatic idx, 3)) (hlink : Cond.methodLink (mY μ).cls idx Lib.Math.min.name ∈ lw_tbl) (hst : Cond.static Lib.Math.min.name ∈ lw_tbl) (hini : Cond.initialized "java/lang/Math" ∈ lw_tbl) (hcode : Cond.code Lib.Math.min.name Lib.Math.min.code 2 (some .int) ∈ lw_tbl) (hfr : 1 ≤ (mR μ).frames) (hlo : (st.map fun v => v.category).sum + 13 ≤ (mR μ).locals)
    (kk : fR l κ μ (pc + 3) lv (.int (if y < x then y else x) :: st) M bc bs P) : fR l κ μ pc lv (.int y :: .int x :: st) M bc bs P := by
  intro p e s m args below meth c C H locs cells slots ls hW hS hl hc hs
  have hts := C.2.2.2.2.2.2.1
  exact va_mmin C.2.1 C.2.2.1 (C.2.2.2.2.1.trans hl.1.symm) C.2.2.2.2.2.1 (hts _ (lwG_of hlink rfl)) (hts _ (lwG_of hst rfl)) (hts _ (lwG_of hini rfl)) (hts _ (lwG_of hcode rfl)) hfr hlo (by omega) (by omega) d (kk p e s m args below meth c C H locs cells slots ls hW hS hl hc hs)
theorem r_mabs {idx : Nat} {x : Int32} (d : decode (mB μ) pc = .ok (.invokestatic idx, 3)) (hlink : Cond.methodLink (mY μ).cls idx Lib.Math.abs.name ∈ lw_tbl) (hst : Cond.static Lib.Math.abs.name ∈ lw_tbl) (hini : Cond.initialized "java/lang/Math" ∈ lw_tbl) (hcode : Cond.code Lib.Math.abs.name Lib.Math.abs.code 1 (some .int) ∈ lw_tbl) (hfr : 1 ≤ (mR μ).frames) (hlo : (st.map fun v => v.category).sum + 13 ≤ (mR μ).locals)
    (kk : fR l κ μ (pc + 3) lv (.int (if 0 ≤ x then x else 0 - x) :: st) M bc bs P) : fR l κ μ pc lv (.int x :: st) M bc bs P := by
  intro p e s m args below meth c C H locs cells slots ls hW hS hl hc hs
  have hts := C.2.2.2.2.2.2.1
  exact va_mabs C.2.1 C.2.2.1 (C.2.2.2.2.1.trans hl.1.symm) C.2.2.2.2.2.1 (hts _ (lwG_of hlink rfl)) (hts _ (lwG_of hst rfl)) (hts _ (lwG_of hini rfl)) (hts _ (lwG_of hcode rfl)) hfr hlo (by omega) (by omega) d (kk p e s m args below meth c C H locs cells slots ls hW hS hl hc hs)
/-- System.arraycopy over int arrays -/
theorem r_copyi {idx a0 a n0 n1 : Nat} {f g : Nat → Int32} {sp dp n : Int32} (d : decode (mB μ) pc = .ok (.invokestatic idx, 3)) (hlink : Cond.methodLink (mY μ).cls idx arraycopyName ∈ lw_tbl) (hnat : Cond.native arraycopyName ∈ lw_tbl) (hst : Cond.static arraycopyName ∈ lw_tbl) (hini : Cond.initialized "java/lang/System" ∈ lw_tbl)
    (hm0 : M a0 = some (.inr (0, n0, .inl f))) (hm1 : M a = some (.inr (0, n1, .inl g))) (h1 : ¬ sp < 0) (h2 : ¬ dp < 0) (h3 : ¬ n < 0) (h4 : sp.toNatClampNeg + n.toNatClampNeg ≤ n0) (h5 : dp.toNatClampNeg + n.toNatClampNeg ≤ n1) (hfr : 1 ≤ (mR μ).frames) (hlo : (st.map fun v => v.category).sum + (nativeFrameWords "java/lang/System" "arraycopy" 5 + 11) ≤ (mR μ).locals)
    (kk : fR l κ μ (pc + 3) lv st (fup M a (.inr (0, n1, .inl (va_cpy f g sp.toNatClampNeg dp.toNatClampNeg n.toNatClampNeg)))) bc bs P) : fR l κ μ pc lv (.int n :: .int dp :: .ref a :: .int sp :: .ref a0 :: st) M bc bs P := by
  intro p e s m args below meth c C H locs cells slots ls hW hS hl hc hs
  have hts := C.2.2.2.2.2.2.1
  obtain ⟨dC, dI, tys, ws, hK, hP, hD, hM9⟩ := id hW
  obtain ⟨q0, t0, c0, hk0, ht0⟩ := hM9 a0 _ hm0
  obtain ⟨q1, t1, c1, hk1, ht1⟩ := hM9 a _ hm1
  exact va_copyi C.2.1 C.2.2.1 (C.2.2.2.2.1.trans hl.1.symm) C.2.2.2.2.2.1 (hts _ (lwG_of hlink rfl)) (hts _ (lwG_of hnat rfl)) (hts _ (lwG_of hst rfl)) (hts _ (lwG_of hini rfl)) hK hP hD hS q0 q1 t0 t1 hk0 hk1 ht0 ht1 rfl h1 h2 h3 h4 h5 (fun _ _ => rfl) hfr hlo d (fun H1 locs1 hP1 hD1 hS1 => kk p e s m args below meth c C H1 locs1 cells slots ls ⟨dC, dI, tys, _, hK, hP1, hD1, fIn_set hD hM9 hk1 ⟨q1, t1, c1, fset_at hk1, ht1⟩⟩ hS1 hl hc hs)
/-- the greatest values of the settings -/
theorem r_getsMost {idx : Nat} (d : decode (mB μ) pc = .ok (.getstatic idx, 3)) (hlink : Cond.fieldLink (mY μ).cls idx "BitumenNeedle" "MOST_OF_SETTING" "[I" ∈ lw_tbl) (kk : fR l κ μ (pc + 3) lv (.ref (kT κ 2) :: st) M bc bs P) : fR l κ μ pc lv st M bc bs P := by
  intro p e s m args below meth c C H locs cells slots ls hW hS hl hc hs
  exact va_gets C.2.1 C.2.2.1 C.2.2.2.2.2.2.2.2.2.2.1.2.2.2.1.1 hS C.2.2.2.2.2.1 (C.2.2.2.2.2.2.1 _ (lwG_of hlink rfl)) (fun x h => h) d (kk p e s m args below meth c C H locs cells slots ls hW hS hl hc hs)
theorem r_ldMost {i : Int32} {v : Int32} (d : decode (mB μ) pc = .ok (.iaload, 1)) (hin : vp_in i 3) (hv : [(50 : Int32), 100, 60].getD i.toNatClampNeg 0 = v) (kk : fR l κ μ (pc + 1) lv (.int v :: st) M bc bs P) : fR l κ μ pc lv (.int i :: .ref (kT κ 2) :: st) M bc bs P := by
  intro p e s m args below meth c C H locs cells slots ls hW hS hl hc hs
  exact va_ti C.2.1 C.2.2.1 C.2.2.2.2.2.2.2.2.2.2.1.2.2.2.1.2 hS hin (by rw [hv]) d (kk p e s m args below meth c C H locs cells slots ls hW hS hl hc hs)
/-- new E; dup; ldc text; E.<init>(text); athrow -/
def fThr (own : String) (ik ic : Nat) (cls : String) : Bool :=
  (vx_atS own ic cls ["java/lang/RuntimeException", "java/lang/Exception"]).all (fun w => decide (w ∈ lw_tbl) && (goodWord w || (fKind w && w.onTables))) &&
  (Cond.classLink own ik cls :: Cond.initialized cls :: vx_atS own ic cls ["java/lang/RuntimeException", "java/lang/Exception"]).all vx_ot && decide (Cond.classLink own ik cls ∈ lw_tbl) && decide (Cond.initialized cls ∈ lw_tbl) && Bundle.fit cls && (["java/lang/RuntimeException", "java/lang/Exception"]).all Bundle.fit
theorem r_throw {ik is ic j : Nat} {cls tx : String} (hh : fThr (mY μ).cls ik ic cls = true) (d0 : decode (mB μ) pc = .ok (.new ik, 3)) (d3 : decode (mB μ) (pc + 3) = .ok (.dup, 1)) (d4 : decode (mB μ) (pc + 4) = .ok (.ldc is, 2)) (d6 : decode (mB μ) (pc + 6) = .ok (.invokespecial ic, 3)) (d9 : decode (mB μ) (pc + 9) = .ok (.athrow, 1))
    (hstr : ((mY μ).cls, is, tx, j) ∈ fStr) (hfr : 5 < (mR μ).frames) (hlo : (st.map fun v => v.category).sum + 82 ≤ (mR μ).locals) (hbc : 1 ≤ bc) (hbs : 6 ≤ bs) (hH : mH μ = []) (hp : P (.inr cls) M) : fR l κ μ pc lv st M bc bs P := by
  intro p e s m args below meth c C H locs cells slots ls hW hS hl hc hs
  have hts := C.2.2.2.2.2.2.1
  have hN := C.2.2.2.2.2.2.2.2.2.2.2.1
  have hZ := C.2.2.2.2.2.2.2.2.2.2.1.2.2.2.2.1
  simp only [fThr, Bool.and_eq_true, List.all_eq_true, decide_eq_true_eq, Bool.or_eq_true] at hh
  obtain ⟨⟨⟨⟨⟨h1, h2⟩, h3⟩, h4⟩, h5⟩, h6⟩ := hh
  have htab : ∀ x ∈ c.exceptionTable.toList, covers x (pc + 9) = false := by
    have h9 := C.2.2.2.2.2.2.2.2.2.1
    rw [hH] at h9
    intro x hx
    rw [h9] at hx
    cases hx
  refine vx_throwS (ik := ik) (is := is) (ic := ic) (sa := kK κ j) (cls := cls) (text := tx) (names := ["java/lang/RuntimeException", "java/lang/Exception"]) (A := fA (kO κ)) C.2.1 C.2.2.1 C.1 C.2.2.2.2.2.1 h5 h6 (hts _ (lwG_of h3 rfl)) (hts _ (lwG_of h4 rfl)) (hN.2.2.1 _ hstr) ?_ h2 hZ.1 hZ.2 hS (by rw [C.2.2.2.2.1]; exact hl.1) d0 d3 d4 d6 d9 htab (show 2 + 3 < _ by omega) (show _ + (13 * (2 + 1) + 43) ≤ _ by omega) (by omega) (by omega) C.2.2.2.2.2.2.2.1 ?_ hS.2.2 (by omega) (by omega)
  · intro w hw
    obtain ⟨g1, g2⟩ := h1 w hw
    rcases g2 with g2 | g2
    · exact hts _ (lwG_of g1 g2)
    · exact va_Nw.use g2.2 (hN.1 w g1 g2.1)
  · intro t hal hz hk
    obtain ⟨dC, dI, tys, ws, hK, hP, hD, hM9⟩ := hW
    refine ⟨⟨M, hp, fW.moved hal ⟨dC, dI, tys, ws, hK, hP.kept (fun k q hq => hk q.1 (hP k q hq).lt), hD, hM9⟩⟩, Nat.le_trans hS.1 hz, fun q h1 h2 => ?_⟩
    rw [hk q (Nat.lt_of_lt_of_le h1 hS.1)]
    exact hS.2.1 q h1 h2
end FR2
