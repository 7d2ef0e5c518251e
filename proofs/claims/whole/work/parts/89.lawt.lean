/-! THE LAW'S LOOP: what stands, the end of every comparison -/
def mL_law (nm : String) (hh : List (Nat × Nat × Nat × Nat)) : MD := (⟨RL, nm, "([I)Z"⟩, cL_law, 9, some FieldType.boolean, { frames := 14, cells := 601024, slots := 7293034, locals := 516 }, hh)
section R89
variable {l : Launch} {κ : KP} {μ μ' : MD} {pc : Nat} {lv : List (Nat × Value)} {st rest : List Value} {M M1 : Mem} {bc bs : Nat} {P P' : FPost}
/-- a virtual call of a method that doesn't throw, in a body with any table -/
theorem r_callVP0 {idx n b ci : Nat} {fs As : List Value} {q : vw_C} (d : decode (mB μ) pc = .ok (.invokevirtual idx, 3)) (hM : fM l κ μ' (.ref b :: As) M P') (hst : st = As.reverse ++ .ref b :: rest)
    (hb : M b = some (.inl (ci, fs))) (hcl : vwCl[ci]? = some q) (hq : q.1 = (mY μ').cls) (hok : fOK μ' n) (hn : As.length = n) (hlink : Cond.methodLink (mY μ).cls idx (mY μ') ∈ lw_tbl) (hin : Cond.instanceMethod (mY μ') ∈ lw_tbl) (hse : Cond.selects (mY μ').cls (mY μ') (mY μ') ∈ lw_tbl)
    (hR : fRoom μ μ' bc bs) (hcat : (rest.map fun v => v.category).sum ≤ 8) {bc' bs' : Nat} (hbc : bc' + (mR μ').cells = bc) (hbs : bs' + (mR μ').slots = bs) (hno : ∀ E M', ¬ P' (.inr E) M')
    (kk : ∀ v M', P' (.inl v) M' → fR l κ μ (pc + 3) lv (v.toList ++ rest) M' bc' bs' P) : fR l κ μ pc lv st M bc bs P := by
  subst hst
  intro p e s m args below meth c C H locs cells slots ls hW hS hl hc hs
  have hts := C.2.2.2.2.2.2.1
  obtain ⟨dC, dI, tys, ws, hK, hP, hD, hM9⟩ := id hW
  obtain ⟨k0, hk0⟩ := hM9 b _ hb
  refine fR_run0 C hS hl hc hs hR.2.2 (va_runV (As := As) (rest := rest) (n := n) (C := (mY μ').cls) (own := (mY μ).cls) (index := idx) ⟨C.2.1, C.2.2.1, C.2.2.2.2.1, C.2.2.2.2.2.1, hts⟩ (fM_met hM C.1 hno) ⟨fcallB hts hok hlink hR, hts _ (lwG_of hin rfl), hts _ (lwG_of hse rfl)⟩ ⟨fP_blind, ?_, ?_⟩ rfl hn hl.1 rfl (lv_room hcat) d ⟨?_, ?_⟩) (fun v M' h => by
    rw [show bc - (mR μ').cells = bc' by omega, show bs - (mR μ').slots = bs' by omega]; exact kk v M' h)
  · obtain ⟨cell, g1, g2, g3⟩ := va_recv hK hP hcl hk0
    exact ⟨cell, g1, g2, by rw [← hq]; exact g3⟩
  · intro U hU hw
    exact ⟨rfl, by rw [hU]; exact hW.moved hw.alike, by rw [hU]; exact (C.2.2.2.2.2.2.2.2.2.2.1.at hS).moved hw.alike, fN.warm hw C.2.2.2.2.2.2.2.2.2.2.2.1, by rw [hU]; exact Nat.le_trans C.2.2.2.2.2.2.2.2.2.2.2.2 hS.1⟩
  · have := hR.2.2.1; omega
  · have := hR.2.2.2; omega
theorem r_callV0 {idx n b ci : Nat} {fs As : List Value} {q : vw_C} {v : Option Value} (d : decode (mB μ) pc = .ok (.invokevirtual idx, 3)) (hM : fM l κ μ' (.ref b :: As) M (isR v M1)) (hst : st = As.reverse ++ .ref b :: rest)
    (hb : M b = some (.inl (ci, fs))) (hcl : vwCl[ci]? = some q) (hq : q.1 = (mY μ').cls) (hok : fOK μ' n) (hn : As.length = n) (hlink : Cond.methodLink (mY μ).cls idx (mY μ') ∈ lw_tbl) (hin : Cond.instanceMethod (mY μ') ∈ lw_tbl) (hse : Cond.selects (mY μ').cls (mY μ') (mY μ') ∈ lw_tbl)
    (hR : fRoom μ μ' bc bs) (hcat : (rest.map fun v => v.category).sum ≤ 8) {bc' bs' : Nat} (hbc : bc' + (mR μ').cells = bc) (hbs : bs' + (mR μ').slots = bs)
    (kk : fR l κ μ (pc + 3) lv (v.toList ++ rest) M1 bc' bs' P) : fR l κ μ pc lv st M bc bs P :=
  r_callVP0 d hM hst hb hcl hq hok hn hlink hin hse hR hcat hbc hbs (fun E M' h => by cases h.1) (fun v' M' h => by
    obtain ⟨h1, h2⟩ := h; cases h1; subst h2; exact kk)
end R89
theorem tX9_thrown {l : Launch} {κ : KP} {M : Mem} {m sA tA nA : Nat} {th sv kp ln ap pt : Int32} {hs : Int64} {g tx nu : Nat → Int32} : fM l κ mX9_thrown [.ref m] (RM M m sA tA nA th sv kp ln ap pt hs g tx nu) (isI th (RM M m sA tA nA th sv kp ln ap pt hs g tx nu)) := by
  refine fM_of rfl (by decide +kernel) (Nat.le_of_ble_eq_true rfl) ?_
  show fR l κ mX9_thrown 0 [(0, .ref m)] [] (RM M m sA tA nA th sv kp ln ap pt hs g tx nu) 0 0 _
  refine r_aload_n dX9_thrown_0 rfl ?_
  refine r_get (k := 0) dX9_thrown_1 RM_0 rfl rfl (by decide) kX9_19F ?_
  exact fR_iret dX9_thrown_4 rfl (isI_of rfl)
theorem RM_self {M M1 : Mem} {m sA tA nA : Nat} {th sv kp ln ap pt : Int32} {hs : Int64} {g tx nu : Nat → Int32} (hD : rDis m sA tA nA) (h : M = RM M m sA tA nA th sv kp ln ap pt hs g tx nu) (e0 : M1 m = M m) (e1 : M1 sA = M sA) (e2 : M1 tA = M tA) (e3 : M1 nA = M nA) : M1 = RM M1 m sA tA nA th sv kp ln ap pt hs g tx nu := by
  have r0 : M m = some (.inl (8, [.int th, .ref sA, .int sv, .int kp, .ref tA, .int ln, .int ap, .int pt, .ref nA, .long hs])) := by rw [h]; exact RM_0
  have r1 : M sA = some (.inr (0, 3008, .inl g)) := by rw [h]; exact RM_1 hD
  have r2 : M tA = some (.inr (0, 60, .inl tx)) := by rw [h]; exact RM_2 hD
  have r3 : M nA = some (.inr (0, 4, .inl nu)) := by rw [h]; exact RM_3 hD
  funext b
  unfold RM
  by_cases c0 : b = m
  · rw [if_pos c0, c0, e0, r0]
  · rw [if_neg c0]
    by_cases c1 : b = sA
    · rw [if_pos c1, c1, e1, r1]
    · rw [if_neg c1]
      by_cases c2 : b = tA
      · rw [if_pos c2, c2, e2, r2]
      · rw [if_neg c2]
        by_cases c3 : b = nA
        · rw [if_pos c3, c3, e3, r3]
        · rw [if_neg c3]
theorem RM_out {M : Mem} {m sA tA nA b : Nat} {th sv kp ln ap pt : Int32} {hs : Int64} {g tx nu : Nat → Int32} (h0 : b ≠ m) (h1 : b ≠ sA) (h2 : b ≠ tA) (h3 : b ≠ nA) : RM M m sA tA nA th sv kp ln ap pt hs g tx nu b = M b := by
  unfold RM; rw [if_neg h0, if_neg h1, if_neg h2, if_neg h3]
theorem RM_twice {M : Mem} {m sA tA nA : Nat} {th sv kp ln ap pt : Int32} {hs : Int64} {g tx nu : Nat → Int32} (hD : rDis m sA tA nA) : RM M m sA tA nA th sv kp ln ap pt hs g tx nu = RM (RM M m sA tA nA th sv kp ln ap pt hs g tx nu) m sA tA nA th sv kp ln ap pt hs g tx nu := by
  funext b
  unfold RM
  by_cases c0 : b = m
  · rw [if_pos c0, if_pos c0]
  · rw [if_neg c0, if_neg c0]
    by_cases c1 : b = sA
    · rw [if_pos c1, if_pos c1]
    · rw [if_neg c1, if_neg c1]
      by_cases c2 : b = tA
      · rw [if_pos c2, if_pos c2]
      · rw [if_neg c2, if_neg c2]
        by_cases c3 : b = nA
        · rw [if_pos c3, if_pos c3]
        · rw [if_neg c3, if_neg c3]
/-- the cells of class, answer and reference stand apart -/
def LD (ad : Nat → Nat) (q m sA tA nA : Nat) : Prop := aInj ad ∧ (∀ t, t < 256 → q ≠ ad t) ∧ rDis m sA tA nA ∧ (∀ t, t < 256 → ad t ≠ m ∧ ad t ≠ sA ∧ ad t ≠ tA ∧ ad t ≠ nA) ∧ (q ≠ m ∧ q ≠ sA ∧ q ≠ tA ∧ q ≠ nA)
def LI (κ : KP) (ad : Nat → Nat) (q m sA tA nA : Nat) (M : Mem) (z : Zs) (dn n : Nat) : Prop := ∃ (th ap pt : Int32) (hs : Int64) (nu : Nat → Int32) (f : Nat → Int64), ClsAt κ ad M z dn n ∧ M q = some (.inr (2, 1, .inr (.inl f))) ∧ M = RM M m sA tA nA th (nI z.2.1) (bI z.2.2.1) (nI z.2.2.2.2) ap pt hs z.1 z.2.2.2.1 nu
theorem LI.rm {κ : KP} {ad : Nat → Nat} {q m sA tA nA : Nat} {M : Mem} {z z' : Zs} {dn n : Nat} {th ap pt : Int32} {hs : Int64} {nu : Nat → Int32} {f : Nat → Int64} (hD : LD ad q m sA tA nA) (hC : ClsAt κ ad M z dn n) (hq : M q = some (.inr (2, 1, .inr (.inl f)))) : LI κ ad q m sA tA nA (RM M m sA tA nA th (nI z.2.1) (bI z.2.2.1) (nI z.2.2.2.2) ap pt hs z.1 z.2.2.2.1 nu) z dn n :=
  ⟨th, ap, pt, hs, nu, f, hC.frame (fun t ht => RM_out (hD.2.2.2.1 t ht).1 (hD.2.2.2.1 t ht).2.1 (hD.2.2.2.1 t ht).2.2.1 (hD.2.2.2.1 t ht).2.2.2), (RM_out hD.2.2.2.2.1 hD.2.2.2.2.2.1 hD.2.2.2.2.2.2.1 hD.2.2.2.2.2.2.2).trans hq, RM_twice hD.2.2.1⟩
theorem lcmp_same {x : Int64} : (if x < x then (1 : Int32) else if x = x then 0 else -1) = nI 0 := by
  rw [if_neg (Int64.lt_irrefl), if_pos rfl]; rfl
abbrev LV (κ : KP) (ad : Nat → Nat) (q m i : Nat) : List (Nat × Value) := [(4, .int (nI i)), (0, .ref (kB κ)), (1, .ref (ad 254)), (2, .ref m), (3, .ref q)]
theorem law_tail {nm : String} {hh : List (Nat × Nat × Nat × Nat)} {l : Launch} {κ : KP} {ad : Nat → Nat} {q m sA tA nA i bc bs : Nat} {M1 : Mem} {O : Oc} {f : Nat → Int64} {ap pt : Int32} {hs : Int64} {nu : Nat → Int32} {P : FPost} {dn n : Nat} {a : Nat} (hD : LD ad q m sA tA nA) (hC : ClsAt κ ad M1 O.2.2 dn n) (h3 : O.1 ≤ 3) (hq : M1 q = some (.inr (2, 1, .inr (.inl f)))) (hf : O.1 = 0 → f 0 = O.2.1.toInt64)
    (d0 : decode cL_law a = .ok (.aload_n 2, 1)) (d1 : decode cL_law (a + 1) = .ok (.invokevirtual 117, 3)) (d2 : decode cL_law (a + 4) = .ok (.iload 5, 2)) (d3 : decode cL_law (a + 6) = .ok (.if_icmp .eq 5, 3)) (d4 : decode cL_law (a + 11) = .ok (.iload 5, 2)) (d5 : decode cL_law (a + 13) = .ok (.ifCond .ne 15, 3)) (d6 : decode cL_law (a + 16) = .ok (.aload_n 3, 1)) (d7 : decode cL_law (a + 17) = .ok (.iconst 0, 1)) (d8 : decode cL_law (a + 18) = .ok (.laload, 1)) (d9 : decode cL_law (a + 19) = .ok (.iload 6, 2)) (d10 : decode cL_law (a + 21) = .ok (.i2l, 1)) (d11 : decode cL_law (a + 22) = .ok (.lcmp, 1)) (d12 : decode cL_law (a + 23) = .ok (.ifCond .eq 5, 3)) {off : Int} (d13 : decode cL_law (a + 28) = .ok (.goto off, 3)) (ho : ((a + 28 : Nat) : Int) + off = ((2098 : Nat) : Int))
    (kk : ∀ M2, LI κ ad q m sA tA nA M2 O.2.2 dn n → fR l κ (mL_law nm hh) 2098 (LV κ ad q m i) [] M2 bc bs P) :
    fR l κ (mL_law nm hh) a ((6, .int O.2.1) :: (5, .int (nI O.1)) :: LV κ ad q m i) [] (RM M1 m sA tA nA (nI O.1) (nI O.2.2.2.1) (bI O.2.2.2.2.1) (nI O.2.2.2.2.2.2) ap pt hs O.2.2.1 O.2.2.2.2.2.1 nu) bc bs P := by
  have fin : fR l κ (mL_law nm hh) 2098 ((6, .int O.2.1) :: (5, .int (nI O.1)) :: LV κ ad q m i) [] (RM M1 m sA tA nA (nI O.1) (nI O.2.2.2.1) (bI O.2.2.2.2.1) (nI O.2.2.2.2.2.2) ap pt hs O.2.2.1 O.2.2.2.2.2.1 nu) bc bs P := by
    refine r_lv (lv' := LV κ ad q m i) (by simp [LV]) ?_
    exact kk _ (LI.rm (z' := O.2.2) hD hC hq)
  refine r_aload_n d0 rfl ?_
  refine r_callV0 (As := []) d1 tX9_thrown rfl RM_0 rfl rfl oX9_thrown rfl kL_117M nX9_thrown eX9_thrown ⟨Nat.le_of_ble_eq_true rfl, Nat.le_of_ble_eq_true rfl, Nat.zero_le _, Nat.zero_le _⟩ (Nat.le_of_ble_eq_true rfl) (bc' := bc) (bs' := bs) rfl rfl ?_
  show fR _ _ _ (a + 4) _ (.int (nI O.1) :: []) _ _ _ _
  refine r_iload d2 rfl ?_
  refine r_icmp_eq (tgt := a + 11) d3 (by omega) (fun _ => ?_) (fun c => absurd rfl c)
  refine r_iload d4 rfl ?_
  refine r_if_neN (tgt := a + 28) d5 (by omega) (by omega) (fun c1 => ?_) (fun c1 => ?_)
  · exact r_goto (tgt := 2098) d13 ho fin
  · have hO : O.1 = 0 := by omega
    refine r_aload_n d6 rfl ?_
    refine r_iconst (v := nI 0) d7 (by decide) ?_
    refine r_lald d8 ((RM_out hD.2.2.2.2.1 hD.2.2.2.2.2.1 hD.2.2.2.2.2.2.1 hD.2.2.2.2.2.2.2).trans hq) (vp_in_nI (by omega) (by decide)) ?_
    refine r_iload d9 rfl ?_
    refine r_i2l d10 ?_
    rw [show f (nI 0).toNatClampNeg = O.2.1.toInt64 from hf hO]
    refine r_lcmp d11 ?_
    refine r_top lcmp_same ?_
    refine r_if_eqN (tgt := a + 28) d12 (by omega) (by omega) (fun _ => ?_) (fun c => absurd rfl c)
    exact r_goto (tgt := 2098) d13 ho fin
