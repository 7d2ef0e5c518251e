/-! THE LAW'S METHODS: names, links -/
section R89
variable {l : Launch} {κ : KP} {μ μ' : MD} {pc : Nat} {lv : List (Nat × Value)} {st rest : List Value} {M M1 : Mem} {bc bs : Nat} {P P' : FPost}
/-- a virtual call of a method that doesn't throw, in a body with any table -/
theorem r_callVP0 {idx n b ci : Nat} {fs As : List Value} {q : vw_C} (d : decode (mB μ) pc = .ok (.invokevirtual idx, 3)) (hM : fM l κ μ' (.ref b :: As) M P') (hst : st = As.reverse ++ .ref b :: rest)
    (hb : M b = some (.inl (ci, fs))) (hcl : vwCl[ci]? = some q) (hq : q.1 = (mY μ').cls) (hok : fOK μ' n) (hn : As.length = n) (hlink : Cond.methodLink (mY μ).cls idx (mY μ') ∈ lw_tbl) (hin : Cond.instanceMethod (mY μ') ∈ lw_tbl) (hse : Cond.selects (mY μ').cls (mY μ') (mY μ') ∈ lw_tbl)
    (hR : fRoom μ μ' bc bs) (hcat : (rest.map fun v => v.category).sum ≤ 8) {bc' bs' : Nat} (hbc : bc' + (mR μ').cells = bc) (hbs : bs' + (mR μ').slots = bs) (hno : ∀ E M', ¬ P' (.inr E) M')
    (kk : ∀ v M', P' (.inl v) M' → fR l κ μ (pc + 3) lv (v.toList ++ rest) M' bc' bs' P) : fR l κ μ pc lv st M bc bs P := by
  subst hst
  intro p e s m args below meth c C H locs cells slots ls hW hS hl hc hs
  have hts := C.2.2.2.2.2.2.1
  obtain ⟨dC, dI, tys, ws, hK, hP, hD, hM9⟩ := id hW
  obtain ⟨k0, hk0⟩ := hM9 b _ hb
  refine fR_run0 C hS hl hc hs hR.2.2 (va_runV (As := As) (rest := rest) (n := n) (C := (mY μ').cls) (own := (mY μ).cls) (index := idx) ⟨C.2.1, C.2.2.1, C.2.2.2.2.1, C.2.2.2.2.2.1, hts⟩ (fM_met hM C.1 hno) ⟨fcallB hts hok hlink hR, hts _ (lwG_of hin rfl), hts _ (lwG_of hse rfl)⟩ ⟨fP_blind, ?_, ?_⟩ rfl hn hl.1 rfl (lv_room hcat) d ⟨?_, ?_⟩) (fun v M' h => by
    rw [show bc - (mR μ').cells = bc' by omega, show bs - (mR μ').slots = bs' by omega]; exact kk v M' h)
  · obtain ⟨cell, g1, g2, g3⟩ := va_recv hK hP hcl hk0
    exact ⟨cell, g1, g2, by rw [← hq]; exact g3⟩
  · intro U hU hw
    exact ⟨rfl, by rw [hU]; exact hW.moved hw.alike, by rw [hU]; exact (C.2.2.2.2.2.2.2.2.2.2.1.at hS).moved hw.alike, fN.warm hw C.2.2.2.2.2.2.2.2.2.2.2.1, by rw [hU]; exact Nat.le_trans C.2.2.2.2.2.2.2.2.2.2.2.2 hS.1⟩
  · have := hR.2.2.1; omega
  · have := hR.2.2.2; omega
theorem r_callV0 {idx n b ci : Nat} {fs As : List Value} {q : vw_C} {v : Option Value} (d : decode (mB μ) pc = .ok (.invokevirtual idx, 3)) (hM : fM l κ μ' (.ref b :: As) M (isR v M1)) (hst : st = As.reverse ++ .ref b :: rest)
    (hb : M b = some (.inl (ci, fs))) (hcl : vwCl[ci]? = some q) (hq : q.1 = (mY μ').cls) (hok : fOK μ' n) (hn : As.length = n) (hlink : Cond.methodLink (mY μ).cls idx (mY μ') ∈ lw_tbl) (hin : Cond.instanceMethod (mY μ') ∈ lw_tbl) (hse : Cond.selects (mY μ').cls (mY μ') (mY μ') ∈ lw_tbl)
    (hR : fRoom μ μ' bc bs) (hcat : (rest.map fun v => v.category).sum ≤ 8) {bc' bs' : Nat} (hbc : bc' + (mR μ').cells = bc) (hbs : bs' + (mR μ').slots = bs)
    (kk : fR l κ μ (pc + 3) lv (v.toList ++ rest) M1 bc' bs' P) : fR l κ μ pc lv st M bc bs P :=
  r_callVP0 d hM hst hb hcl hq hok hn hlink hin hse hR hcat hbc hbs (fun E M' h => by cases h.1) (fun v' M' h => by
    obtain ⟨h1, h2⟩ := h; cases h1; subst h2; exact kk)
theorem r_callSP0 {idx n : Nat} {As : List Value} (d : decode (mB μ) pc = .ok (.invokestatic idx, 3)) (hM : fM l κ μ' As M P') (hst : st = As.reverse ++ rest)
    (hok : fOK μ' n) (hn : As.length = n) (hlink : Cond.methodLink (mY μ).cls idx (mY μ') ∈ lw_tbl) (hin : Cond.static (mY μ') ∈ lw_tbl)
    (hR : fRoom μ μ' bc bs) (hcat : (rest.map fun v => v.category).sum ≤ 8) {bc' bs' : Nat} (hbc : bc' + (mR μ').cells = bc) (hbs : bs' + (mR μ').slots = bs) (hno : ∀ E M', ¬ P' (.inr E) M')
    (kk : ∀ v M', P' (.inl v) M' → fR l κ μ (pc + 3) lv (v.toList ++ rest) M' bc' bs' P) : fR l κ μ pc lv st M bc bs P := by
  subst hst
  intro p e s m args below meth c C H locs cells slots ls hW hS hl hc hs
  have hts := C.2.2.2.2.2.2.1
  refine fR_run0 C hS hl hc hs hR.2.2 (va_runS (As := As) (rest := rest) (n := n) (own := (mY μ).cls) (index := idx) ⟨C.2.1, C.2.2.1, C.2.2.2.2.1, C.2.2.2.2.2.1, hts⟩ (fM_met hM C.1 hno) ⟨fcallB hts hok hlink hR, hts _ (lwG_of hin rfl)⟩ ⟨fP_blind, ?_⟩ rfl hn hl.1 rfl (lv_room hcat) d ⟨?_, ?_⟩) (fun v M' h => by
    rw [show bc - (mR μ').cells = bc' by omega, show bs - (mR μ').slots = bs' by omega]; exact kk v M' h)
  · intro U hU hw
    exact ⟨rfl, by rw [hU]; exact hW.moved hw.alike, by rw [hU]; exact (C.2.2.2.2.2.2.2.2.2.2.1.at hS).moved hw.alike, fN.warm hw C.2.2.2.2.2.2.2.2.2.2.2.1, by rw [hU]; exact Nat.le_trans C.2.2.2.2.2.2.2.2.2.2.2.2 hS.1⟩
  · have := hR.2.2.1; omega
  · have := hR.2.2.2; omega
theorem r_callS0 {idx n : Nat} {As : List Value} {v : Option Value} (d : decode (mB μ) pc = .ok (.invokestatic idx, 3)) (hM : fM l κ μ' As M (isR v M1)) (hst : st = As.reverse ++ rest)
    (hok : fOK μ' n) (hn : As.length = n) (hlink : Cond.methodLink (mY μ).cls idx (mY μ') ∈ lw_tbl) (hin : Cond.static (mY μ') ∈ lw_tbl)
    (hR : fRoom μ μ' bc bs) (hcat : (rest.map fun v => v.category).sum ≤ 8) {bc' bs' : Nat} (hbc : bc' + (mR μ').cells = bc) (hbs : bs' + (mR μ').slots = bs)
    (kk : fR l κ μ (pc + 3) lv (v.toList ++ rest) M1 bc' bs' P) : fR l κ μ pc lv st M bc bs P :=
  r_callSP0 d hM hst hok hn hlink hin hR hcat hbc hbs (fun E M' h => by cases h.1) (fun v' M' h => by
    obtain ⟨h1, h2⟩ := h; cases h1; subst h2; exact kk)
end R89
def mL_law (nm : String) (hh : List (Nat × Nat × Nat × Nat)) : MD := (⟨RL, nm, "([I)Z"⟩, cL_law, 13, some FieldType.boolean, { frames := 12, cells := 600104, slots := 7301314, locals := 456 }, hh)
def mL_cell : MD := (yL_cell, cL_cell, 2, (some FieldType.int), { frames := 1, cells := 0, slots := 0, locals := 64 }, [])
theorem oL_cell : fOK mL_cell 2 := ⟨rfl, lw_of (i := 397) (by decide +kernel), lw_of (i := 0) (by decide +kernel), by decide +kernel, by decide +kernel⟩
theorem sL_cell : Cond.static yL_cell ∈ lw_tbl := lw_of (i := 396) (by decide +kernel)
def mL_up : MD := (yL_up, cL_up, 2, (some FieldType.int), { frames := 1, cells := 0, slots := 0, locals := 64 }, [])
theorem oL_up : fOK mL_up 2 := ⟨rfl, lw_of (i := 401) (by decide +kernel), lw_of (i := 0) (by decide +kernel), by decide +kernel, by decide +kernel⟩
theorem sL_up : Cond.static yL_up ∈ lw_tbl := lw_of (i := 400) (by decide +kernel)
def mL_bits : MD := (yL_bits, cL_bits, 1, (some FieldType.int), { frames := 1, cells := 0, slots := 0, locals := 64 }, [])
theorem oL_bits : fOK mL_bits 1 := ⟨rfl, lw_of (i := 738) (by decide +kernel), lw_of (i := 0) (by decide +kernel), by decide +kernel, by decide +kernel⟩
theorem sL_bits : Cond.static yL_bits ∈ lw_tbl := lw_of (i := 737) (by decide +kernel)
def mL_looks : MD := (yL_looks, cL_looks, 5, (some FieldType.long), { frames := 7, cells := 0, slots := 0, locals := 199 }, [])
theorem oL_looks : fOK mL_looks 1 := ⟨rfl, lw_of (i := 405) (by decide +kernel), lw_of (i := 0) (by decide +kernel), by decide +kernel, by decide +kernel⟩
theorem sL_looks : Cond.static yL_looks ∈ lw_tbl := lw_of (i := 404) (by decide +kernel)
def mL_act : MD := (yL_act, cL_act, 11, (some FieldType.int), { frames := 8, cells := 30, slots := 180, locals := 206 }, [])
theorem oL_act : fOK mL_act 3 := ⟨rfl, lw_of (i := 534) (by decide +kernel), lw_of (i := 0) (by decide +kernel), by decide +kernel, by decide +kernel⟩
theorem sL_act : Cond.static yL_act ∈ lw_tbl := lw_of (i := 533) (by decide +kernel)
def mL_isSample : MD := (yL_isSample, cL_isSample, 9, (some FieldType.boolean), { frames := 6, cells := 0, slots := 0, locals := 179 }, [])
theorem oL_isSample : fOK mL_isSample 2 := ⟨rfl, lw_of (i := 741) (by decide +kernel), lw_of (i := 0) (by decide +kernel), by decide +kernel, by decide +kernel⟩
theorem sL_isSample : Cond.static yL_isSample ∈ lw_tbl := lw_of (i := 740) (by decide +kernel)
def mL_isDrum : MD := (yL_isDrum, cL_isDrum, 6, (some FieldType.boolean), { frames := 7, cells := 0, slots := 0, locals := 199 }, [])
theorem oL_isDrum : fOK mL_isDrum 2 := ⟨rfl, lw_of (i := 735) (by decide +kernel), lw_of (i := 0) (by decide +kernel), by decide +kernel, by decide +kernel⟩
theorem sL_isDrum : Cond.static yL_isDrum ∈ lw_tbl := lw_of (i := 734) (by decide +kernel)
def mL_holds : MD := (yL_holds, cL_holds, 10, (some FieldType.boolean), { frames := 8, cells := 0, slots := 0, locals := 224 }, [])
theorem oL_holds : fOK mL_holds 1 := ⟨rfl, lw_of (i := 732) (by decide +kernel), lw_of (i := 0) (by decide +kernel), by decide +kernel, by decide +kernel⟩
theorem sL_holds : Cond.static yL_holds ∈ lw_tbl := lw_of (i := 731) (by decide +kernel)
def mL_isAhead : MD := (yL_isAhead, cL_isAhead, 15, (some FieldType.boolean), { frames := 8, cells := 90, slots := 540, locals := 223 }, [])
theorem oL_isAhead : fOK mL_isAhead 4 := ⟨rfl, lw_of (i := 769) (by decide +kernel), lw_of (i := 0) (by decide +kernel), by decide +kernel, by decide +kernel⟩
theorem sL_isAhead : Cond.static yL_isAhead ∈ lw_tbl := lw_of (i := 768) (by decide +kernel)
theorem kL_7K : Cond.constant RL 7 1812433253 ∈ lw_tbl := lw_of (i := 398) (by decide +kernel)
theorem kL_8K : Cond.constant RL 8 2147483647 ∈ lw_tbl := lw_of (i := 402) (by decide +kernel)
theorem kL_9K : Cond.constantLong RL 9 101 ∈ lw_tbl := lw_of (i := 406) (by decide +kernel)
theorem kL_11K : Cond.constantLong RL 11 31 ∈ lw_tbl := lw_of (i := 407) (by decide +kernel)
theorem kL_13M : Cond.methodLink RL 13 yX8_count ∈ lw_tbl := lw_of (i := 342) (by decide +kernel)
theorem kL_14C : Cond.classLink RL 14 "BitumenNeedle" ∈ lw_tbl := lw_of (i := 19) (by decide +kernel)
theorem kL_19M : Cond.methodLink RL 19 yX8_drumOf ∈ lw_tbl := lw_of (i := 408) (by decide +kernel)
theorem kL_23M : Cond.methodLink RL 23 yX8_sampleOf ∈ lw_tbl := lw_of (i := 477) (by decide +kernel)
theorem kL_26M : Cond.methodLink RL 26 yX8_reading ∈ lw_tbl := lw_of (i := 490) (by decide +kernel)
theorem kL_30M : Cond.methodLink RL 30 yX8_needle ∈ lw_tbl := lw_of (i := 496) (by decide +kernel)
theorem kL_33M : Cond.methodLink RL 33 yX8_bathOf ∈ lw_tbl := lw_of (i := 504) (by decide +kernel)
theorem kL_36M : Cond.methodLink RL 36 yX8_stopped ∈ lw_tbl := lw_of (i := 528) (by decide +kernel)
theorem kL_39M : Cond.methodLink RL 39 yL_up ∈ lw_tbl := lw_of (i := 399) (by decide +kernel)
theorem kL_44M : Cond.methodLink RL 44 yX8_drum ∈ lw_tbl := lw_of (i := 535) (by decide +kernel)
theorem kL_47M : Cond.methodLink RL 47 yX8_sample ∈ lw_tbl := lw_of (i := 560) (by decide +kernel)
theorem kL_50M : Cond.methodLink RL 50 yX8_age ∈ lw_tbl := lw_of (i := 581) (by decide +kernel)
theorem kL_53M : Cond.methodLink RL 53 yX8_toss ∈ lw_tbl := lw_of (i := 590) (by decide +kernel)
theorem kL_56M : Cond.methodLink RL 56 yX8_renew ∈ lw_tbl := lw_of (i := 598) (by decide +kernel)
theorem kL_59M : Cond.methodLink RL 59 yX8_warm ∈ lw_tbl := lw_of (i := 606) (by decide +kernel)
theorem kL_62M : Cond.methodLink RL 62 yX8_bath ∈ lw_tbl := lw_of (i := 610) (by decide +kernel)
theorem kL_65M : Cond.methodLink RL 65 yX8_pass ∈ lw_tbl := lw_of (i := 630) (by decide +kernel)
theorem kL_68M : Cond.methodLink RL 68 yX8_ring ∈ lw_tbl := lw_of (i := 645) (by decide +kernel)
theorem kL_71M : Cond.methodLink RL 71 yX8_noSale ∈ lw_tbl := lw_of (i := 657) (by decide +kernel)
theorem kL_74M : Cond.methodLink RL 74 yX8_sell ∈ lw_tbl := lw_of (i := 678) (by decide +kernel)
theorem kL_77M : Cond.methodLink RL 77 yX8_set ∈ lw_tbl := lw_of (i := 685) (by decide +kernel)
theorem kL_80M : Cond.methodLink RL 80 yX8_restore ∈ lw_tbl := lw_of (i := 691) (by decide +kernel)
theorem kL_84M : Cond.methodLink RL 84 yX8_noSink ∈ lw_tbl := lw_of (i := 696) (by decide +kernel)
theorem kL_87M : Cond.methodLink RL 87 yX8_sink ∈ lw_tbl := lw_of (i := 704) (by decide +kernel)
theorem kL_91M : Cond.methodLink RL 91 yX8_readyIn ∈ lw_tbl := lw_of (i := 742) (by decide +kernel)
theorem kL_94M : Cond.methodLink RL 94 yX8_bestBath ∈ lw_tbl := lw_of (i := 754) (by decide +kernel)
theorem kL_97M : Cond.methodLink RL 97 yL_bits ∈ lw_tbl := lw_of (i := 736) (by decide +kernel)
theorem kL_100M : Cond.methodLink RL 100 yL_isDrum ∈ lw_tbl := lw_of (i := 733) (by decide +kernel)
theorem kL_104M : Cond.methodLink RL 104 yL_isSample ∈ lw_tbl := lw_of (i := 739) (by decide +kernel)
theorem kL_107M : Cond.methodLink RL 107 yX8_readShare ∈ lw_tbl := lw_of (i := 762) (by decide +kernel)
theorem kL_111M : Cond.methodLink RL 111 yL_looks ∈ lw_tbl := lw_of (i := 403) (by decide +kernel)
theorem kL_115M : Cond.methodLink RL 115 yX8_ifSunk ∈ lw_tbl := lw_of (i := 770) (by decide +kernel)
theorem kL_118M : Cond.methodLink RL 118 yX8_secondsTo ∈ lw_tbl := lw_of (i := 775) (by decide +kernel)
theorem kL_121M : Cond.methodLink RL 121 yX8_undo ∈ lw_tbl := lw_of (i := 242) (by decide +kernel)
theorem kL_124M : Cond.methodLink RL 124 yX8_init ∈ lw_tbl := lw_of (i := 21) (by decide +kernel)
theorem kL_125M : Cond.methodLink RL 125 yX8_keep ∈ lw_tbl := lw_of (i := 337) (by decide +kernel)
theorem kL_128M : Cond.methodLink RL 128 yL_holds ∈ lw_tbl := lw_of (i := 730) (by decide +kernel)
theorem kL_132M : Cond.methodLink RL 132 yL_cell ∈ lw_tbl := lw_of (i := 395) (by decide +kernel)
theorem kL_136M : Cond.methodLink RL 136 yL_act ∈ lw_tbl := lw_of (i := 532) (by decide +kernel)
theorem kL_140M : Cond.methodLink RL 140 yL_isAhead ∈ lw_tbl := lw_of (i := 767) (by decide +kernel)
