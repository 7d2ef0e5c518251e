/-! THE START -/
theorem fW_none {s : State} {args : Array Value} {o : Nat} (hts : ∀ w ∈ lw_tbl, w.before args s = true) : fW o s (fun _ => none) s.heap := by
  have hin : ∀ {C : String} {T : u_T} {N ci : Nat}, vwCl[ci]? = some (C, T, N) → Cond.instantiable C N ∈ lw_tbl → ∃ (cC : ClassId) (iS : Nat → Nat), u_Kn s C T N cC iS := fun hq hi => u_known hts (fun w hw => (List.mem_filter.mp (fWs_ok hq w hw)).1) (hts _ hi)
  obtain ⟨c0, i0, k0⟩ := hin (ci := 0) rfl kC_Drum
  obtain ⟨c1, i1, k1⟩ := hin (ci := 1) rfl kC_Hist
  obtain ⟨c2, i2, k2⟩ := hin (ci := 2) rfl kC_Lab
  obtain ⟨c3, i3, k3⟩ := hin (ci := 3) rfl kC_Need
  obtain ⟨c4, i4, k4⟩ := hin (ci := 4) rfl kC_Text
  obtain ⟨c5, i5, k5⟩ := hin (ci := 5) rfl kC_Part
  obtain ⟨c6, i6, k6⟩ := hin (ci := 6) rfl kC_Spec
  obtain ⟨c7, i7, k7⟩ := hin (ci := 7) rfl kC_Bit
  obtain ⟨c8, i8, k8⟩ := hin (ci := 8) rfl kC_Mod
  refine ⟨fun k => [c0, c1, c2, c3, c4, c5, c6, c7, c8].getD k c0, fun k => [i0, i1, i2, i3, i4, i5, i6, i7, i8].getD k i0, [], [], ⟨fun c q hq => ?_, fun k q h => by simp at h⟩, fun k q h => by simp at h, ⟨fun i j p q h => by simp at h, fun k q h => by simp at h⟩, fun a c h => by cases h⟩
  match c, hq with
  | 0, hq => cases hq; exact k0
  | 1, hq => cases hq; exact k1
  | 2, hq => cases hq; exact k2
  | 3, hq => cases hq; exact k3
  | 4, hq => cases hq; exact k4
  | 5, hq => cases hq; exact k5
  | 6, hq => cases hq; exact k6
  | 7, hq => cases hq; exact k7
  | 8, hq => cases hq; exact k8
  | c + 9, hq => cases hq
theorem no_traces {l : Launch} (hflags : l.flags = flags0) : l.stackTraces = false := by
  show (!l.flags.contains Jvm.noTraceFlag) = false
  rw [hflags]
  simp [flags0]
/-- YOUR PART: from the entry, for every script of at most 2560 ints, the law comes to its end with true ('hflags': the launch's flags, for a law that throws: no stack traces) -/
theorem whole_start {p : Program} {e : Env} {s : State} {m : MethodId} {below : List Frame} {meth : Method} {c : Code} (l : Launch) (hflags : l.flags = flags0) {b L : Nat} {xs : Nat → Int32} (hL : L ≤ 2560) (C0 : lw_At p s m meth c b L xs) : W p l e room_1 s m #[Value.ref b] below meth c s.heap [] 0 0 (lw_Z below #[Value.ref b] s) (entryFrame m ([Value.ref b] : List Value).toArray 9) := by
  obtain ⟨hx, hb, hr, hml, hown, hts, hX, hbl, hlocks, hgv⟩ := id C0
  obtain ⟨κ, e1, e2, e3, -, hZ, hN⟩ := law_env hts hX hbl hgv
  have C1 : fC l κ (mL_law meth.name (c.exceptionTable.toList.map fun h => (h.startPc, h.endPc, h.handlerPc, h.catchType))) p e s m #[Value.ref b] meth c :=
    ⟨no_traces hflags, hx, hb, hr, hml, hown, fun w hw => hts w (List.mem_filter.mp hw).1, hlocks, rfl, (table_eq _).symm, hZ, hN, Nat.le_of_eq e1⟩
  have hl : lv_has ((lg_sl [Value.ref b] ++ List.replicate (9 - (lg_sl [Value.ref b]).length) Slot.unset).toArray) 9 (lv_args 0 [Value.ref b]) := lv_entry [Value.ref b] (by first | (show (1 : Nat) ≤ 9; decide) | simp [lg_sl, Value.category])
  have hl2 : lv_has ((lg_sl [Value.ref b] ++ List.replicate (9 - (lg_sl [Value.ref b]).length) Slot.unset).toArray) 9 [(0, .ref (kB κ))] := by rw [e2]; exact hl
  have K := law_body (nm := meth.name) (hh := c.exceptionTable.toList.map fun h => (h.startPc, h.endPc, h.handlerPc, h.catchType)) (l := l) (κ := κ) (by rw [e3]; exact hL) p e s m #[Value.ref b] below meth c C1 s.heap [] 0 0 _ (fW_none hts) va_S.rf hl2 (Nat.le_of_eq (Nat.zero_add _)) (Nat.le_of_eq (Nat.zero_add _))
  rw [lg_entry_eq]
  intro T hT X
  obtain ⟨t, a1, o, b1, b2, b3⟩ := K T hT X
  refine ⟨t, a1, o, b1, b2, ?_⟩
  rcases b3 with ⟨⟨⟨v, M', h1, h2, h3⟩, h4⟩, Lc, ⟨g1, g2, g3⟩, hLc⟩ | ⟨q, h0, E, ce, Lc, ⟨⟨M', h1, h2⟩, h3⟩, h4⟩
  · cases h2
    refine ⟨h1, lw_closed (d0 := s.drawn) (Drawn.sameBut.refl s.drawn lw_cs) ⟨_, h1⟩ g2 ?_⟩
    exact State.sameButNew.drop_fresh (L := []) g3 (fun x hx => Nat.le_trans (Nat.le_of_eq e1.symm) (hLc x hx))
  · cases h1
