theorem no_traces {l : Launch} (hflags : l.flags = flags0) : l.stackTraces = false := by
  show (!l.flags.contains Jvm.noTraceFlag) = false
  rw [hflags]
  simp [flags0]
/-- YOUR PART: from the entry, for every script of at most 260 ints, the law comes to its end with true ('hflags': the launch's flags, for a law that throws: no stack traces) -/
theorem whole_start {p : Program} {e : Env} {s : State} {m : MethodId} {below : List Frame} {meth : Method} {c : Code} (l : Launch) (hflags : l.flags = flags0) {b L : Nat} {xs : Nat → Int32} (hL : L ≤ 260) (C0 : lw_At p s m meth c b L xs) : W p l e room_1 s m #[Value.ref b] below meth c s.heap [] 0 0 (lw_Z below #[Value.ref b] s) (entryFrame m ([Value.ref b] : List Value).toArray 13) := by
  obtain ⟨hx, hb, hr, hml, hown, hts, hX, hbl, hlocks, hgv⟩ := id C0
  obtain ⟨κ, e1, e2, e3, -, hZ, hN⟩ := law_env hts hX hbl hgv
  have C1 : fC l κ (mL_law meth.name (c.exceptionTable.toList.map fun h => (h.startPc, h.endPc, h.handlerPc, h.catchType))) p e s m #[Value.ref b] meth c :=
    ⟨no_traces hflags, hx, hb, hr, hml, hown, fun w hw => hts w (List.mem_filter.mp hw).1, hlocks, rfl, (table_eq _).symm, hZ, hN, Nat.le_of_eq e1⟩
  have hl : lv_has ((lg_sl [Value.ref b] ++ List.replicate (13 - (lg_sl [Value.ref b]).length) Slot.unset).toArray) 13 (lv_args 0 [Value.ref b]) := lv_entry [Value.ref b] (by first | (show (1 : Nat) ≤ 13; decide) | simp [lg_sl, Value.category])
  have hl2 : lv_has ((lg_sl [Value.ref b] ++ List.replicate (13 - (lg_sl [Value.ref b]).length) Slot.unset).toArray) 13 [(0, .ref (kB κ))] := by rw [e2]; exact hl
  have K := law_body (nm := meth.name) (hh := c.exceptionTable.toList.map fun h => (h.startPc, h.endPc, h.handlerPc, h.catchType)) (l := l) (κ := κ) (by rw [e3]; exact hL) p e s m #[Value.ref b] below meth c C1 s.heap [] 0 0 _ (fW_none hts) va_S.rf hl2 (Nat.le_of_eq (Nat.zero_add _)) (Nat.le_of_eq (Nat.zero_add _))
  rw [lg_entry_eq]
  intro T hT X
  obtain ⟨t, a1, o, b1, b2, b3⟩ := K T hT X
  refine ⟨t, a1, o, b1, b2, ?_⟩
  rcases b3 with ⟨⟨⟨v, M', h1, h2, h3⟩, h4⟩, Lc, ⟨g1, g2, g3⟩, hLc⟩ | ⟨q, h0, E, ce, Lc, ⟨⟨M', h1, h2⟩, h3⟩, h4⟩
  · cases h2
    refine ⟨h1, lw_closed (d0 := s.drawn) (Drawn.sameBut.refl s.drawn lw_cs) ⟨_, h1⟩ g2 ?_⟩
    exact State.sameButNew.drop_fresh (L := []) g3 (fun x hx => Nat.le_trans (Nat.le_of_eq e1.symm) (hLc x hx))
  · cases h1
