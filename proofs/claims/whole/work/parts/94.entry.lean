/-! THE LAW'S ENTRY -/
theorem len_3 {args : Array Value} {s : State} {tm : Term} {a : Addr} {cell : Cell} (h : (Term.length tm).eval args s none [] s = some (.int 3)) (ht : tm.eval args s none [] s = some (.ref a)) (hc : s.heap[a]? = some cell) : cell.slots.size = 3 := by
  obtain ⟨a', cell', ht', hat, hv⟩ := Term.length_spec h
  cases ht.symm.trans ht'
  obtain ⟨hc', -⟩ := State.arrayAt?_spec hat
  cases hc.symm.trans hc'
  by_cases hlt : cell.slots.size < 2 ^ 31
  · have hv2 : (3 : Int32) = Int32.ofNat cell.slots.size := by injection hv
    have h3 := congrArg Int32.toInt hv2
    have h4 : (Int32.ofNat cell.slots.size).toInt = (cell.slots.size : Int) := nI_toInt hlt
    have h5 : (3 : Int32).toInt = 3 := by decide
    rw [h4, h5] at h3
    omega
  · simp only [Term.eval, ht, hat, Option.bind_eq_bind, Option.bind_some] at h
    rw [if_neg hlt] at h
    cases h
theorem stat_arr {args : Array Value} {s : State} {n : String} {x y z : Int32} {F : Nat → Value} (hl : (Cond.laysStatic "BitumenNeedle" n "[I").before args s = true) (hini : (Cond.initialized "BitumenNeedle").before args s = true)
    (ha : (Cond.arrayOf (.static "BitumenNeedle" n "[I") .int).before args s = true) (hlen : (Cond.eq (.length (.static "BitumenNeedle" n "[I")) (.int 3)).before args s = true)
    (h0 : (Cond.eq (.elem (.static "BitumenNeedle" n "[I") (.int 0)) (.int x)).before args s = true) (h1 : (Cond.eq (.elem (.static "BitumenNeedle" n "[I") (.int 1)) (.int y)).before args s = true) (h2 : (Cond.eq (.elem (.static "BitumenNeedle" n "[I") (.int 2)) (.int z)).before args s = true)
    (hF : F 0 = .int x ∧ F 1 = .int y ∧ F 2 = .int z) :
    ∃ t : Nat, va_Z "BitumenNeedle" n "[I" (.ref t) (fA s.heap.size) s s.heap ∧ va_T .int t 3 F (fA s.heap.size) s s.heap ∧ ((Cond.exactly (.static "BitumenNeedle" n "[I") "[I").before args s = true → fEx t s s.heap) := by
  have hA : ∀ a : Nat, a < s.heap.size → ¬ fA s.heap.size a := fun a g1 g2 => Nat.not_le.mpr g1 g2
  have hlen' := va_eqt hlen
  obtain ⟨t, ht, hT⟩ := va_Tof (N := 3) (f := F) (A := fA s.heap.size) (by decide) ha hlen' (fun j hj => by
    match j, hj with
    | 0, _ => rw [hF.1]; exact va_eqt h0
    | 1, _ => rw [hF.2.1]; exact va_eqt h1
    | 2, _ => rw [hF.2.2]; exact va_eqt h2
    | j + 3, hj => omega) hA
  refine ⟨t, va_Zref hl hini ht hA, hT, fun hx cell hc => ?_⟩
  obtain ⟨a', c', cell', k', q1, q2, q3, q4, q5, q6, -⟩ := Cond.exactly_spec hx
  cases ht.symm.trans q1
  cases hc.symm.trans q3
  exact ⟨len_3 hlen' ht hc, by rw [q2, q6]⟩
def sT (i : Nat) : Term := Term.string ((fStr.getD i ("", 0, "", 0)).1) ((fStr.getD i ("", 0, "", 0)).2.1)
theorem law_env {args : Array Value} {s : State} {b L : Nat} {xs : Nat → Int32} (hts : ∀ w ∈ lw_tbl, w.before args s = true) (hX : va_X b L xs s s.heap) (hb : b < s.heap.size) (hgv : (Jvm.Cond.and given_1 narrow_1).before args s = true) : ∃ κ : KP, kO κ = s.heap.size ∧ kB κ = b ∧ kL κ = L ∧ kX κ = xs ∧ fZ κ s s.heap ∧ fN κ s := by
  have hA : ∀ a : Nat, a < s.heap.size → ¬ fA s.heap.size a := fun a g1 g2 => Nat.not_le.mpr g1 g2
  have hs := flat_of_before _ hgv
  have T : ∀ {w : Cond} {i : Nat}, tables_1[i]? = some w → w.before args s = true := fun h => hts _ (lw_of h)
  obtain ⟨t0, z0, a0, x0⟩ := stat_arr (args := args) (s := s) (n := "FIRST_DEGREES") (F := fun j => .int ([150, 250, 350].getD j 0)) (T (i := 45) (by decide +kernel)) (T (i := 1) (by decide +kernel)) (hs _ (by decide +kernel)) (hs _ (by decide +kernel)) (x := 150) (y := 250) (z := 350) (hs _ (by decide +kernel)) (hs _ (by decide +kernel)) (hs _ (by decide +kernel)) ⟨rfl, rfl, rfl⟩
  obtain ⟨t1, z1, a1, x1⟩ := stat_arr (args := args) (s := s) (n := "FIRST_SETTINGS") (F := fun j => .int ([5, 12, 8].getD j 0)) (T (i := 54) (by decide +kernel)) (T (i := 1) (by decide +kernel)) (hs _ (by decide +kernel)) (hs _ (by decide +kernel)) (x := 5) (y := 12) (z := 8) (hs _ (by decide +kernel)) (hs _ (by decide +kernel)) (hs _ (by decide +kernel)) ⟨rfl, rfl, rfl⟩
  obtain ⟨t2, z2, a2, x2⟩ := stat_arr (args := args) (s := s) (n := "MOST_OF_SETTING") (F := fun j => .int ([50, 100, 60].getD j 0)) (T (i := 871) (by decide +kernel)) (T (i := 1) (by decide +kernel)) (hs _ (by decide +kernel)) (hs _ (by decide +kernel)) (x := 50) (y := 100) (z := 60) (hs _ (by decide +kernel)) (hs _ (by decide +kernel)) (hs _ (by decide +kernel)) ⟨rfl, rfl, rfl⟩
  have y0 := x0 (hs _ (by decide +kernel))
  have y1 := x1 (hs _ (by decide +kernel))
  have hS := vk_Sof (args := args) (s := s) (N := 6) (tm := sT) (len := fLen) (byt := fByt) (A := fA s.heap.size)
    (fun i hi => by match i, hi with | 0, _ => decide | 1, _ => decide | 2, _ => decide | 3, _ => decide | 4, _ => decide | 5, _ => decide | i + 6, h => omega)
    (fun i hi => by match i, hi with | 0, _ => exact hs _ (by decide +kernel) | 1, _ => exact hs _ (by decide +kernel) | 2, _ => exact hs _ (by decide +kernel) | 3, _ => exact hs _ (by decide +kernel) | 4, _ => exact hs _ (by decide +kernel) | 5, _ => exact hs _ (by decide +kernel) | i + 6, h => omega)
    (fun i hi => by match i, hi with | 0, _ => exact hs _ (by decide +kernel) | 1, _ => exact hs _ (by decide +kernel) | 2, _ => exact hs _ (by decide +kernel) | 3, _ => exact hs _ (by decide +kernel) | 4, _ => exact hs _ (by decide +kernel) | 5, _ => exact hs _ (by decide +kernel) | i + 6, h => omega)
    (fun i hi => by match i, hi with | 0, _ => exact hs _ (by decide +kernel) | 1, _ => exact hs _ (by decide +kernel) | 2, _ => exact hs _ (by decide +kernel) | 3, _ => exact hs _ (by decide +kernel) | 4, _ => exact hs _ (by decide +kernel) | 5, _ => exact hs _ (by decide +kernel) | i + 6, h => omega)
    (fun i hi => by match i, hi with | 0, _ => exact hs _ (by decide +kernel) | 1, _ => exact hs _ (by decide +kernel) | 2, _ => exact hs _ (by decide +kernel) | 3, _ => exact hs _ (by decide +kernel) | 4, _ => exact hs _ (by decide +kernel) | 5, _ => exact hs _ (by decide +kernel) | i + 6, h => omega)
    (fun i hi j hj => by
      match i, hi with
      | 0, _ => exact absurd hj (Nat.not_lt_zero j)
      | 1, _ => match j, hj with | 0, _ => exact hs _ (by decide +kernel) | j + 1, h => exact absurd h (by show ¬ j + 1 < 1; omega)
      | 2, _ => match j, hj with | 0, _ => exact hs _ (by decide +kernel) | 1, _ => exact hs _ (by decide +kernel) | j + 2, h => exact absurd h (by show ¬ j + 2 < 2; omega)
      | 3, _ => match j, hj with | 0, _ => exact hs _ (by decide +kernel) | 1, _ => exact hs _ (by decide +kernel) | 2, _ => exact hs _ (by decide +kernel) | 3, _ => exact hs _ (by decide +kernel) | 4, _ => exact hs _ (by decide +kernel) | 5, _ => exact hs _ (by decide +kernel) | j + 6, h => exact absurd h (by show ¬ j + 6 < 6; omega)
      | 4, _ => match j, hj with | 0, _ => exact hs _ (by decide +kernel) | j + 1, h => exact absurd h (by show ¬ j + 1 < 1; omega)
      | 5, _ => match j, hj with | 0, _ => exact hs _ (by decide +kernel) | j + 1, h => exact absurd h (by show ¬ j + 1 < 1; omega)
      | i + 6, h => omega)
    (fun i j hi hj hn => by
      match i, hi, j, hj, hn with
      | 0, _, 0, _, h => exact absurd rfl h
      | 0, _, 1, _, _ => exact Or.inl (hs _ (by decide +kernel))
      | 0, _, 2, _, _ => exact Or.inl (hs _ (by decide +kernel))
      | 0, _, 3, _, _ => exact Or.inl (hs _ (by decide +kernel))
      | 0, _, 4, _, _ => exact Or.inl (hs _ (by decide +kernel))
      | 0, _, 5, _, _ => exact Or.inl (hs _ (by decide +kernel))
      | 1, _, 0, _, _ => exact Or.inr (hs _ (by decide +kernel))
      | 1, _, 1, _, h => exact absurd rfl h
      | 1, _, 2, _, _ => exact Or.inl (hs _ (by decide +kernel))
      | 1, _, 3, _, _ => exact Or.inl (hs _ (by decide +kernel))
      | 1, _, 4, _, _ => exact Or.inl (hs _ (by decide +kernel))
      | 1, _, 5, _, _ => exact Or.inl (hs _ (by decide +kernel))
      | 2, _, 0, _, _ => exact Or.inr (hs _ (by decide +kernel))
      | 2, _, 1, _, _ => exact Or.inr (hs _ (by decide +kernel))
      | 2, _, 2, _, h => exact absurd rfl h
      | 2, _, 3, _, _ => exact Or.inl (hs _ (by decide +kernel))
      | 2, _, 4, _, _ => exact Or.inl (hs _ (by decide +kernel))
      | 2, _, 5, _, _ => exact Or.inl (hs _ (by decide +kernel))
      | 3, _, 0, _, _ => exact Or.inr (hs _ (by decide +kernel))
      | 3, _, 1, _, _ => exact Or.inr (hs _ (by decide +kernel))
      | 3, _, 2, _, _ => exact Or.inr (hs _ (by decide +kernel))
      | 3, _, 3, _, h => exact absurd rfl h
      | 3, _, 4, _, _ => exact Or.inl (hs _ (by decide +kernel))
      | 3, _, 5, _, _ => exact Or.inl (hs _ (by decide +kernel))
      | 4, _, 0, _, _ => exact Or.inr (hs _ (by decide +kernel))
      | 4, _, 1, _, _ => exact Or.inr (hs _ (by decide +kernel))
      | 4, _, 2, _, _ => exact Or.inr (hs _ (by decide +kernel))
      | 4, _, 3, _, _ => exact Or.inr (hs _ (by decide +kernel))
      | 4, _, 4, _, h => exact absurd rfl h
      | 4, _, 5, _, _ => exact Or.inl (hs _ (by decide +kernel))
      | 5, _, 0, _, _ => exact Or.inr (hs _ (by decide +kernel))
      | 5, _, 1, _, _ => exact Or.inr (hs _ (by decide +kernel))
      | 5, _, 2, _, _ => exact Or.inr (hs _ (by decide +kernel))
      | 5, _, 3, _, _ => exact Or.inr (hs _ (by decide +kernel))
      | 5, _, 4, _, _ => exact Or.inr (hs _ (by decide +kernel))
      | 5, _, 5, _, h => exact absurd rfl h
      | i + 6, h, _, _, _ => omega
      | _, _, j + 6, h, _ => omega) hA
  obtain ⟨adK, adV, hK, hKe⟩ := hS
  have hE : ∀ i, ∃ a : Nat, 6 ≤ i → i < 14 → (sT i).eval args s none [] s = some (.ref a) := fun i => by
    by_cases h6 : 6 ≤ i ∧ i < 14
    · have hx : (Cond.exactly (sT i) "java/lang/String").before args s = true := by
        obtain ⟨h6, h14⟩ := h6
        match i, h6, h14 with
        | 6, _, _ => exact hs _ (by decide +kernel)
        | 7, _, _ => exact hs _ (by decide +kernel)
        | 8, _, _ => exact hs _ (by decide +kernel)
        | 9, _, _ => exact hs _ (by decide +kernel)
        | 10, _, _ => exact hs _ (by decide +kernel)
        | 11, _, _ => exact hs _ (by decide +kernel)
        | 12, _, _ => exact hs _ (by decide +kernel)
        | 13, _, _ => exact hs _ (by decide +kernel)
        | i + 14, _, h => omega
      obtain ⟨a, -, -, -, q1, -⟩ := Cond.exactly_spec hx
      exact ⟨a, fun _ _ => q1⟩
    · exact ⟨0, fun h1 h2 => absurd ⟨h1, h2⟩ h6⟩
  let rK : Nat → Nat := fun i => if i < 6 then adK i else Classical.choose (hE i)
  have rK_lt : ∀ i, i < 6 → rK i = adK i := fun i hi => if_pos hi
  have rE : ∀ i, i < 14 → (sT i).eval args s none [] s = some (.ref (rK i)) := fun i hi => by
    by_cases c : i < 6
    · rw [rK_lt i c]; exact hKe i c
    · have : rK i = Classical.choose (hE i) := if_neg c
      rw [this]; exact Classical.choose_spec (hE i) (by omega) hi
  refine ⟨(s.heap.size, b, L, xs, rK, adV, fun i => if i = 0 then t0 else if i = 1 then t1 else t2), rfl, rfl, rfl, rfl, ⟨⟨hX, hb⟩, ⟨z0, a0, y0⟩, ⟨z1, a1, y1⟩, ⟨z2, a2⟩, ⟨vx_Zqof (T (i := 616) (by decide +kernel)) (T (i := 10) (by decide +kernel)) (hs _ (by decide +kernel)) hA, vx_Zqof (T (i := 618) (by decide +kernel)) (T (i := 10) (by decide +kernel)) (hs _ (by decide +kernel)) hA⟩, ⟨fun i hi => ?_, fun i j hi hj e => ?_⟩, ?_, ?_⟩, fun w hw hk => va_Nw.of (by cases w <;> first | rfl | cases hk) (hts w hw), fun C hC => ?_, fun q hq => ?_, fun q hq => ?_⟩
  · show va_O "java/lang/String" (rK i) _ _ _ ∧ va_OF _ _ _ _ (rK i) _ _ _ ∧ va_OF _ _ _ _ (rK i) _ _ _ ∧ _
    rw [rK_lt i hi]; exact hK.1 i hi
  · exact hK.2 i j hi hj (by rw [← rK_lt i hi, ← rK_lt j hj]; exact e)
  · exact va_Zof (T (i := 295) (by decide +kernel)) (T (i := 20) (by decide +kernel)) (va_eqt (hs _ (by decide +kernel))) hA
  · exact va_Zqof (T (i := 319) (by decide +kernel)) (T (i := 22) (by decide +kernel)) (hs _ (by decide +kernel)) hA
  · simp only [List.mem_cons, List.not_mem_nil, or_false] at hC
    rcases hC with rfl | rfl | rfl | rfl
    · exact va_AO.of (T (i := 39) (by decide +kernel))
    · exact va_AO.of (T (i := 41) (by decide +kernel))
    · exact va_AO.of (T (i := 43) (by decide +kernel))
    · exact va_AO.of (T (i := 182) (by decide +kernel))
  · simp only [fStr, List.mem_cons, List.not_mem_nil, or_false] at hq
    rcases hq with rfl | rfl | rfl | rfl | rfl | rfl | rfl | rfl | rfl | rfl | rfl | rfl | rfl | rfl
    · exact vk_R.of (hts _ (by decide +kernel)) (rE 0 (by decide))
    · exact vk_R.of (hts _ (by decide +kernel)) (rE 1 (by decide))
    · exact vk_R.of (hts _ (by decide +kernel)) (rE 2 (by decide))
    · exact vk_R.of (hts _ (by decide +kernel)) (rE 3 (by decide))
    · exact vk_R.of (hts _ (by decide +kernel)) (rE 4 (by decide))
    · exact vk_R.of (hts _ (by decide +kernel)) (rE 5 (by decide))
    · exact vk_R.of (hts _ (by decide +kernel)) (rE 6 (by decide))
    · exact vk_R.of (hts _ (by decide +kernel)) (rE 7 (by decide))
    · exact vk_R.of (hts _ (by decide +kernel)) (rE 8 (by decide))
    · exact vk_R.of (hts _ (by decide +kernel)) (rE 9 (by decide))
    · exact vk_R.of (hts _ (by decide +kernel)) (rE 10 (by decide))
    · exact vk_R.of (hts _ (by decide +kernel)) (rE 11 (by decide))
    · exact vk_R.of (hts _ (by decide +kernel)) (rE 12 (by decide))
    · exact vk_R.of (hts _ (by decide +kernel)) (rE 13 (by decide))
  · simp only [fNcs, List.mem_cons, List.not_mem_nil, or_false] at hq
    rcases hq with rfl | rfl | rfl | rfl | rfl | rfl
    · exact va_Nc.of (hs _ (by decide +kernel))
    · exact va_Nc.of (hs _ (by decide +kernel))
    · exact va_Nc.of (hs _ (by decide +kernel))
    · exact va_Nc.of (hs _ (by decide +kernel))
    · exact va_Nc.of (hs _ (by decide +kernel))
    · exact va_Nc.of (hs _ (by decide +kernel))
