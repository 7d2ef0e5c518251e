/-! THE LAW'S ENTRY -/
theorem len_3 {args : Array Value} {s : State} {tm : Term} {a : Addr} {cell : Cell} (h : (Term.length tm).eval args s none [] s = some (.int 3)) (ht : tm.eval args s none [] s = some (.ref a)) (hc : s.heap[a]? = some cell) : cell.slots.size = 3 := by
  obtain ⟨a', cell', ht', hat, hv⟩ := Term.length_spec h
  cases ht.symm.trans ht'
  obtain ⟨hc', -⟩ := State.arrayAt?_spec hat
  cases hc.symm.trans hc'
  by_cases hlt : cell.slots.size < 2 ^ 31
  · have hv2 : (3 : Int32) = Int32.ofNat cell.slots.size := by injection hv
    have h3 := congrArg Int32.toInt hv2
    have h4 : (Int32.ofNat cell.slots.size).toInt = (cell.slots.size : Int) := nI_toInt hlt
    have h5 : (3 : Int32).toInt = 3 := by decide
    rw [h4, h5] at h3
    omega
  · simp only [Term.eval, ht, hat, Option.bind_eq_bind, Option.bind_some] at h
    rw [if_neg hlt] at h
    cases h
theorem stat_arr {args : Array Value} {s : State} {n : String} {x y z : Int32} {F : Nat → Value} (hl : (Cond.laysStatic "BitumenNeedle" n "[I").before args s = true) (hini : (Cond.initialized "BitumenNeedle").before args s = true)
    (ha : (Cond.arrayOf (.static "BitumenNeedle" n "[I") .int).before args s = true) (hlen : (Cond.eq (.length (.static "BitumenNeedle" n "[I")) (.int 3)).before args s = true)
    (h0 : (Cond.eq (.elem (.static "BitumenNeedle" n "[I") (.int 0)) (.int x)).before args s = true) (h1 : (Cond.eq (.elem (.static "BitumenNeedle" n "[I") (.int 1)) (.int y)).before args s = true) (h2 : (Cond.eq (.elem (.static "BitumenNeedle" n "[I") (.int 2)) (.int z)).before args s = true)
    (hF : F 0 = .int x ∧ F 1 = .int y ∧ F 2 = .int z) :
    ∃ t : Nat, va_Z "BitumenNeedle" n "[I" (.ref t) (fA s.heap.size) s s.heap ∧ va_T .int t 3 F (fA s.heap.size) s s.heap ∧ ((Cond.exactly (.static "BitumenNeedle" n "[I") "[I").before args s = true → fEx t s s.heap) := by
  have hA : ∀ a : Nat, a < s.heap.size → ¬ fA s.heap.size a := fun a g1 g2 => Nat.not_le.mpr g1 g2
  have hlen' := va_eqt hlen
  obtain ⟨t, ht, hT⟩ := va_Tof (N := 3) (f := F) (A := fA s.heap.size) (by decide) ha hlen' (fun j hj => by
    match j, hj with
    | 0, _ => rw [hF.1]; exact va_eqt h0
    | 1, _ => rw [hF.2.1]; exact va_eqt h1
    | 2, _ => rw [hF.2.2]; exact va_eqt h2
    | j + 3, hj => omega) hA
  refine ⟨t, va_Zref hl hini ht hA, hT, fun hx cell hc => ?_⟩
  obtain ⟨a', c', cell', k', q1, q2, q3, q4, q5, q6, -⟩ := Cond.exactly_spec hx
  cases ht.symm.trans q1
  cases hc.symm.trans q3
  exact ⟨len_3 hlen' ht hc, by rw [q2, q6]⟩
def sT (i : Nat) : Term := Term.string ((fStr.getD i ("", 0, "", 0)).1) ((fStr.getD i ("", 0, "", 0)).2.1)
theorem law_env {args : Array Value} {s : State} {b L : Nat} {xs : Nat → Int32} (hts : ∀ w ∈ lw_tbl, w.before args s = true) (hX : va_X b L xs s s.heap) (hb : b < s.heap.size) (hgv : (Jvm.Cond.and given_1 narrow_1).before args s = true) : ∃ κ : KP, kO κ = s.heap.size ∧ kB κ = b ∧ kL κ = L ∧ kX κ = xs ∧ fZ κ s s.heap ∧ fN κ s := by
  have hA : ∀ a : Nat, a < s.heap.size → ¬ fA s.heap.size a := fun a g1 g2 => Nat.not_le.mpr g1 g2
  have hs := flat_of_before _ hgv
  have T : ∀ {w : Cond} {i : Nat}, tables_1[i]? = some w → w.before args s = true := fun h => hts _ (lw_of h)
  obtain ⟨t0, z0, a0, x0⟩ := stat_arr (args := args) (s := s) (n := "FIRST_DEGREES") (F := fun j => .int ([150, 250, 350].getD j 0)) (T (i := 40) (by decide +kernel)) (T (i := 1) (by decide +kernel)) (hs _ (by decide +kernel)) (hs _ (by decide +kernel)) (x := 150) (y := 250) (z := 350) (hs _ (by decide +kernel)) (hs _ (by decide +kernel)) (hs _ (by decide +kernel)) ⟨rfl, rfl, rfl⟩
  obtain ⟨t1, z1, a1, x1⟩ := stat_arr (args := args) (s := s) (n := "FIRST_SETTINGS") (F := fun j => .int ([5, 12, 8].getD j 0)) (T (i := 49) (by decide +kernel)) (T (i := 1) (by decide +kernel)) (hs _ (by decide +kernel)) (hs _ (by decide +kernel)) (x := 5) (y := 12) (z := 8) (hs _ (by decide +kernel)) (hs _ (by decide +kernel)) (hs _ (by decide +kernel)) ⟨rfl, rfl, rfl⟩
  obtain ⟨t2, z2, a2, x2⟩ := stat_arr (args := args) (s := s) (n := "MOST_OF_SETTING") (F := fun j => .int ([50, 100, 60].getD j 0)) (T (i := 690) (by decide +kernel)) (T (i := 1) (by decide +kernel)) (hs _ (by decide +kernel)) (hs _ (by decide +kernel)) (x := 50) (y := 100) (z := 60) (hs _ (by decide +kernel)) (hs _ (by decide +kernel)) (hs _ (by decide +kernel)) ⟨rfl, rfl, rfl⟩
  have y0 := x0 (hs _ (by decide +kernel))
  have y1 := x1 (hs _ (by decide +kernel))
  have hS := vk_Sof (args := args) (s := s) (N := 1) (tm := sT) (len := fLen) (byt := fByt) (A := fA s.heap.size)
    (fun i hi => by match i, hi with | 0, _ => decide | i + 1, h => omega)
    (fun i hi => by match i, hi with | 0, _ => exact hs _ (by decide +kernel) | i + 1, h => omega)
    (fun i hi => by match i, hi with | 0, _ => exact hs _ (by decide +kernel) | i + 1, h => omega)
    (fun i hi => by match i, hi with | 0, _ => exact hs _ (by decide +kernel) | i + 1, h => omega)
    (fun i hi => by match i, hi with | 0, _ => exact hs _ (by decide +kernel) | i + 1, h => omega)
    (fun i hi j hj => by
      match i, hi with
      | 0, _ => exact absurd hj (Nat.not_lt_zero j)
      | i + 1, h => omega)
    (fun i j hi hj hn => by omega) hA
  obtain ⟨adK, adV, hK, hKe⟩ := hS
  have hE : ∀ i, ∃ a : Nat, 1 ≤ i → i < 14 → (sT i).eval args s none [] s = some (.ref a) := fun i => by
    by_cases h6 : 1 ≤ i ∧ i < 14
    · have hx : (Cond.exactly (sT i) "java/lang/String").before args s = true := by
        obtain ⟨h6, h14⟩ := h6
        match i, h6, h14 with
        | 1, _, _ => exact hs _ (by decide +kernel)
        | 2, _, _ => exact hs _ (by decide +kernel)
        | 3, _, _ => exact hs _ (by decide +kernel)
        | 4, _, _ => exact hs _ (by decide +kernel)
        | 5, _, _ => exact hs _ (by decide +kernel)
        | 6, _, _ => exact hs _ (by decide +kernel)
        | 7, _, _ => exact hs _ (by decide +kernel)
        | 8, _, _ => exact hs _ (by decide +kernel)
        | 9, _, _ => exact hs _ (by decide +kernel)
        | 10, _, _ => exact hs _ (by decide +kernel)
        | 11, _, _ => exact hs _ (by decide +kernel)
        | 12, _, _ => exact hs _ (by decide +kernel)
        | 13, _, _ => exact hs _ (by decide +kernel)
        | i + 14, _, h => omega
      obtain ⟨a, -, -, -, q1, -⟩ := Cond.exactly_spec hx
      exact ⟨a, fun _ _ => q1⟩
    · exact ⟨0, fun h1 h2 => absurd ⟨h1, h2⟩ h6⟩
  let rK : Nat → Nat := fun i => if i < 1 then adK i else Classical.choose (hE i)
  have rK_lt : ∀ i, i < 1 → rK i = adK i := fun i hi => if_pos hi
  have rE : ∀ i, i < 14 → (sT i).eval args s none [] s = some (.ref (rK i)) := fun i hi => by
    by_cases c : i < 1
    · rw [rK_lt i c]; exact hKe i c
    · have : rK i = Classical.choose (hE i) := if_neg c
      rw [this]; exact Classical.choose_spec (hE i) (by omega) hi
  refine ⟨(s.heap.size, b, L, xs, rK, adV, fun i => if i = 0 then t0 else if i = 1 then t1 else t2), rfl, rfl, rfl, rfl, ⟨⟨hX, hb⟩, ⟨z0, a0, y0⟩, ⟨z1, a1, y1⟩, ⟨z2, a2⟩, ⟨vx_Zqof (T (i := 273) (by decide +kernel)) (T (i := 10) (by decide +kernel)) (hs _ (by decide +kernel)) hA, vx_Zqof (T (i := 275) (by decide +kernel)) (T (i := 10) (by decide +kernel)) (hs _ (by decide +kernel)) hA⟩, ⟨fun i hi => ?_, fun i j hi hj e => ?_⟩, trivial, trivial⟩, fun w hw hk => va_Nw.of (by cases w <;> first | rfl | cases hk) (hts w hw), fun C hC => ?_, fun q hq => ?_, fun q hq => ?_⟩
  · show va_O "java/lang/String" (rK i) _ _ _ ∧ va_OF _ _ _ _ (rK i) _ _ _ ∧ va_OF _ _ _ _ (rK i) _ _ _ ∧ _
    rw [rK_lt i hi]; exact hK.1 i hi
  · exact hK.2 i j hi hj (by rw [← rK_lt i hi, ← rK_lt j hj]; exact e)
  · simp only [List.mem_cons, List.not_mem_nil, or_false] at hC
    rcases hC with rfl | rfl | rfl | rfl
    · exact va_AO.of (T (i := 34) (by decide +kernel))
    · exact va_AO.of (T (i := 36) (by decide +kernel))
    · exact va_AO.of (T (i := 38) (by decide +kernel))
    · exact va_AO.of (T (i := 176) (by decide +kernel))
  · simp only [fStr, List.mem_cons, List.not_mem_nil, or_false] at hq
    rcases hq with rfl | rfl | rfl | rfl | rfl | rfl | rfl | rfl | rfl | rfl | rfl | rfl | rfl | rfl
    · exact vk_R.of (hts _ (by decide +kernel)) (rE 0 (by decide))
    · exact vk_R.of (hts _ (by decide +kernel)) (rE 0 (by decide))
    · exact vk_R.of (hts _ (by decide +kernel)) (rE 0 (by decide))
    · exact vk_R.of (hts _ (by decide +kernel)) (rE 0 (by decide))
    · exact vk_R.of (hts _ (by decide +kernel)) (rE 0 (by decide))
    · exact vk_R.of (hts _ (by decide +kernel)) (rE 0 (by decide))
    · exact vk_R.of (hts _ (by decide +kernel)) (rE 6 (by decide))
    · exact vk_R.of (hts _ (by decide +kernel)) (rE 7 (by decide))
    · exact vk_R.of (hts _ (by decide +kernel)) (rE 8 (by decide))
    · exact vk_R.of (hts _ (by decide +kernel)) (rE 9 (by decide))
    · exact vk_R.of (hts _ (by decide +kernel)) (rE 0 (by decide))
    · exact vk_R.of (hts _ (by decide +kernel)) (rE 11 (by decide))
    · exact vk_R.of (hts _ (by decide +kernel)) (rE 12 (by decide))
    · exact vk_R.of (hts _ (by decide +kernel)) (rE 13 (by decide))
  · simp only [fNcs, List.not_mem_nil] at hq
theorem fW_none {s : State} {args : Array Value} {o : Nat} (hts : ∀ w ∈ lw_tbl, w.before args s = true) : fW o s (fun _ => none) s.heap := by
  have hin : ∀ {C : String} {T : u_T} {N ci : Nat}, vwCl[ci]? = some (C, T, N) → Cond.instantiable C N ∈ lw_tbl → ∃ (cC : ClassId) (iS : Nat → Nat), u_Kn s C T N cC iS := fun hq hi => u_known hts (fun w hw => (List.mem_filter.mp (fWs_ok hq w hw)).1) (hts _ hi)
  obtain ⟨c0, i0, k0⟩ := hin (ci := 0) rfl kC_Drum
  obtain ⟨c1, i1, k1⟩ := hin (ci := 1) rfl kC_Hist
  obtain ⟨c2, i2, k2⟩ := hin (ci := 2) rfl kC_Lab
  obtain ⟨c3, i3, k3⟩ := hin (ci := 3) rfl kC_Need
  obtain ⟨c4, i4, k4⟩ := hin (ci := 4) rfl kC_Text
  obtain ⟨c5, i5, k5⟩ := hin (ci := 5) rfl kC_Part
  obtain ⟨c6, i6, k6⟩ := hin (ci := 6) rfl kC_Spec
  obtain ⟨c7, i7, k7⟩ := hin (ci := 7) rfl kC_Bit
  refine ⟨fun k => [c0, c1, c2, c3, c4, c5, c6, c7].getD k c0, fun k => [i0, i1, i2, i3, i4, i5, i6, i7].getD k i0, [], [], ⟨fun c q hq => ?_, fun k q h => by simp at h⟩, fun k q h => by simp at h, ⟨fun i j p q h => by simp at h, fun k q h => by simp at h⟩, fun a c h => by cases h⟩
  match c, hq with
  | 0, hq => cases hq; exact k0
  | 1, hq => cases hq; exact k1
  | 2, hq => cases hq; exact k2
  | 3, hq => cases hq; exact k3
  | 4, hq => cases hq; exact k4
  | 5, hq => cases hq; exact k5
  | 6, hq => cases hq; exact k6
  | 7, hq => cases hq; exact k7
  | c + 8, hq => cases hq
