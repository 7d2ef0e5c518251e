/-! THE NEW CLASS AS CALLS SEE IT -/
def pl (j : Nat) : Nat := if j < 12 then j else if j < 20 then 12 + 2 * (j - 12) else if j < 28 then 13 + 2 * (j - 20) else j
def pm (i : Nat) : Nat := if i < 31 then 1 + pl i else if i < 217 then 32 + (33 + 31 * ((i - 31) / 31) + pl ((i - 31) % 31)) else if i < 248 then 32 + (2 + pl (i - 217)) else if i = 248 then 251 else if i = 249 then 252 else if i = 250 then 253 else if i = 251 then 254 else if i = 252 then 32 else if i = 253 then 33 else 0
def pmI : List Nat := (List.range 255).map (fun t => ((List.range 255).find? (fun i => pm i == t)).getD 999)
theorem pm_all : ((List.range 255).all fun i => decide (pm i < 255) && (pmI.getD (pm i) 999 == i)) = true := by decide +kernel
theorem pm_lt {i : Nat} (h : i < 255) : pm i < 255 := by
  have := List.all_eq_true.mp pm_all i (List.mem_range.mpr h)
  simp only [Bool.and_eq_true, decide_eq_true_eq] at this
  exact this.1
theorem pm_inj {i j : Nat} (hi : i < 255) (hj : j < 255) (e : pm i = pm j) : i = j := by
  have h1 := List.all_eq_true.mp pm_all i (List.mem_range.mpr hi)
  have h2 := List.all_eq_true.mp pm_all j (List.mem_range.mpr hj)
  simp only [Bool.and_eq_true, decide_eq_true_eq, beq_iff_eq] at h1 h2
  rw [← h1.2, e, h2.2]
theorem big_of (w : Nat → Nat) : ∀ n, ∃ B, ∀ t, t < n → w t < B
  | 0 => ⟨0, fun t h => by omega⟩
  | n + 1 => by
    obtain ⟨B, h⟩ := big_of w n
    refine ⟨B + w n + 1, fun t ht => ?_⟩
    by_cases c : t = n
    · rw [c]; omega
    · have := h t (by omega); omega
theorem LC.lab {M : Mem} {ad v : Nat → Nat} {c : Nat} {g : Nat → Int32} (h : LC M v 6 8 3) (e : ∀ j, j < 31 → ad (c + j) = v (pl j)) (g3 : g 3 = 0) (g4 : g 4 = 0) (g8 : g 8 = -1) (g9 : g 9 = -1) (gd : ∀ b, b < 3 → fFirst 0 b = g (28 + b)) (gs : ∀ i, i < 3 → fFirst 1 i = g (5 + i)) (gn : ∀ j, 31 ≤ j → j < 40 → g j = 0) : LabAt M ad c g 0 0 (fun k => k) := by
  obtain ⟨h0, ⟨f1, a1, b1⟩, ⟨f2, a2, b2⟩, ⟨f3, a3, b3⟩, h4, h5, h6, h7, h8⟩ := h
  have e0 : ad c = v 0 := e 0 (by omega)
  have el : ∀ j, j < 12 → ad (c + j) = v j := fun j hj => by rw [e j (by omega)]; unfold pl; rw [if_pos hj]
  have es : ∀ k, k < 8 → ad (c + 12 + k) = v (12 + 2 * k) := fun k hk => by rw [show c + 12 + k = c + (12 + k) by omega, e _ (by omega)]; unfold pl; rw [if_neg (by omega), if_pos (by omega), show 12 + k - 12 = k by omega]
  have em : ∀ k, k < 8 → ad (c + 20 + k) = v (13 + 2 * k) := fun k hk => by rw [show c + 20 + k = c + (20 + k) by omega, e _ (by omega)]; unfold pl; rw [if_neg (by omega), if_neg (by omega), if_pos (by omega), show 20 + k - 20 = k by omega]
  have en : ∀ i, i < 3 → ad (c + 28 + i) = v (28 + i) := fun i hi => by rw [show c + 28 + i = c + (28 + i) by omega, e _ (by omega)]; unfold pl; rw [if_neg (by omega), if_neg (by omega), if_neg (by omega)]
  have ed : ∀ d, d < 6 → ad (c + 6 + d) = v (6 + d) := fun d hd => by rw [show c + 6 + d = c + (6 + d) by omega]; exact el _ (by omega)
  refine ⟨?_, ⟨f1, ?_, fun d hd => ?_⟩, ⟨f2, ?_, fun k hk => ?_⟩, ⟨f3, ?_, fun i hi => ?_⟩, ⟨fFirst 0, ?_, gd⟩, ⟨fFirst 1, ?_, gs⟩, fun d hd => ?_, fun d hd => by omega, fun k hk => ?_, fun k hk => by omega, fun i hi => ?_, fun k hk => hk, fun j k _ _ z => z, by omega, by omega⟩
  · rw [e0, el 1 (by omega), el 2 (by omega), el 3 (by omega), el 4 (by omega), el 5 (by omega), g3, g4, g8, g9]; exact h0
  · rw [el 1 (by omega)]; exact a1
  · rw [ed d hd]; exact b1 d hd
  · rw [el 2 (by omega)]; exact a2
  · rw [es k hk]; exact b2 k hk
  · rw [el 3 (by omega)]; exact a3
  · rw [en i hi]; exact b3 i hi
  · rw [el 4 (by omega)]; exact h4
  · rw [el 5 (by omega)]; exact h5
  · rw [ed d hd]; exact ⟨_, _, _, h6 d hd⟩
  · rw [es k hk, em k hk]; exact ⟨_, _, _, _, _, _, _, (h7 k hk).1, (h7 k hk).2⟩
  · show M (ad (c + 28 + i)) = _
    rw [en i hi, gn _ (by omega) (by omega), gn _ (by omega) (by omega), gn _ (by omega) (by omega)]; exact h8 i hi
theorem gI_z {j : Nat} (h : 10 ≤ j) (h2 : j < 28 ∨ 31 ≤ j) : gI j = 0 := by
  unfold gI
  rw [if_neg (by omega), if_neg (by omega), if_neg (by omega), if_neg (by omega), if_neg (by omega), if_neg (by omega), if_neg (by omega), if_neg (by omega)]
theorem gI_d : ∀ b, b < 3 → fFirst 0 b = gI (28 + b)
  | 0, _ => rfl
  | 1, _ => rfl
  | 2, _ => rfl
  | b + 3, h => by omega
theorem gI_s : ∀ b, b < 3 → fFirst 1 b = gI (5 + b)
  | 0, _ => rfl
  | 1, _ => rfl
  | 2, _ => rfl
  | b + 3, h => by omega
theorem BI_gI : BI gI 0 0 := by
  refine ⟨rfl, by omega, rfl, by omega, fun d hd => by omega, fun k hk => by omega, fun k hk => by omega, fun i hi => ⟨⟨0, by omega, gI_z (by omega) (by omega)⟩, Or.inl (gI_z (by omega) (by omega))⟩, rfl, fun b hb => ?_, ⟨5, by omega, rfl⟩, ⟨12, by omega, rfl⟩, ⟨8, by omega, rfl⟩⟩
  match b, hb with
  | 0, _ => exact ⟨150, by omega, rfl⟩
  | 1, _ => exact ⟨250, by omega, rfl⟩
  | 2, _ => exact ⟨350, by omega, rfl⟩
  | b + 3, h => omega
