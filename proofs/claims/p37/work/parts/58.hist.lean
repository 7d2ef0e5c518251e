/-! A SAMPLE THROWN AWAY; THE SAVED STATES -/
def tPi (π : Nat → Nat) (n k : Nat) : Nat → Nat := fun i => if k ≤ i ∧ i < n - 1 then π (i + 1) else if i = n - 1 then π k else π i
theorem tPi_lt {π : Nat → Nat} {n k : Nat} (hn : n ≤ 8) (hk : k < n) (h : ∀ i, i < 8 → π i < 8) : ∀ i, i < 8 → tPi π n k i < 8 := by
  intro i hi
  unfold tPi
  split
  · exact h _ (by omega)
  · split
    · exact h _ (by omega)
    · exact h _ hi
theorem tPi_inj {π : Nat → Nat} {n k : Nat} (hn : n ≤ 8) (hk : k < n) (h : ∀ i j, i < 8 → j < 8 → π i = π j → i = j) : ∀ i j, i < 8 → j < 8 → tPi π n k i = tPi π n k j → i = j := by
  intro i j hi hj e
  unfold tPi at e
  by_cases a : k ≤ i ∧ i < n - 1
  · rw [if_pos a] at e
    by_cases b : k ≤ j ∧ j < n - 1
    · rw [if_pos b] at e; have := h _ _ (by omega) (by omega) e; omega
    · rw [if_neg b] at e
      by_cases b2 : j = n - 1
      · rw [if_pos b2] at e; have := h _ _ (by omega) (by omega) e; omega
      · rw [if_neg b2] at e; have := h _ _ (by omega) (by omega) e; omega
  · rw [if_neg a] at e
    by_cases a2 : i = n - 1
    · rw [if_pos a2] at e
      by_cases b : k ≤ j ∧ j < n - 1
      · rw [if_pos b] at e; have := h _ _ (by omega) (by omega) e; omega
      · rw [if_neg b] at e
        by_cases b2 : j = n - 1
        · omega
        · rw [if_neg b2] at e; have := h _ _ (by omega) (by omega) e; omega
    · rw [if_neg a2] at e
      by_cases b : k ≤ j ∧ j < n - 1
      · rw [if_pos b] at e; have := h _ _ (by omega) (by omega) e; omega
      · rw [if_neg b] at e
        by_cases b2 : j = n - 1
        · rw [if_pos b2] at e; have := h _ _ (by omega) (by omega) e; omega
        · rw [if_neg b2] at e; exact h _ _ hi hj e
theorem W_toss {M M' : Mem} {ad : Nat → Nat} {c : Nat} {g : Nat → Int32} {dn n k : Nat} {π : Nat → Nat} (hA : aInj ad) (hc : c + 31 ≤ 256) (hL : LabAt M ad c g dn n π) (hI : BI g dn n) (hk : k < n) (hM : ∀ b, b ≠ ad c → b ≠ ad (c + 2) → M' b = M b)
    (ho : M' (ad c) = some (.inl (2, [.ref (ad (c + 1)), .ref (ad (c + 2)), .ref (ad (c + 3)), .ref (ad (c + 4)), .ref (ad (c + 5)), .int (nI dn), .int (nI (n - 1)), .int (g 3), .int (g 4), .int (g 8), .int (g 9)])))
    (hs : ∃ f, M' (ad (c + 2)) = some (.inr (4, 8, .inr (.inr (.inr (.inr f))))) ∧ ∀ i, i < 8 → f i = some (ad (c + 12 + tPi π n k i))) : LabAt M' ad c (pToss g n k) dn (n - 1) (tPi π n k) := by
  have hn := hL.nl
  obtain ⟨h1, ⟨f1, a1, b1⟩, -, ⟨f3, a3, b3⟩, ⟨f4, a4, b4⟩, ⟨f5, a5, b5⟩, h7, h8, h9, h10, h11, h12, h13, h14, h15⟩ := hL
  have m : ∀ t, t < 256 → t ≠ c → t ≠ c + 2 → M' (ad t) = M (ad t) := fun t q1 q2 q3 => hM _ (hA.ne q1 (by omega) q2) (hA.ne q1 (by omega) q3)
  have lo : ∀ j, j < 40 → j ≠ 1 → pToss g n k j = g j := fun j q1 q2 => pToss_lo q1 q2
  refine ⟨?_, ⟨f1, (m _ (by omega) (by omega) (by omega)).trans a1, b1⟩, hs, ⟨f3, (m _ (by omega) (by omega) (by omega)).trans a3, b3⟩, ⟨f4, (m _ (by omega) (by omega) (by omega)).trans a4, fun b hb => by rw [lo _ (by omega) (by omega)]; exact b4 b hb⟩, ⟨f5, (m _ (by omega) (by omega) (by omega)).trans a5, fun b hb => by rw [lo _ (by omega) (by omega)]; exact b5 b hb⟩, ?_, ?_, ?_, ?_, ?_, tPi_lt hn hk h12, tPi_inj hn hk h13, h14, by omega⟩
  · rw [lo 3 (by omega) (by omega), lo 4 (by omega) (by omega), lo 8 (by omega) (by omega), lo 9 (by omega) (by omega)]; exact ho
  · intro d hd; exact (h7 d hd).eq (m _ (by omega) (by omega) (by omega))
  · intro d hd
    show M' _ = _
    rw [lo _ (by omega) (by omega), lo _ (by omega) (by omega), lo _ (by omega) (by omega)]; exact (m _ (by omega) (by omega) (by omega)).trans (h8 d hd)
  · intro j hj; exact (h9 j hj).eq (m _ (by omega) (by omega) (by omega)) (m _ (by omega) (by omega) (by omega))
  · intro j hj
    have e : tPi π n k j = π (if j < k then j else j + 1) := by
      unfold tPi
      by_cases q : j < k
      · rw [if_pos q, if_neg (by omega), if_neg (by omega)]
      · rw [if_neg q, if_pos (by omega)]
    have hj' : (if j < k then j else j + 1) < n := by split <;> omega
    have := h12 (if j < k then j else j + 1) (by omega)
    rw [e]
    exact ((h10 _ hj').congr (fun w hw => pToss_of hn hj hw) (hI.k9 _ hj')).eq (m _ (by omega) (by omega) (by omega)) (m _ (by omega) (by omega) (by omega))
  · intro i hi
    show M' _ = _
    rw [lo _ (by omega) (by omega), lo _ (by omega) (by omega), lo _ (by omega) (by omega)]; exact (m _ (by omega) (by omega) (by omega)).trans (h11 i hi)
theorem lX2_toss {l : Launch} {κ : KP} {M : Mem} {ad : Nat → Nat} {c : Nat} {g : Nat → Int32} {dn n : Nat} {π : Nat → Nat} (hA : aInj ad) (hc : c + 31 ≤ 256) (hL : LabAt M ad c g dn n π) (hI : BI g dn n) {k : Nat} (hk : k < n) : ∀ (N p : Nat) (M1 : Mem) (f : Nat → Option Nat), n < N + p → k ≤ p → p ≤ n - 1 → (hM : ∀ b, b ≠ ad (c + 2) → M1 b = M b) → (hf : M1 (ad (c + 2)) = some (.inr (4, 8, .inr (.inr (.inr (.inr f)))))) → (hv : ∀ i, i < 8 → f i = some (ad (c + 12 + (if k ≤ i ∧ i < p then π (i + 1) else π i)))) → fR l κ mX2_throwAway 9 [(3, .int (nI (p))), (2, .ref (ad (c + 12 + π (k)))), (0, .ref (ad c)), (1, .int (nI (k)))] [] M1 0 0 (wPost ad c M (some (.int (pOf g k 5))) (pToss g n k) dn (n - 1) (tPi π n k)) := by
  intro N
  induction N with
  | zero => intro p M1 f h1 h2 h3; omega
  | succ N ih =>
    intro p M1 f h1 h2 h3 hM hf hv
    have hn := hL.nl
    have hp8 := hL.pl
    have hpk := hp8 k (by omega)
    refine r_iload_n dX2_throwAway_9 rfl ?_
    refine r_aload_n dX2_throwAway_10 rfl ?_
    refine r_get (k := 6) dX2_throwAway_11 ((hM _ (hA.ne (by omega) (by omega) (by omega))).trans hL.lab) rfl rfl (by decide) kX2_64F ?_
    refine r_iconst (v := nI 1) dX2_throwAway_14 (by decide) ?_
    refine r_isubN dX2_throwAway_15 (by omega) ?_
    refine r_icmp_geN (tgt := 39) dX2_throwAway_16 (by decide) (by omega) (by omega) (fun c1 => ?_) (fun c1 => ?_)
    · skip
      have e : p = n - 1 := by omega
      obtain ⟨hq, -⟩ := hL.sp k hk
      have hgo := (hM _ (hA.ne (i := c + 12 + π k) (by omega) (by omega) (by omega))).trans hq
      have hgone := (fup_ne (M := fup M1 (ad (c + 2)) (.inr (4, 8, .inr (.inr (.inr (.inr (va_up f (n - 1) (some (ad (c + 12 + π k)))))))))) (a := ad c) (c := .inl (2, [.ref (ad (c + 1)), .ref (ad (c + 2)), .ref (ad (c + 3)), .ref (ad (c + 4)), .ref (ad (c + 5)), .int (nI dn), .int (nI (n - 1)), .int (g 3), .int (g 4), .int (g 8), .int (g 9)])) (hA.ne (i := c + 12 + π k) (by omega) (by omega) (by omega))).trans ((fup_ne (hA.ne (i := c + 12 + π k) (by omega) (by omega) (by omega))).trans hgo)
      refine r_aload_n dX2_throwAway_39 rfl ?_
      refine r_get (k := 1) dX2_throwAway_40 ((hM _ (hA.ne (by omega) (by omega) (by omega))).trans hL.lab) rfl rfl (by decide) kX2_19F ?_
      refine r_aload_n dX2_throwAway_43 rfl ?_
      refine r_get (k := 6) dX2_throwAway_44 ((hM _ (hA.ne (by omega) (by omega) (by omega))).trans hL.lab) rfl rfl (by decide) kX2_64F ?_
      refine r_iconst (v := nI 1) dX2_throwAway_47 (by decide) ?_
      refine r_isubN dX2_throwAway_48 (by omega) ?_
      refine r_aload_n dX2_throwAway_49 rfl ?_
      refine r_astqN dX2_throwAway_50 hf hgo rfl rfl (by omega) (by decide) ?_
      refine r_aload_n dX2_throwAway_51 rfl ?_
      refine r_dup dX2_throwAway_52 rfl ?_
      refine r_get (k := 6) dX2_throwAway_53 ((fup_ne (hA.ne (by omega) (by omega) (by omega))).trans ((hM _ (hA.ne (by omega) (by omega) (by omega))).trans hL.lab)) rfl rfl (by decide) kX2_64F ?_
      refine r_iconst (v := nI 1) dX2_throwAway_56 (by decide) ?_
      refine r_isubN dX2_throwAway_57 (by omega) ?_
      refine r_put (k := 6) (fs' := [.ref (ad (c + 1)), .ref (ad (c + 2)), .ref (ad (c + 3)), .ref (ad (c + 4)), .ref (ad (c + 5)), .int (nI (dn)), .int (nI ((n - 1))), .int (g 3), .int (g 4), .int (g 8), .int (g 9)]) dX2_throwAway_58 ((fup_ne (hA.ne (by omega) (by omega) (by omega))).trans ((hM _ (hA.ne (by omega) (by omega) (by omega))).trans hL.lab)) rfl (by decide) kX2_64F rfl rfl rfl (Nat.le_of_ble_eq_true rfl) rfl ?_
      refine r_aload_n dX2_throwAway_61 rfl ?_
      refine r_get (k := 5) dX2_throwAway_62 hgone rfl rfl (by decide) kX2_113F ?_
      refine fR_iret dX2_throwAway_65 rfl ⟨rfl, ?_, ?_⟩
      · refine W_toss hA hc hL hI hk (fun b h1 h2 => (fup_ne h1).trans ((fup_ne h2).trans (hM b h2))) fup_eq ⟨_, (fup_ne (hA.ne (by omega) (by omega) (by omega))).trans fup_eq, fun i hi => ?_⟩
        unfold va_up tPi
        by_cases e : i = n - 1
        · rw [if_pos e, if_neg (by omega), if_pos e]
        · rw [if_neg e, hv i hi]; by_cases q : k ≤ i ∧ i < p
          · rw [if_pos q, if_pos (by omega)]
          · rw [if_neg q, if_neg (by omega), if_neg e]
      · exact fun b hb => (fup_ne (hb 0 (by omega))).trans ((fup_ne (hb 2 (by omega))).trans (hM b (hb 2 (by omega))))
    · skip
      obtain ⟨y0, y1, y2, y3, y4, y5, yf, hq, -⟩ := hL.spa (π (p + 1)) (hp8 _ (by omega))
      have hpp := hp8 (p + 1) (by omega)
      have hnx := (hM _ (hA.ne (i := c + 12 + π (p + 1)) (by omega) (by omega) (by omega))).trans hq
      refine r_aload_n dX2_throwAway_19 rfl ?_
      refine r_get (k := 1) dX2_throwAway_20 ((hM _ (hA.ne (by omega) (by omega) (by omega))).trans hL.lab) rfl rfl (by decide) kX2_19F ?_
      refine r_iload_n dX2_throwAway_23 rfl ?_
      refine r_aload_n dX2_throwAway_24 rfl ?_
      refine r_get (k := 1) dX2_throwAway_25 ((hM _ (hA.ne (by omega) (by omega) (by omega))).trans hL.lab) rfl rfl (by decide) kX2_19F ?_
      refine r_iload_n dX2_throwAway_28 rfl ?_
      refine r_iconst (v := nI 1) dX2_throwAway_29 (by decide) ?_
      refine r_iaddN dX2_throwAway_30 ?_
      refine r_aldqN dX2_throwAway_31 hf rfl (by omega) (by decide) (by rw [hv _ (by omega), if_neg (by omega)]) ?_
      refine r_astqN dX2_throwAway_32 hf hnx rfl rfl (by omega) (by decide) ?_
      refine r_iinc (v := (nI (p + 1))) (lv' := [(3, .int (nI (p + 1))), (2, .ref (ad (c + 12 + π (k)))), (0, .ref (ad c)), (1, .int (nI (k)))]) dX2_throwAway_33 rfl (nI_inc _) (by decide) rfl ?_
      refine r_goto (tgt := 9) dX2_throwAway_36 (by decide) ?_
      refine r_lv (lv' := [(3, .int (nI (p + 1))), (2, .ref (ad (c + 12 + π (k)))), (0, .ref (ad c)), (1, .int (nI (k)))]) (by simp) ?_
      refine ih (p + 1) _ _ (by omega) (by omega) (by omega) (fun b hb => (fup_ne hb).trans (hM b hb)) fup_eq (fun i hi => ?_)
      unfold va_up
      by_cases e : i = p
      · rw [if_pos e, if_pos (by omega), e]
      · rw [if_neg e, hv i hi]; by_cases q : k ≤ i ∧ i < p
        · rw [if_pos q, if_pos (by omega)]
        · rw [if_neg q, if_neg (by omega)]
theorem tX2_toss {l : Launch} {κ : KP} {M : Mem} {ad : Nat → Nat} {c : Nat} {g : Nat → Int32} {dn n : Nat} {π : Nat → Nat} (hA : aInj ad) (hc : c + 31 ≤ 256) (hL : LabAt M ad c g dn n π) (hI : BI g dn n) {k : Nat} (hk : k < n) : fM l κ mX2_throwAway [.ref (ad c), .int (nI (k))] M (wPost ad c M (some (.int (pOf g k 5))) (pToss g n k) dn (n - 1) (tPi π n k)) := by
  refine fM_of rfl (by decide +kernel) (Nat.le_of_ble_eq_true rfl) ?_
  obtain ⟨fD, hfD, hvD⟩ := hL.drs
  obtain ⟨fS, hfS, hvS⟩ := hL.sps
  obtain ⟨fN, hfN, hvN⟩ := hL.nds
  obtain ⟨fG, hfG, hvG⟩ := hL.dgs
  obtain ⟨fT, hfT, hvT⟩ := hL.sts
  have hdn := hL.dl
  have hn := hL.nl
  show fR l κ mX2_throwAway 0 [(0, .ref (ad c)), (1, .int (nI (k)))] [] M 0 0 _
  refine r_aload_n dX2_throwAway_0 rfl ?_
  refine r_get (k := 1) dX2_throwAway_1 hL.lab rfl rfl (by decide) kX2_19F ?_
  refine r_iload_n dX2_throwAway_4 rfl ?_
  refine r_aldqN dX2_throwAway_5 hfS rfl (by omega) (by decide) (hvS _ (by omega)) ?_
  refine r_astore_n (lv' := [(2, .ref (ad (c + 12 + π (k)))), (0, .ref (ad c)), (1, .int (nI (k)))]) dX2_throwAway_6 (by decide) rfl ?_
  refine r_iload_n dX2_throwAway_7 rfl ?_
  refine r_istore_n (lv' := [(3, .int (nI (k))), (2, .ref (ad (c + 12 + π (k)))), (0, .ref (ad c)), (1, .int (nI (k)))]) dX2_throwAway_8 (by decide) rfl ?_
  refine lX2_toss hA hc hL hI hk (n + 1) k M fS (by omega) (by omega) (by omega) (fun b hb => rfl) hfS (fun i hi => ?_)
  rw [hvS i hi, if_neg (by omega)]
abbrev blk (g : Nat → Int32) (b : Nat) : Nat → Int32 := fun j => g (376 * b + j)
/-- the class's laboratory, its saved states, its snapshot -/
def LabsAt (ad : Nat → Nat) (M : Mem) (g : Nat → Int32) (sn : Nat) (kp : Bool) (dn n : Nat) : Prop :=
  ∃ (π σ : Nat → Nat), LabAt M ad 0 g dn n π ∧
  M (ad 252) = some (.inl (1, [.ref (ad 253), .ref (ad 217), .int (nI sn), .int (bI kp)])) ∧
  (∃ f, M (ad 253) = some (.inr (6, 6, .inr (.inr (.inr (.inr f))))) ∧ ∀ i, i < 6 → f i = some (ad (31 + 31 * σ i))) ∧
  (∀ i, i < 6 → σ i < 6) ∧ (∀ i j, i < 6 → j < 6 → σ i = σ j → i = j) ∧ sn ≤ 6 ∧
  (∀ i, i < 6 → ∃ ρ, LabRaw M ad (31 + 31 * σ i) ρ ∧ (i < sn → ∃ dn' n', LabAt M ad (31 + 31 * σ i) (blk g (i + 1)) dn' n' ρ ∧ BI (blk g (i + 1)) dn' n')) ∧
  (∃ ρ, LabRaw M ad 217 ρ ∧ (kp = true → ∃ dn' n', LabAt M ad 217 (blk g 7) dn' n' ρ ∧ BI (blk g 7) dn' n'))
theorem save_end {ad : Nat → Nat} {M : Mem} {g g' : Nat → Int32} {dn n cnt : Nat} {kp : Bool} {π σ src : Nat → Nat} (h0 : LabAt M ad 0 g dn n π) (hI : BI g dn n) (hcnt : cnt < 6)
    (hh : M (ad 252) = some (.inl (1, [.ref (ad 253), .ref (ad 217), .int (nI (cnt + 1)), .int (bI kp)])))
    (hs : ∃ f, M (ad 253) = some (.inr (6, 6, .inr (.inr (.inr (.inr f))))) ∧ ∀ i, i < 6 → f i = some (ad (31 + 31 * σ i)))
    (s1 : ∀ i, i < 6 → σ i < 6) (s2 : ∀ i j, i < 6 → j < 6 → σ i = σ j → i = j)
    (hold : ∀ i, i < 6 → i ≠ cnt → ∃ ρ, LabRaw M ad (31 + 31 * σ i) ρ ∧ (i < cnt → ∃ dn' n', LabAt M ad (31 + 31 * σ i) (blk g (src i)) dn' n' ρ ∧ BI (blk g (src i)) dn' n'))
    (hnew : ∃ ρ, LabAt M ad (31 + 31 * σ cnt) g dn n ρ)
    (hsnap : ∃ ρ, LabRaw M ad 217 ρ ∧ (kp = true → ∃ dn' n', LabAt M ad 217 (blk g 7) dn' n' ρ ∧ BI (blk g 7) dn' n'))
    (e0 : ∀ j, j < 376 → g' j = g j) (e1 : ∀ i, i < cnt → ∀ j, j < 376 → g' (376 * (i + 1) + j) = g (376 * src i + j)) (e2 : ∀ j, j < 376 → g' (376 * (cnt + 1) + j) = g j) (e7 : ∀ j, j < 376 → g' (376 * 7 + j) = g (376 * 7 + j)) : LabsAt ad M g' (cnt + 1) kp dn n := by
  refine ⟨π, σ, h0.congr hI.k9 e0, hh, hs, s1, s2, by omega, ?_, ?_⟩
  · intro i hi
    by_cases e : i = cnt
    · subst e
      obtain ⟨ρ, h⟩ := hnew
      exact ⟨ρ, h.raw, fun _ => ⟨dn, n, h.congr hI.k9 e2, hI.congr e2⟩⟩
    · obtain ⟨ρ, h1, h2⟩ := hold i hi e
      refine ⟨ρ, h1, fun h => ?_⟩
      obtain ⟨dn', n', h3, h4⟩ := h2 (by omega)
      exact ⟨dn', n', h3.congr h4.k9 (e1 i (by omega)), h4.congr (e1 i (by omega))⟩
  · obtain ⟨ρ, h1, h2⟩ := hsnap
    refine ⟨ρ, h1, fun h => ?_⟩
    obtain ⟨dn', n', h3, h4⟩ := h2 h
    exact ⟨dn', n', h3.congr h4.k9 e7, h4.congr e7⟩
theorem pCp_blk {f : Nat → Int32} {a b t j : Nat} (hj : j < 376) : pCp f a b (376 * t + j) = if t = b then f (376 * a + j) else f (376 * t + j) := by
  unfold pCp pCpK
  by_cases h : t = b
  · subst h; rw [if_pos rfl, if_pos (by omega)]; congr 1; omega
  · rw [if_neg h, if_neg (by omega)]
theorem pSaveL_blk {f : Nat → Int32} {sn t j : Nat} (hj : j < 376) : pSaveL f sn (376 * t + j) = if t = sn + 1 then f j else f (376 * t + j) := by
  unfold pSaveL; rw [pCp_blk hj, show 376 * 0 + j = j by omega]
theorem pSave6_blk {f : Nat → Int32} {t j : Nat} (ht : t < 8) (hj : j < 376) : pSave6 f (376 * t + j) = if t = 6 then f j else if 1 ≤ t ∧ t < 6 then f (376 * (t + 1) + j) else f (376 * t + j) := by
  unfold pSave6
  have h : t = 0 ∨ t = 1 ∨ t = 2 ∨ t = 3 ∨ t = 4 ∨ t = 5 ∨ t = 6 ∨ t = 7 := by omega
  have z : ∀ F : Nat → Int32, F (376 * 0 + j) = F j := fun F => by rw [show 376 * 0 + j = j by omega]
  rcases h with rfl | rfl | rfl | rfl | rfl | rfl | rfl | rfl <;> simp only [pCp_blk hj] <;> simp [z]
def sRot (σ : Nat → Nat) : Nat → Nat := fun i => if i < 5 then σ (i + 1) else σ 0
theorem tX1_drop {l : Launch} {κ : KP} {M : Mem} {ad : Nat → Nat} {sn : Nat} {kp : Bool} {σ : Nat → Nat} {f : Nat → Option Nat} (hA : aInj ad) (hh : M (ad 252) = some (.inl (1, [.ref (ad 253), .ref (ad 217), .int (nI sn), .int (bI kp)]))) (hf : M (ad 253) = some (.inr (6, 6, .inr (.inr (.inr (.inr f)))))) (hv : ∀ i, i < 6 → f i = some (ad (31 + 31 * σ i))) (hs : ∀ i, i < 6 → σ i < 6) (hr : ∀ i, i < 6 → ∃ ρ, LabRaw M ad (31 + 31 * σ i) ρ) : fM l κ mX1_dropOldest [.ref (ad 252)] M ((fun o M' => o = .inl none ∧ (∀ b, b ≠ ad 252 → b ≠ ad 253 → M' b = M b) ∧ M' (ad 252) = some (.inl (1, [.ref (ad 253), .ref (ad 217), .int (nI 5), .int (bI kp)])) ∧ ∃ f', M' (ad 253) = some (.inr (6, 6, .inr (.inr (.inr (.inr f'))))) ∧ ∀ i, i < 6 → f' i = some (ad (31 + 31 * sRot σ i)))) := by
  refine fM_of rfl (by decide +kernel) (Nat.le_of_ble_eq_true rfl) ?_
  obtain ⟨ρ0, hr0⟩ := hr 0 (by omega)
  obtain ⟨⟨u0, v0, w0, x0, y0, z0, hq0⟩, -⟩ := hr0
  have hs0 := hs 0 (by omega)
  obtain ⟨ρ1, hr1⟩ := hr 1 (by omega)
  obtain ⟨⟨u1, v1, w1, x1, y1, z1, hq1⟩, -⟩ := hr1
  have hs1 := hs 1 (by omega)
  obtain ⟨ρ2, hr2⟩ := hr 2 (by omega)
  obtain ⟨⟨u2, v2, w2, x2, y2, z2, hq2⟩, -⟩ := hr2
  have hs2 := hs 2 (by omega)
  obtain ⟨ρ3, hr3⟩ := hr 3 (by omega)
  obtain ⟨⟨u3, v3, w3, x3, y3, z3, hq3⟩, -⟩ := hr3
  have hs3 := hs 3 (by omega)
  obtain ⟨ρ4, hr4⟩ := hr 4 (by omega)
  obtain ⟨⟨u4, v4, w4, x4, y4, z4, hq4⟩, -⟩ := hr4
  have hs4 := hs 4 (by omega)
  obtain ⟨ρ5, hr5⟩ := hr 5 (by omega)
  obtain ⟨⟨u5, v5, w5, x5, y5, z5, hq5⟩, -⟩ := hr5
  have hs5 := hs 5 (by omega)
  show fR l κ mX1_dropOldest 0 [(0, .ref (ad 252))] [] M 0 0 _
  refine r_aload_n dX1_dropOldest_0 rfl ?_
  refine r_get (k := 0) dX1_dropOldest_1 hh rfl rfl (by decide) kX1_11F ?_
  refine r_iconst (v := nI 0) dX1_dropOldest_4 (by decide) ?_
  refine r_aldqN dX1_dropOldest_5 hf rfl (by omega) (by decide) (hv (0) (by omega)) ?_
  refine r_astore_n (lv' := [(1, .ref (ad (31 + 31 * σ (0)))), (0, .ref (ad 252))]) dX1_dropOldest_6 (by decide) rfl ?_
  refine r_iconst (v := nI 1) dX1_dropOldest_7 (by decide) ?_
  refine r_istore_n (lv' := [(2, .int (nI (1))), (1, .ref (ad (31 + 31 * σ (0)))), (0, .ref (ad 252))]) dX1_dropOldest_8 (by decide) rfl ?_
  refine r_iload_n dX1_dropOldest_9 rfl ?_
  refine r_bipush (v := nI 6) dX1_dropOldest_10 (by decide) ?_
  refine r_icmp_geN (tgt := 35) dX1_dropOldest_12 (by decide) (by omega) (by omega) (fun c1 => absurd c1 (by omega)) (fun c1 => ?_)
  refine r_aload_n dX1_dropOldest_15 rfl ?_
  refine r_get (k := 0) dX1_dropOldest_16 hh rfl rfl (by decide) kX1_11F ?_
  refine r_iload_n dX1_dropOldest_19 rfl ?_
  refine r_iconst (v := nI 1) dX1_dropOldest_20 (by decide) ?_
  refine r_isubN dX1_dropOldest_21 (by omega) ?_
  refine r_aload_n dX1_dropOldest_22 rfl ?_
  refine r_get (k := 0) dX1_dropOldest_23 hh rfl rfl (by decide) kX1_11F ?_
  refine r_iload_n dX1_dropOldest_26 rfl ?_
  refine r_aldqN dX1_dropOldest_27 hf rfl (by omega) (by decide) (hv (1) (by omega)) ?_
  refine r_astqN dX1_dropOldest_28 hf hq1 rfl rfl (by omega) (by decide) ?_
  refine r_iinc (v := (nI (1 + 1))) (lv' := [(2, .int (nI (1 + 1))), (1, .ref (ad (31 + 31 * σ (0)))), (0, .ref (ad 252))]) dX1_dropOldest_29 rfl (nI_inc _) (by decide) rfl ?_
  refine r_goto (tgt := 9) dX1_dropOldest_32 (by decide) ?_
  refine r_iload_n dX1_dropOldest_9 rfl ?_
  refine r_bipush (v := nI 6) dX1_dropOldest_10 (by decide) ?_
  refine r_icmp_geN (tgt := 35) dX1_dropOldest_12 (by decide) (by omega) (by omega) (fun c2 => absurd c2 (by omega)) (fun c2 => ?_)
  refine r_aload_n dX1_dropOldest_15 rfl ?_
  refine r_get (k := 0) dX1_dropOldest_16 ((fup_ne (hA.ne (by omega) (by omega) (by omega))).trans hh) rfl rfl (by decide) kX1_11F ?_
  refine r_iload_n dX1_dropOldest_19 rfl ?_
  refine r_iconst (v := nI 1) dX1_dropOldest_20 (by decide) ?_
  refine r_isubN dX1_dropOldest_21 (by omega) ?_
  refine r_aload_n dX1_dropOldest_22 rfl ?_
  refine r_get (k := 0) dX1_dropOldest_23 ((fup_ne (hA.ne (by omega) (by omega) (by omega))).trans hh) rfl rfl (by decide) kX1_11F ?_
  refine r_iload_n dX1_dropOldest_26 rfl ?_
  refine r_aldqN dX1_dropOldest_27 fup_eq rfl (by omega) (by decide) (hv (1 + 1) (by omega)) ?_
  refine r_astqN dX1_dropOldest_28 fup_eq ((fup_ne (hA.ne (i := 31 + 31 * σ 2) (by omega) (by omega) (by omega))).trans hq2) rfl rfl (by omega) (by decide) ?_
  refine r_mem fup_fup ?_
  refine r_iinc (v := (nI (1 + 1 + 1))) (lv' := [(2, .int (nI (1 + 1 + 1))), (1, .ref (ad (31 + 31 * σ (0)))), (0, .ref (ad 252))]) dX1_dropOldest_29 rfl (nI_inc _) (by decide) rfl ?_
  refine r_goto (tgt := 9) dX1_dropOldest_32 (by decide) ?_
  refine r_iload_n dX1_dropOldest_9 rfl ?_
  refine r_bipush (v := nI 6) dX1_dropOldest_10 (by decide) ?_
  refine r_icmp_geN (tgt := 35) dX1_dropOldest_12 (by decide) (by omega) (by omega) (fun c3 => absurd c3 (by omega)) (fun c3 => ?_)
  refine r_aload_n dX1_dropOldest_15 rfl ?_
  refine r_get (k := 0) dX1_dropOldest_16 ((fup_ne (hA.ne (by omega) (by omega) (by omega))).trans hh) rfl rfl (by decide) kX1_11F ?_
  refine r_iload_n dX1_dropOldest_19 rfl ?_
  refine r_iconst (v := nI 1) dX1_dropOldest_20 (by decide) ?_
  refine r_isubN dX1_dropOldest_21 (by omega) ?_
  refine r_aload_n dX1_dropOldest_22 rfl ?_
  refine r_get (k := 0) dX1_dropOldest_23 ((fup_ne (hA.ne (by omega) (by omega) (by omega))).trans hh) rfl rfl (by decide) kX1_11F ?_
  refine r_iload_n dX1_dropOldest_26 rfl ?_
  refine r_aldqN dX1_dropOldest_27 fup_eq rfl (by omega) (by decide) (hv (1 + 1 + 1) (by omega)) ?_
  refine r_astqN dX1_dropOldest_28 fup_eq ((fup_ne (hA.ne (i := 31 + 31 * σ 3) (by omega) (by omega) (by omega))).trans hq3) rfl rfl (by omega) (by decide) ?_
  refine r_mem fup_fup ?_
  refine r_iinc (v := (nI (1 + 1 + 1 + 1))) (lv' := [(2, .int (nI (1 + 1 + 1 + 1))), (1, .ref (ad (31 + 31 * σ (0)))), (0, .ref (ad 252))]) dX1_dropOldest_29 rfl (nI_inc _) (by decide) rfl ?_
  refine r_goto (tgt := 9) dX1_dropOldest_32 (by decide) ?_
  refine r_iload_n dX1_dropOldest_9 rfl ?_
  refine r_bipush (v := nI 6) dX1_dropOldest_10 (by decide) ?_
  refine r_icmp_geN (tgt := 35) dX1_dropOldest_12 (by decide) (by omega) (by omega) (fun c4 => absurd c4 (by omega)) (fun c4 => ?_)
  refine r_aload_n dX1_dropOldest_15 rfl ?_
  refine r_get (k := 0) dX1_dropOldest_16 ((fup_ne (hA.ne (by omega) (by omega) (by omega))).trans hh) rfl rfl (by decide) kX1_11F ?_
  refine r_iload_n dX1_dropOldest_19 rfl ?_
  refine r_iconst (v := nI 1) dX1_dropOldest_20 (by decide) ?_
  refine r_isubN dX1_dropOldest_21 (by omega) ?_
  refine r_aload_n dX1_dropOldest_22 rfl ?_
  refine r_get (k := 0) dX1_dropOldest_23 ((fup_ne (hA.ne (by omega) (by omega) (by omega))).trans hh) rfl rfl (by decide) kX1_11F ?_
  refine r_iload_n dX1_dropOldest_26 rfl ?_
  refine r_aldqN dX1_dropOldest_27 fup_eq rfl (by omega) (by decide) (hv (1 + 1 + 1 + 1) (by omega)) ?_
  refine r_astqN dX1_dropOldest_28 fup_eq ((fup_ne (hA.ne (i := 31 + 31 * σ 4) (by omega) (by omega) (by omega))).trans hq4) rfl rfl (by omega) (by decide) ?_
  refine r_mem fup_fup ?_
  refine r_iinc (v := (nI (1 + 1 + 1 + 1 + 1))) (lv' := [(2, .int (nI (1 + 1 + 1 + 1 + 1))), (1, .ref (ad (31 + 31 * σ (0)))), (0, .ref (ad 252))]) dX1_dropOldest_29 rfl (nI_inc _) (by decide) rfl ?_
  refine r_goto (tgt := 9) dX1_dropOldest_32 (by decide) ?_
  refine r_iload_n dX1_dropOldest_9 rfl ?_
  refine r_bipush (v := nI 6) dX1_dropOldest_10 (by decide) ?_
  refine r_icmp_geN (tgt := 35) dX1_dropOldest_12 (by decide) (by omega) (by omega) (fun c5 => absurd c5 (by omega)) (fun c5 => ?_)
  refine r_aload_n dX1_dropOldest_15 rfl ?_
  refine r_get (k := 0) dX1_dropOldest_16 ((fup_ne (hA.ne (by omega) (by omega) (by omega))).trans hh) rfl rfl (by decide) kX1_11F ?_
  refine r_iload_n dX1_dropOldest_19 rfl ?_
  refine r_iconst (v := nI 1) dX1_dropOldest_20 (by decide) ?_
  refine r_isubN dX1_dropOldest_21 (by omega) ?_
  refine r_aload_n dX1_dropOldest_22 rfl ?_
  refine r_get (k := 0) dX1_dropOldest_23 ((fup_ne (hA.ne (by omega) (by omega) (by omega))).trans hh) rfl rfl (by decide) kX1_11F ?_
  refine r_iload_n dX1_dropOldest_26 rfl ?_
  refine r_aldqN dX1_dropOldest_27 fup_eq rfl (by omega) (by decide) (hv (1 + 1 + 1 + 1 + 1) (by omega)) ?_
  refine r_astqN dX1_dropOldest_28 fup_eq ((fup_ne (hA.ne (i := 31 + 31 * σ 5) (by omega) (by omega) (by omega))).trans hq5) rfl rfl (by omega) (by decide) ?_
  refine r_mem fup_fup ?_
  refine r_iinc (v := (nI (1 + 1 + 1 + 1 + 1 + 1))) (lv' := [(2, .int (nI (1 + 1 + 1 + 1 + 1 + 1))), (1, .ref (ad (31 + 31 * σ (0)))), (0, .ref (ad 252))]) dX1_dropOldest_29 rfl (nI_inc _) (by decide) rfl ?_
  refine r_goto (tgt := 9) dX1_dropOldest_32 (by decide) ?_
  refine r_iload_n dX1_dropOldest_9 rfl ?_
  refine r_bipush (v := nI 6) dX1_dropOldest_10 (by decide) ?_
  refine r_icmp_geN (tgt := 35) dX1_dropOldest_12 (by decide) (by omega) (by omega) (fun c6 => ?_) (fun c6 => absurd c6 (by omega))
  refine r_aload_n dX1_dropOldest_35 rfl ?_
  refine r_get (k := 0) dX1_dropOldest_36 ((fup_ne (hA.ne (by omega) (by omega) (by omega))).trans hh) rfl rfl (by decide) kX1_11F ?_
  refine r_iconst (v := nI 5) dX1_dropOldest_39 (by decide) ?_
  refine r_aload_n dX1_dropOldest_40 rfl ?_
  refine r_astqN dX1_dropOldest_41 fup_eq ((fup_ne (hA.ne (i := 31 + 31 * σ 0) (by omega) (by omega) (by omega))).trans hq0) rfl rfl (by omega) (by decide) ?_
  refine r_mem fup_fup ?_
  refine r_aload_n dX1_dropOldest_42 rfl ?_
  refine r_iconst (v := nI 5) dX1_dropOldest_43 (by decide) ?_
  refine r_put (k := 2) (fs' := [.ref (ad 253), .ref (ad 217), .int (nI (5)), .int (bI (kp))]) dX1_dropOldest_44 ((fup_ne (hA.ne (by omega) (by omega) (by omega))).trans hh) rfl (by decide) kX1_22F rfl rfl rfl (Nat.le_of_ble_eq_true rfl) rfl ?_
  refine fR_vret dX1_dropOldest_47 rfl ⟨rfl, fun b h1 h2 => (fup_ne h1).trans (fup_ne h2), fup_eq, _, (fup_ne (hA.ne (by omega) (by omega) (by omega))).trans fup_eq, fun i hi => ?_⟩
  have hc : i = 0 ∨ i = 1 ∨ i = 2 ∨ i = 3 ∨ i = 4 ∨ i = 5 := by omega
  rcases hc with rfl | rfl | rfl | rfl | rfl | rfl <;> simp [va_up, sRot]
