/-! A LABORATORY COPIED INTO ANOTHER ONE'S ROWS -/
def NdAny (M : Mem) (a : Nat) : Prop := ∃ (w b u : Int32), M a = some (.inl (3, [.int w, .int b, .int u]))
def LabRaw (M : Mem) (ad : Nat → Nat) (c : Nat) (π : Nat → Nat) : Prop :=
  (∃ (x5 x6 x7 x8 x9 x10 : Int32), M (ad c) = some (.inl (2, [.ref (ad (c + 1)), .ref (ad (c + 2)), .ref (ad (c + 3)), .ref (ad (c + 4)), .ref (ad (c + 5)), .int x5, .int x6, .int x7, .int x8, .int x9, .int x10]))) ∧
  (∃ f, M (ad (c + 1)) = some (.inr (3, 6, .inr (.inr (.inr (.inr f))))) ∧ ∀ d, d < 6 → f d = some (ad (c + 6 + d))) ∧
  (∃ f, M (ad (c + 2)) = some (.inr (4, 8, .inr (.inr (.inr (.inr f))))) ∧ ∀ k, k < 8 → f k = some (ad (c + 12 + π k))) ∧
  (∃ f, M (ad (c + 3)) = some (.inr (5, 3, .inr (.inr (.inr (.inr f))))) ∧ ∀ i, i < 3 → f i = some (ad (c + 28 + i))) ∧
  (∃ f, M (ad (c + 4)) = some (.inr (0, 3, .inl f))) ∧
  (∃ f, M (ad (c + 5)) = some (.inr (0, 3, .inl f))) ∧
  (∀ d, d < 6 → DrAny M (ad (c + 6 + d))) ∧
  (∀ k, k < 8 → SpAny M (ad (c + 12 + k)) (ad (c + 20 + k))) ∧
  (∀ i, i < 3 → NdAny M (ad (c + 28 + i))) ∧
  (∀ k, k < 8 → π k < 8) ∧ (∀ j k, j < 8 → k < 8 → π j = π k → j = k)
def Off (ad : Nat → Nat) (c len : Nat) (M M' : Mem) : Prop := ∀ b, (∀ t, t < len → b ≠ ad (c + t)) → M' b = M b
theorem Off.refl {ad : Nat → Nat} {c len : Nat} {M : Mem} : Off ad c len M M := fun _ _ => rfl
theorem Off.trans {ad : Nat → Nat} {c len : Nat} {M M1 M2 : Mem} (h : Off ad c len M M1) (h2 : Off ad c len M1 M2) : Off ad c len M M2 := fun b hb => (h2 b hb).trans (h b hb)
theorem Off.up {ad : Nat → Nat} {c len t : Nat} {M : Mem} {x : MC} (ht : t < len) : Off ad c len M (fup M (ad (c + t)) x) := fun b hb => fup_ne (hb t ht)
theorem Off.up0 {ad : Nat → Nat} {c len : Nat} {M : Mem} {x : MC} (ht : 0 < len) : Off ad c len M (fup M (ad c) x) := fun b hb => fup_ne (hb 0 ht)
theorem Off.at {ad : Nat → Nat} {c len : Nat} {M M' : Mem} (h : Off ad c len M M') (hA : aInj ad) {i : Nat} (hi : i < 256) (hc : c + len ≤ 256) (ho : i < c ∨ c + len ≤ i) : M' (ad i) = M (ad i) := h _ (fun t ht => hA.ne hi (by omega) (by omega))
section Raws
variable {M M' : Mem} {ad : Nat → Nat} {c c2 : Nat} {g g' : Nat → Int32} {dn n : Nat} {π ρ : Nat → Nat}
theorem LabAt.raw (h : LabAt M ad c g dn n π) : LabRaw M ad c π := by
  obtain ⟨h1, h2, h3, h4, ⟨f4, a4, b4⟩, ⟨f5, a5, b5⟩, h7, h8, h9, h10, h11, h12, h13, -, -⟩ := h
  exact ⟨⟨_, _, _, _, _, _, h1⟩, h2, h3, h4, ⟨f4, a4⟩, ⟨f5, a5⟩, h7, h9, fun i hi => ⟨_, _, _, h11 i hi⟩, h12, h13⟩
theorem LabAt.off (h : LabAt M ad c g dn n π) (hA : aInj ad) (hc : c + 31 ≤ 256) (hc2 : c2 + 31 ≤ 256) (hd : c + 31 ≤ c2 ∨ c2 + 31 ≤ c) (ho : Off ad c2 31 M M') : LabAt M' ad c g dn n π :=
  h.frame (fun j hj => ho.at hA (by omega) hc2 (by omega))
theorem LabRaw.frame (h : LabRaw M ad c π) (e : ∀ j, j < 31 → M' (ad (c + j)) = M (ad (c + j))) : LabRaw M' ad c π := by
  obtain ⟨⟨x5, x6, x7, x8, x9, x10, h1⟩, ⟨f1, a1, b1⟩, ⟨f2, a2, b2⟩, ⟨f3, a3, b3⟩, ⟨f4, a4⟩, ⟨f5, a5⟩, h7, h9, h11, h12, h13⟩ := h
  have e' : ∀ i j, c + i + j = c + (i + j) := fun i j => by omega
  refine ⟨⟨x5, x6, x7, x8, x9, x10, (e 0 (by omega)).trans h1⟩, ⟨f1, (e 1 (by omega)).trans a1, b1⟩, ⟨f2, (e 2 (by omega)).trans a2, b2⟩, ⟨f3, (e 3 (by omega)).trans a3, b3⟩, ⟨f4, (e 4 (by omega)).trans a4⟩, ⟨f5, (e 5 (by omega)).trans a5⟩, ?_, ?_, ?_, h12, h13⟩
  · intro d hd; exact (h7 d hd).eq (by rw [e']; exact e _ (by omega))
  · intro k hk; exact (h9 k hk).eq (by rw [e']; exact e _ (by omega)) (by rw [e']; exact e _ (by omega))
  · intro i hi
    obtain ⟨w, b, u, h⟩ := h11 i hi
    exact ⟨w, b, u, (by rw [e']; exact e _ (by omega) : M' (ad (c + 28 + i)) = M (ad (c + 28 + i))).trans h⟩
theorem LabRaw.off (h : LabRaw M ad c π) (hA : aInj ad) (hc : c + 31 ≤ 256) (hc2 : c2 + 31 ≤ 256) (hd : c + 31 ≤ c2 ∨ c2 + 31 ≤ c) (ho : Off ad c2 31 M M') : LabRaw M' ad c π :=
  h.frame (fun j hj => ho.at hA (by omega) hc2 (by omega))
/-- the copy under way: i drums, j samples, q needles are laid -/
def CpInv (M0 M : Mem) (ad : Nat → Nat) (c : Nat) (π : Nat → Nat) (g : Nat → Int32) (i j q : Nat) : Prop :=
  Off ad c 31 M0 M ∧ LabRaw M ad c π ∧ (∀ d, d < i → DrAt M (ad (c + 6 + d)) g d) ∧ (∀ k, k < j → SpAt M (ad (c + 12 + π k)) (ad (c + 20 + π k)) g k) ∧ (∀ z, z < q → NdAt M (ad (c + 28 + z)) g z)
theorem CpInv.dr {M0 : Mem} {i j q : Nat} (hA : aInj ad) (hc : c + 31 ≤ 256) (hi : i < 6) (hj : j ≤ 8) (hq : q ≤ 3) (h : CpInv M0 M ad c π g i j q) : CpInv M0 (fup M (ad (c + 6 + i)) (.inl (0, [.int (g (10 + 3 * i + 0)), .int (g (10 + 3 * i + 1)), .int (g (10 + 3 * i + 2))]))) ad c π g (i + 1) j q := by
  obtain ⟨h1, ⟨⟨x5, x6, x7, x8, x9, x10, r1⟩, ⟨f1, a1, b1⟩, ⟨f2, a2, b2⟩, ⟨f3, a3, b3⟩, ⟨f4, a4⟩, ⟨f5, a5⟩, r7, r9, r11, r12, r13⟩, h3, h4, h5⟩ := h
  have m : ∀ x : MC, ∀ t, t < 256 → t ≠ c + 6 + i → fup M (ad (c + 6 + i)) x (ad t) = M (ad t) := fun x t h1 h2 => fup_ne (hA.ne h1 (by omega) h2)
  refine ⟨h1.trans (by rw [show c + 6 + i = c + (6 + i) by omega]; exact Off.up (by omega)), ⟨⟨x5, x6, x7, x8, x9, x10, (m _ _ (by omega) (by omega)).trans r1⟩, ⟨f1, (m _ _ (by omega) (by omega)).trans a1, b1⟩, ⟨f2, (m _ _ (by omega) (by omega)).trans a2, b2⟩, ⟨f3, (m _ _ (by omega) (by omega)).trans a3, b3⟩, ⟨f4, (m _ _ (by omega) (by omega)).trans a4⟩, ⟨f5, (m _ _ (by omega) (by omega)).trans a5⟩, ?_, ?_, ?_, r12, r13⟩, ?_, ?_, ?_⟩
  · intro d hd
    by_cases e : d = i
    · subst e; exact ⟨_, _, _, fup_eq⟩
    · exact (r7 d hd).eq (m _ _ (by omega) (by omega))
  · intro k hk; exact (r9 k hk).eq (m _ _ (by omega) (by omega)) (m _ _ (by omega) (by omega))
  · intro z hz
    obtain ⟨w, b, u, h⟩ := r11 z hz
    exact ⟨w, b, u, (m _ _ (by omega) (by omega)).trans h⟩
  · intro d hd
    by_cases e : d = i
    · subst e; exact fup_eq
    · exact (m _ _ (by omega) (by omega)).trans (h3 d (by omega))
  · intro k hk
    have := r12 k (by omega)
    exact (h4 k hk).eq (m _ _ (by omega) (by omega)) (m _ _ (by omega) (by omega))
  · intro z hz; exact (m _ _ (by omega) (by omega)).trans (h5 z hz)
theorem CpInv.nd {M0 : Mem} {i j q : Nat} (hA : aInj ad) (hc : c + 31 ≤ 256) (hi : i ≤ 6) (hj : j ≤ 8) (hq : q < 3) (h : CpInv M0 M ad c π g i j q) : CpInv M0 (fup M (ad (c + 28 + q)) (.inl (3, [.int (g (31 + 3 * q + 0)), .int (g (31 + 3 * q + 1)), .int (g (31 + 3 * q + 2))]))) ad c π g i j (q + 1) := by
  obtain ⟨h1, ⟨⟨x5, x6, x7, x8, x9, x10, r1⟩, ⟨f1, a1, b1⟩, ⟨f2, a2, b2⟩, ⟨f3, a3, b3⟩, ⟨f4, a4⟩, ⟨f5, a5⟩, r7, r9, r11, r12, r13⟩, h3, h4, h5⟩ := h
  have m : ∀ x : MC, ∀ t, t < 256 → t ≠ c + 28 + q → fup M (ad (c + 28 + q)) x (ad t) = M (ad t) := fun x t h1 h2 => fup_ne (hA.ne h1 (by omega) h2)
  refine ⟨h1.trans (by rw [show c + 28 + q = c + (28 + q) by omega]; exact Off.up (by omega)), ⟨⟨x5, x6, x7, x8, x9, x10, (m _ _ (by omega) (by omega)).trans r1⟩, ⟨f1, (m _ _ (by omega) (by omega)).trans a1, b1⟩, ⟨f2, (m _ _ (by omega) (by omega)).trans a2, b2⟩, ⟨f3, (m _ _ (by omega) (by omega)).trans a3, b3⟩, ⟨f4, (m _ _ (by omega) (by omega)).trans a4⟩, ⟨f5, (m _ _ (by omega) (by omega)).trans a5⟩, ?_, ?_, ?_, r12, r13⟩, ?_, ?_, ?_⟩
  · intro d hd; exact (r7 d hd).eq (m _ _ (by omega) (by omega))
  · intro k hk; exact (r9 k hk).eq (m _ _ (by omega) (by omega)) (m _ _ (by omega) (by omega))
  · intro z hz
    by_cases e : z = q
    · subst e; exact ⟨_, _, _, fup_eq⟩
    · obtain ⟨w, b, u, h⟩ := r11 z hz
      exact ⟨w, b, u, (m _ _ (by omega) (by omega)).trans h⟩
  · intro d hd; exact (m _ _ (by omega) (by omega)).trans (h3 d hd)
  · intro k hk
    have := r12 k (by omega)
    exact (h4 k hk).eq (m _ _ (by omega) (by omega)) (m _ _ (by omega) (by omega))
  · intro z hz
    by_cases e : z = q
    · subst e; exact fup_eq
    · exact (m _ _ (by omega) (by omega)).trans (h5 z (by omega))
theorem CpInv.sp {M0 : Mem} {i j q : Nat} (hA : aInj ad) (hc : c + 31 ≤ 256) (hi : i ≤ 6) (hj : j < 8) (hq : q ≤ 3) (h : CpInv M0 M ad c π g i j q) (hM : ∀ b, b ≠ ad (c + 12 + π j) → b ≠ ad (c + 20 + π j) → M' b = M b) (hv : SpAt M' (ad (c + 12 + π j)) (ad (c + 20 + π j)) g j) : CpInv M0 M' ad c π g i (j + 1) q := by
  obtain ⟨h1, ⟨⟨x5, x6, x7, x8, x9, x10, r1⟩, ⟨f1, a1, b1⟩, ⟨f2, a2, b2⟩, ⟨f3, a3, b3⟩, ⟨f4, a4⟩, ⟨f5, a5⟩, r7, r9, r11, r12, r13⟩, h3, h4, h5⟩ := h
  have hp := r12 j hj
  have m : ∀ t, t < 256 → t ≠ c + 12 + π j → t ≠ c + 20 + π j → M' (ad t) = M (ad t) := fun t h1 h2 h3 => hM _ (hA.ne h1 (by omega) h2) (hA.ne h1 (by omega) h3)
  refine ⟨h1.trans (fun b hb => hM b (by rw [show c + 12 + π j = c + (12 + π j) by omega]; exact hb _ (by omega)) (by rw [show c + 20 + π j = c + (20 + π j) by omega]; exact hb _ (by omega))), ⟨⟨x5, x6, x7, x8, x9, x10, (m _ (by omega) (by omega) (by omega)).trans r1⟩, ⟨f1, (m _ (by omega) (by omega) (by omega)).trans a1, b1⟩, ⟨f2, (m _ (by omega) (by omega) (by omega)).trans a2, b2⟩, ⟨f3, (m _ (by omega) (by omega) (by omega)).trans a3, b3⟩, ⟨f4, (m _ (by omega) (by omega) (by omega)).trans a4⟩, ⟨f5, (m _ (by omega) (by omega) (by omega)).trans a5⟩, ?_, ?_, ?_, r12, r13⟩, ?_, ?_, ?_⟩
  · intro d hd; exact (r7 d hd).eq (m _ (by omega) (by omega) (by omega))
  · intro k hk
    by_cases e : k = π j
    · subst e; exact hv.any
    · exact (r9 k hk).eq (m _ (by omega) (by omega) (by omega)) (m _ (by omega) (by omega) (by omega))
  · intro z hz
    obtain ⟨w, b, u, h⟩ := r11 z hz
    exact ⟨w, b, u, (m _ (by omega) (by omega) (by omega)).trans h⟩
  · intro d hd; exact (m _ (by omega) (by omega) (by omega)).trans (h3 d hd)
  · intro k hk
    by_cases e : k = j
    · subst e; exact hv
    · have h6 := r12 k (by omega)
      have h7 : π k ≠ π j := fun z => e (r13 k j (by omega) hj z)
      exact (h4 k (by omega)).eq (m _ (by omega) (by omega) (by omega)) (m _ (by omega) (by omega) (by omega))
  · intro z hz; exact (m _ (by omega) (by omega) (by omega)).trans (h5 z hz)
end Raws
theorem copy_end {M0 M1 M' : Mem} {ad : Nat → Nat} {c c2 : Nat} {g : Nat → Int32} {dn n : Nat} {π ρ : Nat → Nat} (hA : aInj ad) (hc : c + 31 ≤ 256) (hC : CpInv M0 M1 ad c π g dn n 3) (hL : LabAt M0 ad c2 g dn n ρ) (hI : BI g dn n)
    (m : ∀ t, t < 256 → t ≠ c → t ≠ c + 4 → t ≠ c + 5 → M' (ad t) = M1 (ad t))
    (hv : M' (ad c) = some (.inl (2, [.ref (ad (c + 1)), .ref (ad (c + 2)), .ref (ad (c + 3)), .ref (ad (c + 4)), .ref (ad (c + 5)), .int (nI dn), .int (nI n), .int (g 3), .int (g 4), .int (g 8), .int (g 9)])) ∧ (∃ f, M' (ad (c + 4)) = some (.inr (0, 3, .inl f)) ∧ ∀ b, b < 3 → f b = g (28 + b)) ∧ (∃ f, M' (ad (c + 5)) = some (.inr (0, 3, .inl f)) ∧ ∀ i, i < 3 → f i = g (5 + i))) : LabAt M' ad c g dn n π := by
  obtain ⟨h1, ⟨⟨x5, x6, x7, x8, x9, x10, r1⟩, ⟨f1, a1, b1⟩, ⟨f2, a2, b2⟩, ⟨f3, a3, b3⟩, ⟨f4, a4⟩, ⟨f5, a5⟩, r7, r9, r11, r12, r13⟩, hdr, hsp, hnd⟩ := hC
  have hdn := hL.dl
  have hn := hL.nl
  refine ⟨hv.1, ⟨f1, (m _ (by omega) (by omega) (by omega) (by omega)).trans a1, b1⟩, ⟨f2, (m _ (by omega) (by omega) (by omega) (by omega)).trans a2, b2⟩, ⟨f3, (m _ (by omega) (by omega) (by omega) (by omega)).trans a3, b3⟩, hv.2.1, hv.2.2, ?_, ?_, ?_, ?_, ?_, r12, r13, hdn, hn⟩
  · intro d hd; exact (r7 d hd).eq (m _ (by omega) (by omega) (by omega) (by omega))
  · intro d hd; exact (m _ (by omega) (by omega) (by omega) (by omega)).trans (hdr d hd)
  · intro k hk; exact (r9 k hk).eq (m _ (by omega) (by omega) (by omega) (by omega)) (m _ (by omega) (by omega) (by omega) (by omega))
  · intro k hk
    have := r12 k (by omega)
    exact (hsp k hk).eq (m _ (by omega) (by omega) (by omega) (by omega)) (m _ (by omega) (by omega) (by omega) (by omega))
  · intro z hz; exact (m _ (by omega) (by omega) (by omega) (by omega)).trans (hnd z hz)
theorem lX2_cpT {l : Launch} {κ : KP} {M0 : Mem} {ad : Nat → Nat} {c c2 : Nat} {g : Nat → Int32} {dn n : Nat} {π ρ : Nat → Nat} (hA : aInj ad) (hc : c + 31 ≤ 256) (hc2 : c2 + 31 ≤ 256) (hd2 : c + 31 ≤ c2 ∨ c2 + 31 ≤ c) (hL : LabAt M0 ad c2 g dn n ρ) (hI : BI g dn n) {M1 : Mem} (hC : CpInv M0 M1 ad c π g dn n 3) : fR l κ mX2_copyFrom 90 [(0, .ref (ad c)), (1, .ref (ad c2))] [] M1 0 0 (fun o M' => o = .inl none ∧ LabAt M' ad c g dn n π ∧ Off ad c 31 M0 M') := by
  obtain ⟨h1, ⟨⟨x5, x6, x7, x8, x9, x10, r1⟩, ⟨f1, a1, b1⟩, ⟨f2, a2, b2⟩, ⟨f3, a3, b3⟩, ⟨f4, a4⟩, ⟨f5, a5⟩, r7, r9, r11, r12, r13⟩, hdr, hsp, hnd⟩ := id hC
  have hS := hL.off hA hc2 hc (by omega) h1
  obtain ⟨fDs, hfDs, hvDs⟩ := hS.drs
  obtain ⟨fSs, hfSs, hvSs⟩ := hS.sps
  obtain ⟨fNs, hfNs, hvNs⟩ := hS.nds
  obtain ⟨fGs, hfGs, hvGs⟩ := hS.dgs
  obtain ⟨fTs, hfTs, hvTs⟩ := hS.sts
  have hdn := hS.dl
  have hn := hS.nl
  refine r_aload_n dX2_copyFrom_90 rfl ?_
  refine r_get (k := 3) dX2_copyFrom_91 hS.lab rfl rfl (by decide) kX2_38F ?_
  refine r_iconst (v := nI 0) dX2_copyFrom_94 (by decide) ?_
  refine r_aload_n dX2_copyFrom_95 rfl ?_
  refine r_get (k := 3) dX2_copyFrom_96 r1 rfl rfl (by decide) kX2_38F ?_
  refine r_iconst (v := nI 0) dX2_copyFrom_99 (by decide) ?_
  refine r_iconst (v := nI 3) dX2_copyFrom_100 (by decide) ?_
  refine r_copyi dX2_copyFrom_101 kX2_73M kJ_cpN kJ_cpS kJ_sys hfGs a4 (by decide) (by decide) (by decide) (by decide) (by decide) (Nat.le_of_ble_eq_true rfl) (Nat.le_of_ble_eq_true rfl) ?_
  refine r_mem (M1 := fup M1 (ad (c + 4)) (.inr (0, 3, .inl (va_cpy (fGs) (f4) 0 0 3)))) rfl ?_
  refine r_aload_n dX2_copyFrom_104 rfl ?_
  refine r_get (k := 4) dX2_copyFrom_105 ((fup_ne (hA.ne (by omega) (by omega) (by omega))).trans hS.lab) rfl rfl (by decide) kX2_44F ?_
  refine r_iconst (v := nI 0) dX2_copyFrom_108 (by decide) ?_
  refine r_aload_n dX2_copyFrom_109 rfl ?_
  refine r_get (k := 4) dX2_copyFrom_110 ((fup_ne (hA.ne (by omega) (by omega) (by omega))).trans r1) rfl rfl (by decide) kX2_44F ?_
  refine r_iconst (v := nI 0) dX2_copyFrom_113 (by decide) ?_
  refine r_iconst (v := nI 3) dX2_copyFrom_114 (by decide) ?_
  refine r_copyi dX2_copyFrom_115 kX2_73M kJ_cpN kJ_cpS kJ_sys ((fup_ne (hA.ne (by omega) (by omega) (by omega))).trans hfTs) ((fup_ne (hA.ne (by omega) (by omega) (by omega))).trans a5) (by decide) (by decide) (by decide) (by decide) (by decide) (Nat.le_of_ble_eq_true rfl) (Nat.le_of_ble_eq_true rfl) ?_
  refine r_mem (M1 := fup (fup M1 (ad (c + 4)) (.inr (0, 3, .inl (va_cpy (fGs) (f4) 0 0 3)))) (ad (c + 5)) (.inr (0, 3, .inl (va_cpy (fTs) (f5) 0 0 3)))) rfl ?_
  refine r_aload_n dX2_copyFrom_118 rfl ?_
  refine r_aload_n dX2_copyFrom_119 rfl ?_
  refine r_get (k := 5) dX2_copyFrom_120 ((fup_ne (hA.ne (by omega) (by omega) (by omega))).trans ((fup_ne (hA.ne (by omega) (by omega) (by omega))).trans hS.lab)) rfl rfl (by decide) kX2_57F ?_
  refine r_put (k := 5) (fs' := [.ref (ad (c + 1)), .ref (ad (c + 2)), .ref (ad (c + 3)), .ref (ad (c + 4)), .ref (ad (c + 5)), .int (nI (dn)), .int (x6), .int (x7), .int (x8), .int (x9), .int (x10)]) dX2_copyFrom_123 ((fup_ne (hA.ne (by omega) (by omega) (by omega))).trans ((fup_ne (hA.ne (by omega) (by omega) (by omega))).trans r1)) rfl (by decide) kX2_57F rfl rfl rfl (Nat.le_of_ble_eq_true rfl) rfl ?_
  refine r_aload_n dX2_copyFrom_126 rfl ?_
  refine r_aload_n dX2_copyFrom_127 rfl ?_
  refine r_get (k := 6) dX2_copyFrom_128 ((fup_ne (hA.ne (by omega) (by omega) (by omega))).trans ((fup_ne (hA.ne (by omega) (by omega) (by omega))).trans ((fup_ne (hA.ne (by omega) (by omega) (by omega))).trans hS.lab))) rfl rfl (by decide) kX2_64F ?_
  refine r_put (k := 6) (fs' := [.ref (ad (c + 1)), .ref (ad (c + 2)), .ref (ad (c + 3)), .ref (ad (c + 4)), .ref (ad (c + 5)), .int (nI (dn)), .int (nI (n)), .int (x7), .int (x8), .int (x9), .int (x10)]) dX2_copyFrom_131 fup_eq rfl (by decide) kX2_64F rfl rfl rfl (Nat.le_of_ble_eq_true rfl) rfl ?_
  refine r_mem fup_fup ?_
  refine r_aload_n dX2_copyFrom_134 rfl ?_
  refine r_aload_n dX2_copyFrom_135 rfl ?_
  refine r_get (k := 7) dX2_copyFrom_136 ((fup_ne (hA.ne (by omega) (by omega) (by omega))).trans ((fup_ne (hA.ne (by omega) (by omega) (by omega))).trans ((fup_ne (hA.ne (by omega) (by omega) (by omega))).trans hS.lab))) rfl rfl (by decide) kX2_79F ?_
  refine r_put (k := 7) (fs' := [.ref (ad (c + 1)), .ref (ad (c + 2)), .ref (ad (c + 3)), .ref (ad (c + 4)), .ref (ad (c + 5)), .int (nI (dn)), .int (nI (n)), .int (g 3), .int (x8), .int (x9), .int (x10)]) dX2_copyFrom_139 fup_eq rfl (by decide) kX2_79F rfl rfl rfl (Nat.le_of_ble_eq_true rfl) rfl ?_
  refine r_mem fup_fup ?_
  refine r_aload_n dX2_copyFrom_142 rfl ?_
  refine r_aload_n dX2_copyFrom_143 rfl ?_
  refine r_get (k := 8) dX2_copyFrom_144 ((fup_ne (hA.ne (by omega) (by omega) (by omega))).trans ((fup_ne (hA.ne (by omega) (by omega) (by omega))).trans ((fup_ne (hA.ne (by omega) (by omega) (by omega))).trans hS.lab))) rfl rfl (by decide) kX2_82F ?_
  refine r_put (k := 8) (fs' := [.ref (ad (c + 1)), .ref (ad (c + 2)), .ref (ad (c + 3)), .ref (ad (c + 4)), .ref (ad (c + 5)), .int (nI (dn)), .int (nI (n)), .int (g 3), .int (g 4), .int (x9), .int (x10)]) dX2_copyFrom_147 fup_eq rfl (by decide) kX2_82F rfl rfl rfl (Nat.le_of_ble_eq_true rfl) rfl ?_
  refine r_mem fup_fup ?_
  refine r_aload_n dX2_copyFrom_150 rfl ?_
  refine r_aload_n dX2_copyFrom_151 rfl ?_
  refine r_get (k := 9) dX2_copyFrom_152 ((fup_ne (hA.ne (by omega) (by omega) (by omega))).trans ((fup_ne (hA.ne (by omega) (by omega) (by omega))).trans ((fup_ne (hA.ne (by omega) (by omega) (by omega))).trans hS.lab))) rfl rfl (by decide) kX2_47F ?_
  refine r_put (k := 9) (fs' := [.ref (ad (c + 1)), .ref (ad (c + 2)), .ref (ad (c + 3)), .ref (ad (c + 4)), .ref (ad (c + 5)), .int (nI (dn)), .int (nI (n)), .int (g 3), .int (g 4), .int (g 8), .int (x10)]) dX2_copyFrom_155 fup_eq rfl (by decide) kX2_47F rfl rfl rfl (Nat.le_of_ble_eq_true rfl) rfl ?_
  refine r_mem fup_fup ?_
  refine r_aload_n dX2_copyFrom_158 rfl ?_
  refine r_aload_n dX2_copyFrom_159 rfl ?_
  refine r_get (k := 10) dX2_copyFrom_160 ((fup_ne (hA.ne (by omega) (by omega) (by omega))).trans ((fup_ne (hA.ne (by omega) (by omega) (by omega))).trans ((fup_ne (hA.ne (by omega) (by omega) (by omega))).trans hS.lab))) rfl rfl (by decide) kX2_51F ?_
  refine r_put (k := 10) (fs' := [.ref (ad (c + 1)), .ref (ad (c + 2)), .ref (ad (c + 3)), .ref (ad (c + 4)), .ref (ad (c + 5)), .int (nI (dn)), .int (nI (n)), .int (g 3), .int (g 4), .int (g 8), .int (g 9)]) dX2_copyFrom_163 fup_eq rfl (by decide) kX2_51F rfl rfl rfl (Nat.le_of_ble_eq_true rfl) rfl ?_
  refine r_mem fup_fup ?_
  refine fR_vret dX2_copyFrom_166 rfl ⟨rfl, ?_, ?_⟩
  · refine copy_end hA hc hC hL hI ?_ ?_
    · intro t ht h0 h4 h5; exact (fup_ne (hA.ne ht (by omega) h0)).trans ((fup_ne (hA.ne ht (by omega) h5)).trans (fup_ne (hA.ne ht (by omega) h4)))
    · exact ⟨fup_eq, ⟨_, (fup_ne (hA.ne (by omega) (by omega) (by omega))).trans ((fup_ne (hA.ne (by omega) (by omega) (by omega))).trans fup_eq), fun b hb => by show (if _ then _ else _) = _; rw [if_pos (by omega), show 0 + (b - 0) = b by omega]; exact hvGs b hb⟩, ⟨_, (fup_ne (hA.ne (by omega) (by omega) (by omega))).trans fup_eq, fun b hb => by show (if _ then _ else _) = _; rw [if_pos (by omega), show 0 + (b - 0) = b by omega]; exact hvTs b hb⟩⟩
  · exact ((h1.trans (Off.up (by omega))).trans (Off.up (by omega))).trans (Off.up0 (by omega))
theorem lX2_cp3 {l : Launch} {κ : KP} {M0 : Mem} {ad : Nat → Nat} {c c2 : Nat} {g : Nat → Int32} {dn n : Nat} {π ρ : Nat → Nat} (hA : aInj ad) (hc : c + 31 ≤ 256) (hc2 : c2 + 31 ≤ 256) (hd2 : c + 31 ≤ c2 ∨ c2 + 31 ≤ c) (hL : LabAt M0 ad c2 g dn n ρ) (hI : BI g dn n) : ∀ (N i : Nat) (M1 : Mem), 3 < N + i → i ≤ 3 → CpInv M0 M1 ad c π g dn n i → fR l κ mX2_copyFrom 64 [(2, .int (nI (i))), (0, .ref (ad c)), (1, .ref (ad c2))] [] M1 0 0 (fun o M' => o = .inl none ∧ LabAt M' ad c g dn n π ∧ Off ad c 31 M0 M') := by
  intro N
  induction N with
  | zero => intro i M1 h1 h2; omega
  | succ N ih =>
    intro i M1 g1 g2 hC
    obtain ⟨h1, ⟨⟨x5, x6, x7, x8, x9, x10, r1⟩, ⟨f1, a1, b1⟩, ⟨f2, a2, b2⟩, ⟨f3, a3, b3⟩, ⟨f4, a4⟩, ⟨f5, a5⟩, r7, r9, r11, r12, r13⟩, hdr, hsp, hnd⟩ := id hC
    have hS := hL.off hA hc2 hc (by omega) h1
    obtain ⟨fDs, hfDs, hvDs⟩ := hS.drs
    obtain ⟨fSs, hfSs, hvSs⟩ := hS.sps
    obtain ⟨fNs, hfNs, hvNs⟩ := hS.nds
    obtain ⟨fGs, hfGs, hvGs⟩ := hS.dgs
    obtain ⟨fTs, hfTs, hvTs⟩ := hS.sts
    have hdn := hS.dl
    have hn := hS.nl
    refine r_iload_n dX2_copyFrom_64 rfl ?_
    refine r_iconst (v := nI 3) dX2_copyFrom_65 (by decide) ?_
    refine r_icmp_geN (tgt := 90) dX2_copyFrom_66 (by decide) (by omega) (by omega) (fun c1 => ?_) (fun c1 => ?_)
    · skip
      have e : i = 3 := by omega
      subst e
      refine r_lv (lv' := [(0, .ref (ad c)), (1, .ref (ad c2))]) (by simp) ?_
      exact lX2_cpT hA hc hc2 hd2 hL hI hC
    · skip
      refine r_aload_n dX2_copyFrom_69 rfl ?_
      refine r_get (k := 2) dX2_copyFrom_70 r1 rfl rfl (by decide) kX2_25F ?_
      refine r_iload_n dX2_copyFrom_73 rfl ?_
      refine r_aldqN dX2_copyFrom_74 a3 rfl (by omega) (by decide) (b3 _ (by omega)) ?_
      refine r_aload_n dX2_copyFrom_75 rfl ?_
      refine r_get (k := 2) dX2_copyFrom_76 hS.lab rfl rfl (by decide) kX2_25F ?_
      refine r_iload_n dX2_copyFrom_79 rfl ?_
      refine r_aldqN dX2_copyFrom_80 hfNs rfl (by omega) (by decide) (hvNs _ (by omega)) ?_
      obtain ⟨ow, ob, ou, ho⟩ := r11 i (by omega)
      refine r_callV (As := [.ref (ad (c2 + 28 + (i)))]) dX2_copyFrom_81 (tX3_copyFrom (hA.ne (by omega) (by omega) (by omega)) (hI.nd i (by omega)).2 ho (hS.nd i (by omega))) rfl ho rfl rfl oX3_copyFrom rfl kX2_70M nX3_copyFrom eX3_copyFrom (by unfold fRoom; decide) (Nat.le_of_ble_eq_true rfl) rfl (bc' := 0) (bs' := 0) rfl rfl ?_
      show fR _ _ _ 84 _ _ _ _ _ _
      refine r_iinc (v := (nI (i + 1))) (lv' := [(2, .int (nI (i + 1))), (0, .ref (ad c)), (1, .ref (ad c2))]) dX2_copyFrom_84 rfl (nI_inc _) (by decide) rfl ?_
      refine r_goto (tgt := 64) dX2_copyFrom_87 (by decide) ?_
      refine r_lv (lv' := [(2, .int (nI (i + 1))), (0, .ref (ad c)), (1, .ref (ad c2))]) (by simp) ?_
      exact ih (i + 1) _ (by omega) (by omega) (hC.nd hA hc (by have := hL.dl; omega) (by have := hL.nl; omega) (by omega))
theorem lX2_cp2 {l : Launch} {κ : KP} {M0 : Mem} {ad : Nat → Nat} {c c2 : Nat} {g : Nat → Int32} {dn n : Nat} {π ρ : Nat → Nat} (hA : aInj ad) (hc : c + 31 ≤ 256) (hc2 : c2 + 31 ≤ 256) (hd2 : c + 31 ≤ c2 ∨ c2 + 31 ≤ c) (hL : LabAt M0 ad c2 g dn n ρ) (hI : BI g dn n) : ∀ (N i : Nat) (M1 : Mem), n < N + i → i ≤ n → CpInv M0 M1 ad c π g dn i 0 → fR l κ mX2_copyFrom 33 [(2, .int (nI (i))), (0, .ref (ad c)), (1, .ref (ad c2))] [] M1 0 0 (fun o M' => o = .inl none ∧ LabAt M' ad c g dn n π ∧ Off ad c 31 M0 M') := by
  intro N
  induction N with
  | zero => intro i M1 h1 h2; omega
  | succ N ih =>
    intro i M1 g1 g2 hC
    obtain ⟨h1, ⟨⟨x5, x6, x7, x8, x9, x10, r1⟩, ⟨f1, a1, b1⟩, ⟨f2, a2, b2⟩, ⟨f3, a3, b3⟩, ⟨f4, a4⟩, ⟨f5, a5⟩, r7, r9, r11, r12, r13⟩, hdr, hsp, hnd⟩ := id hC
    have hS := hL.off hA hc2 hc (by omega) h1
    obtain ⟨fDs, hfDs, hvDs⟩ := hS.drs
    obtain ⟨fSs, hfSs, hvSs⟩ := hS.sps
    obtain ⟨fNs, hfNs, hvNs⟩ := hS.nds
    obtain ⟨fGs, hfGs, hvGs⟩ := hS.dgs
    obtain ⟨fTs, hfTs, hvTs⟩ := hS.sts
    have hdn := hS.dl
    have hn := hS.nl
    refine r_iload_n dX2_copyFrom_33 rfl ?_
    refine r_aload_n dX2_copyFrom_34 rfl ?_
    refine r_get (k := 6) dX2_copyFrom_35 hS.lab rfl rfl (by decide) kX2_64F ?_
    refine r_icmp_geN (tgt := 62) dX2_copyFrom_38 (by decide) (by omega) (by omega) (fun c1 => ?_) (fun c1 => ?_)
    · skip
      have e : i = n := by omega
      rw [e] at hC
      refine r_iconst (v := nI 0) dX2_copyFrom_62 (by decide) ?_
      refine r_istore_n (lv' := [(2, .int (nI (0))), (0, .ref (ad c)), (1, .ref (ad c2))]) dX2_copyFrom_63 (by decide) rfl ?_
      refine r_lv (lv' := [(2, .int (nI 0)), (0, .ref (ad c)), (1, .ref (ad c2))]) (by simp) ?_
      exact lX2_cp3 hA hc hc2 hd2 hL hI 4 0 M1 (by omega) (by omega) hC
    · skip
      refine r_aload_n dX2_copyFrom_41 rfl ?_
      refine r_get (k := 1) dX2_copyFrom_42 r1 rfl rfl (by decide) kX2_19F ?_
      refine r_iload_n dX2_copyFrom_45 rfl ?_
      refine r_aldqN dX2_copyFrom_46 a2 rfl (by omega) (by decide) (b2 _ (by omega)) ?_
      refine r_aload_n dX2_copyFrom_47 rfl ?_
      refine r_get (k := 1) dX2_copyFrom_48 hS.lab rfl rfl (by decide) kX2_19F ?_
      refine r_iload_n dX2_copyFrom_51 rfl ?_
      refine r_aldqN dX2_copyFrom_52 hfSs rfl (by omega) (by decide) (hvSs _ (by omega)) ?_
      obtain ⟨y0, y1, y2, y3, y4, y5, yf, hy, hyf⟩ := r9 (π i) (r12 i (by omega))
      obtain ⟨hs1, sf, hsf, hsv⟩ := hS.sp i (by omega)
      have p1 := r12 i (by omega)
      have p2 := hS.pl i (by omega)
      have m9 := (hI.mM i (by omega)).2
      refine r_callV (As := [.ref (ad (c2 + 12 + ρ (i)))]) dX2_copyFrom_53 (tX6_copyFrom (hA.ne (by omega) (by omega) (by omega)) (hA.ne (by omega) (by omega) (by omega)) (hA.ne (by omega) (by omega) (by omega)) hy hyf hs1 hsf) rfl hy rfl rfl oX6_copyFrom rfl kX2_67M nX6_copyFrom eX6_copyFrom (by unfold fRoom; decide) (Nat.le_of_ble_eq_true rfl) rfl (bc' := 0) (bs' := 0) rfl rfl ?_
      show fR _ _ _ 56 _ _ _ _ _ _
      refine r_iinc (v := (nI (i + 1))) (lv' := [(2, .int (nI (i + 1))), (0, .ref (ad c)), (1, .ref (ad c2))]) dX2_copyFrom_56 rfl (nI_inc _) (by decide) rfl ?_
      refine r_goto (tgt := 33) dX2_copyFrom_59 (by decide) ?_
      refine r_lv (lv' := [(2, .int (nI (i + 1))), (0, .ref (ad c)), (1, .ref (ad c2))]) (by simp) ?_
      refine ih (i + 1) _ (by omega) (by omega) (hC.sp hA hc (by have := hL.dl; omega) (by omega) (by omega) (fun b h1 h2 => (fup_ne h2).trans (fup_ne h1)) ⟨(fup_ne (hA.ne (by omega) (by omega) (by omega))).trans fup_eq, _, fup_eq, ?_⟩)
      intro j hj
      show (if _ then _ else _) = _
      rw [if_pos (by omega), show 0 + (j - 0) = j by omega]
      exact hsv j hj
theorem lX2_cp1 {l : Launch} {κ : KP} {M0 : Mem} {ad : Nat → Nat} {c c2 : Nat} {g : Nat → Int32} {dn n : Nat} {π ρ : Nat → Nat} (hA : aInj ad) (hc : c + 31 ≤ 256) (hc2 : c2 + 31 ≤ 256) (hd2 : c + 31 ≤ c2 ∨ c2 + 31 ≤ c) (hL : LabAt M0 ad c2 g dn n ρ) (hI : BI g dn n) : ∀ (N i : Nat) (M1 : Mem), dn < N + i → i ≤ dn → CpInv M0 M1 ad c π g i 0 0 → fR l κ mX2_copyFrom 2 [(2, .int (nI (i))), (0, .ref (ad c)), (1, .ref (ad c2))] [] M1 0 0 (fun o M' => o = .inl none ∧ LabAt M' ad c g dn n π ∧ Off ad c 31 M0 M') := by
  intro N
  induction N with
  | zero => intro i M1 h1 h2; omega
  | succ N ih =>
    intro i M1 g1 g2 hC
    obtain ⟨h1, ⟨⟨x5, x6, x7, x8, x9, x10, r1⟩, ⟨f1, a1, b1⟩, ⟨f2, a2, b2⟩, ⟨f3, a3, b3⟩, ⟨f4, a4⟩, ⟨f5, a5⟩, r7, r9, r11, r12, r13⟩, hdr, hsp, hnd⟩ := id hC
    have hS := hL.off hA hc2 hc (by omega) h1
    obtain ⟨fDs, hfDs, hvDs⟩ := hS.drs
    obtain ⟨fSs, hfSs, hvSs⟩ := hS.sps
    obtain ⟨fNs, hfNs, hvNs⟩ := hS.nds
    obtain ⟨fGs, hfGs, hvGs⟩ := hS.dgs
    obtain ⟨fTs, hfTs, hvTs⟩ := hS.sts
    have hdn := hS.dl
    have hn := hS.nl
    refine r_iload_n dX2_copyFrom_2 rfl ?_
    refine r_aload_n dX2_copyFrom_3 rfl ?_
    refine r_get (k := 5) dX2_copyFrom_4 hS.lab rfl rfl (by decide) kX2_57F ?_
    refine r_icmp_geN (tgt := 31) dX2_copyFrom_7 (by decide) (by omega) (by omega) (fun c1 => ?_) (fun c1 => ?_)
    · skip
      have e : i = dn := by omega
      rw [e] at hC
      refine r_iconst (v := nI 0) dX2_copyFrom_31 (by decide) ?_
      refine r_istore_n (lv' := [(2, .int (nI (0))), (0, .ref (ad c)), (1, .ref (ad c2))]) dX2_copyFrom_32 (by decide) rfl ?_
      refine r_lv (lv' := [(2, .int (nI 0)), (0, .ref (ad c)), (1, .ref (ad c2))]) (by simp) ?_
      exact lX2_cp2 hA hc hc2 hd2 hL hI (n + 1) 0 M1 (by omega) (by omega) hC
    · skip
      refine r_aload_n dX2_copyFrom_10 rfl ?_
      refine r_get (k := 0) dX2_copyFrom_11 r1 rfl rfl (by decide) kX2_11F ?_
      refine r_iload_n dX2_copyFrom_14 rfl ?_
      refine r_aldqN dX2_copyFrom_15 a1 rfl (by omega) (by decide) (b1 _ (by omega)) ?_
      refine r_aload_n dX2_copyFrom_16 rfl ?_
      refine r_get (k := 0) dX2_copyFrom_17 hS.lab rfl rfl (by decide) kX2_11F ?_
      refine r_iload_n dX2_copyFrom_20 rfl ?_
      refine r_aldqN dX2_copyFrom_21 hfDs rfl (by omega) (by decide) (hvDs _ (by omega)) ?_
      obtain ⟨y0, y1, y2, hy⟩ := r7 i (by have := hL.dl; omega)
      refine r_callV (As := [.ref (ad (c2 + 6 + (i)))]) dX2_copyFrom_22 (tX0_copyFrom (hA.ne (by omega) (by omega) (by omega)) hy (hS.dr i (by omega))) rfl hy rfl rfl oX0_copyFrom rfl kX2_60M nX0_copyFrom eX0_copyFrom (by unfold fRoom; decide) (Nat.le_of_ble_eq_true rfl) rfl (bc' := 0) (bs' := 0) rfl rfl ?_
      show fR _ _ _ 25 _ _ _ _ _ _
      refine r_iinc (v := (nI (i + 1))) (lv' := [(2, .int (nI (i + 1))), (0, .ref (ad c)), (1, .ref (ad c2))]) dX2_copyFrom_25 rfl (nI_inc _) (by decide) rfl ?_
      refine r_goto (tgt := 2) dX2_copyFrom_28 (by decide) ?_
      refine r_lv (lv' := [(2, .int (nI (i + 1))), (0, .ref (ad c)), (1, .ref (ad c2))]) (by simp) ?_
      exact ih (i + 1) _ (by omega) (by omega) (hC.dr hA hc (by have := hL.dl; omega) (by omega) (by omega))
theorem tX2_copyFrom {l : Launch} {κ : KP} {M0 : Mem} {ad : Nat → Nat} {c c2 : Nat} {g : Nat → Int32} {dn n : Nat} {π ρ : Nat → Nat} (hA : aInj ad) (hc : c + 31 ≤ 256) (hc2 : c2 + 31 ≤ 256) (hd2 : c + 31 ≤ c2 ∨ c2 + 31 ≤ c) (hL : LabAt M0 ad c2 g dn n ρ) (hI : BI g dn n) (hR : LabRaw M0 ad c π) : fM l κ mX2_copyFrom [.ref (ad c), .ref (ad c2)] M0 (fun o M' => o = .inl none ∧ LabAt M' ad c g dn n π ∧ Off ad c 31 M0 M') := by
  refine fM_of rfl (by decide +kernel) (Nat.le_of_ble_eq_true rfl) ?_
  show fR l κ mX2_copyFrom 0 [(0, .ref (ad c)), (1, .ref (ad c2))] [] M0 0 0 _
  refine r_iconst (v := nI 0) dX2_copyFrom_0 (by decide) ?_
  refine r_istore_n (lv' := [(2, .int (nI 0)), (0, .ref (ad c)), (1, .ref (ad c2))]) dX2_copyFrom_1 (by decide) rfl ?_
  exact lX2_cp1 hA hc hc2 hd2 hL hI (dn + 1) 0 M0 (by omega) (by omega) ⟨Off.refl, hR, fun d hd => by omega, fun k hk => by omega, fun z hz => by omega⟩
