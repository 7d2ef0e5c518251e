/-! the single places -/
theorem BI.uDeg {f : Nat → Int32} {dn n : Nat} (h : BI f dn n) {b x : Nat} (hb : b < 3) (hx : x ≤ 900) : BI (upd f (28 + b) (nI x)) dn n := by
  have hn := h.nle; have hd := h.dle
  exact h.upd1 ⟨by omega, fun d hd => ⟨fun e => by omega, fun e => by omega, fun e => by omega⟩, fun k hk => ⟨fun e => by omega, fun e => by omega, fun e => by omega, fun e => by omega, fun e => by omega, by omega⟩, fun k hk r hr h9 => ⟨fun e => by omega, fun e => by omega⟩, fun i hi => ⟨fun e => by omega, fun e => by omega⟩, fun b hb => fun e => ⟨x, hx, rfl⟩, fun e => by omega, fun e => by omega, fun e => by omega⟩
theorem BI.uSet5 {f : Nat → Int32} {dn n : Nat} (h : BI f dn n) {x : Nat} (hx : x ≤ 50) : BI (upd f 5 (nI x)) dn n := by
  have hn := h.nle; have hd := h.dle
  exact h.upd1 ⟨by omega, fun d hd => ⟨fun e => by omega, fun e => by omega, fun e => by omega⟩, fun k hk => ⟨fun e => by omega, fun e => by omega, fun e => by omega, fun e => by omega, fun e => by omega, by omega⟩, fun k hk r hr h9 => ⟨fun e => by omega, fun e => by omega⟩, fun i hi => ⟨fun e => by omega, fun e => by omega⟩, fun b hb => fun e => by omega, fun e => ⟨x, hx, rfl⟩, fun e => by omega, fun e => by omega⟩
theorem BI.uSet6 {f : Nat → Int32} {dn n : Nat} (h : BI f dn n) {x : Nat} (hx : x ≤ 100) : BI (upd f 6 (nI x)) dn n := by
  have hn := h.nle; have hd := h.dle
  exact h.upd1 ⟨by omega, fun d hd => ⟨fun e => by omega, fun e => by omega, fun e => by omega⟩, fun k hk => ⟨fun e => by omega, fun e => by omega, fun e => by omega, fun e => by omega, fun e => by omega, by omega⟩, fun k hk r hr h9 => ⟨fun e => by omega, fun e => by omega⟩, fun i hi => ⟨fun e => by omega, fun e => by omega⟩, fun b hb => fun e => by omega, fun e => by omega, fun e => ⟨x, hx, rfl⟩, fun e => by omega⟩
theorem BI.uSet7 {f : Nat → Int32} {dn n : Nat} (h : BI f dn n) {x : Nat} (hx : x ≤ 60) : BI (upd f 7 (nI x)) dn n := by
  have hn := h.nle; have hd := h.dle
  exact h.upd1 ⟨by omega, fun d hd => ⟨fun e => by omega, fun e => by omega, fun e => by omega⟩, fun k hk => ⟨fun e => by omega, fun e => by omega, fun e => by omega, fun e => by omega, fun e => by omega, by omega⟩, fun k hk r hr h9 => ⟨fun e => by omega, fun e => by omega⟩, fun i hi => ⟨fun e => by omega, fun e => by omega⟩, fun b hb => fun e => by omega, fun e => by omega, fun e => by omega, fun e => ⟨x, hx, rfl⟩⟩
theorem BI.u3 {f : Nat → Int32} {dn n : Nat} (h : BI f dn n) {x : Int32} : BI (upd f 3 x) dn n := by
  have hn := h.nle; have hd := h.dle
  exact h.upd1 ⟨by omega, fun d hd => ⟨fun e => by omega, fun e => by omega, fun e => by omega⟩, fun k hk => ⟨fun e => by omega, fun e => by omega, fun e => by omega, fun e => by omega, fun e => by omega, by omega⟩, fun k hk r hr h9 => ⟨fun e => by omega, fun e => by omega⟩, fun i hi => ⟨fun e => by omega, fun e => by omega⟩, fun b hb => fun e => by omega, fun e => by omega, fun e => by omega, fun e => by omega⟩
theorem BI.u4 {f : Nat → Int32} {dn n : Nat} (h : BI f dn n) {x : Int32} : BI (upd f 4 x) dn n := by
  have hn := h.nle; have hd := h.dle
  exact h.upd1 ⟨by omega, fun d hd => ⟨fun e => by omega, fun e => by omega, fun e => by omega⟩, fun k hk => ⟨fun e => by omega, fun e => by omega, fun e => by omega, fun e => by omega, fun e => by omega, by omega⟩, fun k hk r hr h9 => ⟨fun e => by omega, fun e => by omega⟩, fun i hi => ⟨fun e => by omega, fun e => by omega⟩, fun b hb => fun e => by omega, fun e => by omega, fun e => by omega, fun e => by omega⟩
theorem BI.u8 {f : Nat → Int32} {dn n : Nat} (h : BI f dn n) {x : Int32} : BI (upd f 8 x) dn n := by
  have hn := h.nle; have hd := h.dle
  exact h.upd1 ⟨by omega, fun d hd => ⟨fun e => by omega, fun e => by omega, fun e => by omega⟩, fun k hk => ⟨fun e => by omega, fun e => by omega, fun e => by omega, fun e => by omega, fun e => by omega, by omega⟩, fun k hk r hr h9 => ⟨fun e => by omega, fun e => by omega⟩, fun i hi => ⟨fun e => by omega, fun e => by omega⟩, fun b hb => fun e => by omega, fun e => by omega, fun e => by omega, fun e => by omega⟩
theorem BI.u9 {f : Nat → Int32} {dn n : Nat} (h : BI f dn n) {x : Int32} : BI (upd f 9 x) dn n := by
  have hn := h.nle; have hd := h.dle
  exact h.upd1 ⟨by omega, fun d hd => ⟨fun e => by omega, fun e => by omega, fun e => by omega⟩, fun k hk => ⟨fun e => by omega, fun e => by omega, fun e => by omega, fun e => by omega, fun e => by omega, by omega⟩, fun k hk r hr h9 => ⟨fun e => by omega, fun e => by omega⟩, fun i hi => ⟨fun e => by omega, fun e => by omega⟩, fun b hb => fun e => by omega, fun e => by omega, fun e => by omega, fun e => by omega⟩
theorem BI.uAge {f : Nat → Int32} {dn n : Nat} (h : BI f dn n) {d x : Nat} (hd0 : d < dn) (hx : x ≤ 999) : BI (upd f (10 + 3 * d + 1) (nI x)) dn n := by
  have hn := h.nle; have hd := h.dle
  exact h.upd1 ⟨by omega, fun d hd => ⟨fun e => by omega, fun e => ⟨x, hx, rfl⟩, fun e => by omega⟩, fun k hk => ⟨fun e => by omega, fun e => by omega, fun e => by omega, fun e => by omega, fun e => by omega, by omega⟩, fun k hk r hr h9 => ⟨fun e => by omega, fun e => by omega⟩, fun i hi => ⟨fun e => by omega, fun e => by omega⟩, fun b hb => fun e => by omega, fun e => by omega, fun e => by omega, fun e => by omega⟩
theorem BI.uClass {f : Nat → Int32} {dn n : Nat} (h : BI f dn n) {d x : Nat} (hd0 : d < dn) (hx : x ≤ 20) : BI (upd f (10 + 3 * d + 2) (nI x)) dn n := by
  have hn := h.nle; have hd := h.dle
  exact h.upd1 ⟨by omega, fun d hd => ⟨fun e => by omega, fun e => by omega, fun e => Or.inr ⟨x, hx, rfl⟩⟩, fun k hk => ⟨fun e => by omega, fun e => by omega, fun e => by omega, fun e => by omega, fun e => by omega, by omega⟩, fun k hk r hr h9 => ⟨fun e => by omega, fun e => by omega⟩, fun i hi => ⟨fun e => by omega, fun e => by omega⟩, fun b hb => fun e => by omega, fun e => by omega, fun e => by omega, fun e => by omega⟩
theorem BI.uWarm {f : Nat → Int32} {dn n : Nat} (h : BI f dn n) {k0 x : Nat} (hk0 : k0 < n) (hx : x ≤ 900) : BI (upd f (40 + 42 * k0 + 2) (nI x)) dn n := by
  have hn := h.nle; have hd := h.dle
  exact h.upd1 ⟨by omega, fun d hd => ⟨fun e => by omega, fun e => by omega, fun e => by omega⟩, fun k hk => ⟨fun e => by omega, fun e => by omega, fun e => ⟨x, hx, rfl⟩, fun e => by omega, fun e => by omega, by omega⟩, fun k hk r hr h9 => ⟨fun e => by omega, fun e => by omega⟩, fun i hi => ⟨fun e => by omega, fun e => by omega⟩, fun b hb => fun e => by omega, fun e => by omega, fun e => by omega, fun e => by omega⟩
theorem BI.uBath {f : Nat → Int32} {dn n : Nat} (h : BI f dn n) {k0 : Nat} {x : Int32} (hk0 : k0 < n) (hx : x = -1 ∨ ∃ b, b < 3 ∧ x = nI b) : BI (upd f (40 + 42 * k0 + 3) x) dn n := by
  have hn := h.nle; have hd := h.dle
  exact h.upd1 ⟨by omega, fun d hd => ⟨fun e => by omega, fun e => by omega, fun e => by omega⟩, fun k hk => ⟨fun e => by omega, fun e => by omega, fun e => by omega, fun e => hx, fun e => by omega, by omega⟩, fun k hk r hr h9 => ⟨fun e => by omega, fun e => by omega⟩, fun i hi => ⟨fun e => by omega, fun e => by omega⟩, fun b hb => fun e => by omega, fun e => by omega, fun e => by omega, fun e => by omega⟩
theorem BI.uSoft {f : Nat → Int32} {dn n : Nat} (h : BI f dn n) {k0 x : Nat} (hk0 : k0 < n) (hx : x ≤ 2100) (hx2 : 250 ≤ x) : BI (upd f (40 + 42 * k0 + 4) (nI x)) dn n := by
  have hn := h.nle; have hd := h.dle
  exact h.upd1 ⟨by omega, fun d hd => ⟨fun e => by omega, fun e => by omega, fun e => by omega⟩, fun k hk => ⟨fun e => by omega, fun e => by omega, fun e => by omega, fun e => by omega, fun e => Or.inr ⟨x, hx, hx2, rfl⟩, by omega⟩, fun k hk r hr h9 => ⟨fun e => by omega, fun e => by omega⟩, fun i hi => ⟨fun e => by omega, fun e => by omega⟩, fun b hb => fun e => by omega, fun e => by omega, fun e => by omega, fun e => by omega⟩
theorem BI.uWear {f : Nat → Int32} {dn n : Nat} (h : BI f dn n) {i x : Nat} (hi : i < 3) (hx : x ≤ 20) : BI (upd f (31 + 3 * i + 0) (nI x)) dn n := by
  have hn := h.nle; have hd := h.dle
  exact h.upd1 ⟨by omega, fun d hd => ⟨fun e => by omega, fun e => by omega, fun e => by omega⟩, fun k hk => ⟨fun e => by omega, fun e => by omega, fun e => by omega, fun e => by omega, fun e => by omega, by omega⟩, fun k hk r hr h9 => ⟨fun e => by omega, fun e => by omega⟩, fun i hi => ⟨fun e => ⟨x, hx, rfl⟩, fun e => by omega⟩, fun b hb => fun e => by omega, fun e => by omega, fun e => by omega, fun e => by omega⟩
theorem BI.uBent {f : Nat → Int32} {dn n : Nat} (h : BI f dn n) {i : Nat} {x : Int32} (hi : i < 3) (hx : x = nI 0 ∨ x = nI 1) : BI (upd f (31 + 3 * i + 1) x) dn n := by
  have hn := h.nle; have hd := h.dle
  exact h.upd1 ⟨by omega, fun d hd => ⟨fun e => by omega, fun e => by omega, fun e => by omega⟩, fun k hk => ⟨fun e => by omega, fun e => by omega, fun e => by omega, fun e => by omega, fun e => by omega, by omega⟩, fun k hk r hr h9 => ⟨fun e => by omega, fun e => by omega⟩, fun i hi => ⟨fun e => by omega, fun e => hx⟩, fun b hb => fun e => by omega, fun e => by omega, fun e => by omega, fun e => by omega⟩
theorem BI.uFar {f : Nat → Int32} {dn n : Nat} (h : BI f dn n) {j : Nat} {x : Int32} (hj : (10 + 3 * dn ≤ j ∧ j < 28) ∨ 40 + 42 * n ≤ j) : BI (upd f j x) dn n := by
  have hn := h.nle; have hd := h.dle
  exact h.upd1 ⟨by omega, fun d hd => ⟨fun e => by omega, fun e => by omega, fun e => by omega⟩, fun k hk => ⟨fun e => by omega, fun e => by omega, fun e => by omega, fun e => by omega, fun e => by omega, by omega⟩, fun k hk r hr h9 => ⟨fun e => by omega, fun e => by omega⟩, fun i hi => ⟨fun e => by omega, fun e => by omega⟩, fun b hb => fun e => by omega, fun e => by omega, fun e => by omega, fun e => by omega⟩
theorem BI.uRead {f : Nat → Int32} {dn n : Nat} (h : BI f dn n) {k0 i : Nat} {x : Int32} (hk0 : k0 < n) (hi : 4 * pMany f k0 ≤ i) (hi2 : i < 36) : BI (upd f (40 + 42 * k0 + (6 + i)) x) dn n := by
  have hn := h.nle; have hd := h.dle
  refine h.upd1 ⟨by omega, fun d hd => ⟨fun e => by omega, fun e => by omega, fun e => by omega⟩, fun k hk => ⟨fun e => by omega, fun e => by omega, fun e => by omega, fun e => by omega, fun e => by omega, by omega⟩, fun k hk r hr h9 => ?_, fun i hi => ⟨fun e => by omega, fun e => by omega⟩, fun b hb => fun e => by omega, fun e => by omega, fun e => by omega, fun e => by omega⟩
  by_cases ek : k = k0
  · subst ek; exact ⟨fun e => by omega, fun e => by omega⟩
  · exact ⟨fun e => by omega, fun e => by omega⟩
theorem BI.uDrums {f : Nat → Int32} {dn n : Nat} (h : BI f dn n) (hd6 : dn < 6) {s : Nat} (h0 : 20 ≤ s) (h1 : s ≤ 300) (e0 : f (10 + 3 * dn + 0) = nI s) (e1 : f (10 + 3 * dn + 1) = nI 0) (e2 : f (10 + 3 * dn + 2) = -1) : BI (upd f 0 (nI (dn + 1))) (dn + 1) n := by
  have hn := h.nle
  obtain ⟨g1, g2, g3, g4, g5, g6, g7, g8, g9, g10, g11⟩ := h
  refine ⟨pk_us, by omega, by rw [pk_un (by omega)]; exact g3, g4, ?_, ?_, ?_, ?_, ?_, ?_, ?_⟩
  · intro d hd
    rw [pk_un (by omega), pk_un (by omega), pk_un (by omega)]
    by_cases e : d < dn
    · exact g5 d e
    · have e' : d = dn := by omega
      rw [e']
      exact ⟨⟨s, h0, h1, e0⟩, ⟨0, by omega, e1⟩, Or.inl e2⟩
  · intro k hk
    obtain ⟨⟨d, a, b⟩, a1⟩ := g6 k hk
    rw [pMany_un (by omega)]
    unfold pOf at *
    rw [pk_un (by omega), pk_un (by omega), pk_un (by omega), pk_un (by omega), pk_un (by omega), pk_un (by omega)]
    exact ⟨⟨d, by omega, b⟩, a1⟩
  · intro k hk r hr
    rw [pMany_un (by omega)] at hr
    unfold pOf at *
    rw [pk_un (by omega), pk_un (by omega)]
    exact g7 k hk r hr
  · intro i hi
    rw [pk_un (by omega), pk_un (by omega)]; exact g8 i hi
  · rw [pk_un (by omega), pk_un (by omega), pk_un (by omega), pk_un (by omega)]; exact g9
  · intro b hb
    rw [pk_un (by omega)]; exact g10 b hb
  · rw [pk_un (by omega), pk_un (by omega), pk_un (by omega)]; exact g11
theorem BI.uSamples {f : Nat → Int32} {dn n : Nat} (h : BI f dn n) (hn8 : n < 8) (e0 : ∃ d, d < dn ∧ pOf f n 0 = nI d) (e1 : ∃ h, h ≤ 149 ∧ pOf f n 1 = nI h) (e2 : ∃ w, w ≤ 900 ∧ pOf f n 2 = nI w) (e3 : pOf f n 3 = -1) (e4 : pOf f n 4 = -1) (e5 : pOf f n 5 = nI 0) : BI (upd f 1 (nI (n + 1))) dn (n + 1) := by
  obtain ⟨g1, g2, g3, g4, g5, g6, g7, g8, g9, g10, g11⟩ := h
  have em : pMany f n = 0 := by unfold pMany; rw [e5]; rfl
  refine ⟨by rw [pk_un (by omega)]; exact g1, g2, pk_us, by omega, ?_, ?_, ?_, ?_, ?_, ?_, ?_⟩
  · intro d hd
    rw [pk_un (by omega), pk_un (by omega), pk_un (by omega)]
    exact g5 d hd
  · intro k hk
    rw [pMany_un (by omega)]
    unfold pOf at *
    rw [pk_un (by omega), pk_un (by omega), pk_un (by omega), pk_un (by omega), pk_un (by omega), pk_un (by omega)]
    by_cases e : k < n
    · exact g6 k e
    · have e' : k = n := by omega
      rw [e']
      exact ⟨e0, e1, e2, Or.inl e3, Or.inl e4, by rw [em]; exact e5, by omega⟩
  · intro k hk r hr
    rw [pMany_un (by omega)] at hr
    by_cases e : k < n
    · unfold pOf at *
      rw [pk_un (by omega), pk_un (by omega)]
      exact g7 k e r hr
    · have e' : k = n := by omega
      rw [e', em] at hr; omega
  · intro i hi
    rw [pk_un (by omega), pk_un (by omega)]; exact g8 i hi
  · rw [pk_un (by omega), pk_un (by omega), pk_un (by omega), pk_un (by omega)]; exact g9
  · intro b hb
    rw [pk_un (by omega)]; exact g10 b hb
  · rw [pk_un (by omega), pk_un (by omega), pk_un (by omega)]; exact g11
theorem BI.uMany {f : Nat → Int32} {dn n : Nat} (h : BI f dn n) {k0 : Nat} (hk0 : k0 < n) (h9 : pMany f k0 < 9) (e0 : ∃ x, x < 3 ∧ pOf f k0 (6 + 4 * pMany f k0 + 0) = nI x) (e1 : ∃ y, y ≤ 400 ∧ pOf f k0 (6 + 4 * pMany f k0 + 1) = nI y) : BI (upd f (40 + 42 * k0 + 5) (nI (pMany f k0 + 1))) dn n := by
  have hn := h.nle
  obtain ⟨g1, g2, g3, g4, g5, g6, g7, g8, g9, g10, g11⟩ := h
  have em : pMany (upd f (40 + 42 * k0 + 5) (nI (pMany f k0 + 1))) k0 = pMany f k0 + 1 := by
    show (upd f (40 + 42 * k0 + 5) (nI (pMany f k0 + 1)) (40 + 42 * k0 + 5)).toNatClampNeg = _
    rw [pk_us]; exact nI_clamp (by omega)
  refine ⟨by rw [pk_un (by omega)]; exact g1, g2, by rw [pk_un (by omega)]; exact g3, g4, ?_, ?_, ?_, ?_, ?_, ?_, ?_⟩
  · intro d hd
    rw [pk_un (by omega), pk_un (by omega), pk_un (by omega)]
    exact g5 d hd
  · intro k hk
    obtain ⟨a0, a1, a2, a3, a4, a5, a6⟩ := g6 k hk
    by_cases e : k = k0
    · subst e
      rw [em]
      unfold pOf at *
      rw [pk_us, pk_un (by omega), pk_un (by omega), pk_un (by omega), pk_un (by omega), pk_un (by omega)]
      exact ⟨a0, a1, a2, a3, a4, rfl, by omega⟩
    · rw [pMany_un (by omega)]
      unfold pOf at *
      rw [pk_un (by omega), pk_un (by omega), pk_un (by omega), pk_un (by omega), pk_un (by omega), pk_un (by omega)]
      exact ⟨a0, a1, a2, a3, a4, a5, a6⟩
  · intro k hk r hr
    have h6 := (g6 k hk).2.2.2.2.2.2
    by_cases e : k = k0
    · subst e
      rw [em] at hr
      unfold pOf at *
      rw [pk_un (by omega), pk_un (by omega)]
      by_cases er : r < pMany f k
      · exact g7 k hk r er
      · have er' : r = pMany f k := by omega
        rw [er']; exact ⟨e0, e1⟩
    · rw [pMany_un (by omega)] at hr
      unfold pOf at *
      rw [pk_un (by omega), pk_un (by omega)]
      exact g7 k hk r hr
  · intro i hi
    rw [pk_un (by omega), pk_un (by omega)]; exact g8 i hi
  · rw [pk_un (by omega), pk_un (by omega), pk_un (by omega), pk_un (by omega)]; exact g9
  · intro b hb
    rw [pk_un (by omega)]; exact g10 b hb
  · rw [pk_un (by omega), pk_un (by omega), pk_un (by omega)]; exact g11
theorem BI.uUsed {f : Nat → Int32} {dn n : Nat} (h : BI f dn n) {i : Nat} (hi0 : i < 3) {a b : Int32} (ea : a = f (31 + 3 * i + 2) + nI 1) (eb : b = f 2 + nI 1) : BI (upd (upd f (31 + 3 * i + 2) a) 2 b) dn n := by
  have hn := h.nle
  obtain ⟨g1, g2, g3, g4, g5, g6, g7, g8, g9, g10, g11⟩ := h
  have em : ∀ k, pMany (upd (upd f (31 + 3 * i + 2) a) 2 b) k = pMany f k := fun k => by rw [pMany_un (by omega), pMany_un (by omega)]
  have ee : ∀ j, j ≠ 2 → j ≠ 31 + 3 * i + 2 → upd (upd f (31 + 3 * i + 2) a) 2 b j = f j := fun j h1 h2 => by rw [pk_un h1, pk_un h2]
  refine ⟨by rw [ee _ (by omega) (by omega)]; exact g1, g2, by rw [ee _ (by omega) (by omega)]; exact g3, g4, ?_, ?_, ?_, ?_, ?_, ?_, ?_⟩
  · intro d hd
    rw [ee _ (by omega) (by omega), ee _ (by omega) (by omega), ee _ (by omega) (by omega)]
    exact g5 d hd
  · intro k hk
    rw [em]
    unfold pOf at *
    rw [ee _ (by omega) (by omega), ee _ (by omega) (by omega), ee _ (by omega) (by omega), ee _ (by omega) (by omega), ee _ (by omega) (by omega), ee _ (by omega) (by omega)]
    exact g6 k hk
  · intro k hk r hr
    rw [em] at hr
    have h6 := (g6 k hk).2.2.2.2.2.2
    unfold pOf at *
    rw [ee _ (by omega) (by omega), ee _ (by omega) (by omega)]
    exact g7 k hk r hr
  · intro i' hi'
    rw [ee _ (by omega) (by omega), ee _ (by omega) (by omega)]; exact g8 i' hi'
  · rw [pk_us]
    rw [eb, g9]
    have hc : i = 0 ∨ i = 1 ∨ i = 2 := by omega
    rcases hc with rfl | rfl | rfl
    · rw [pk_un (by omega), show 33 = 31 + 3 * 0 + 2 from rfl, pk_us, pk_un (by omega), pk_un (by omega), pk_un (by omega), pk_un (by omega), ea]
      ac_rfl
    · rw [pk_un (by omega), pk_un (by omega), pk_un (by omega), show 36 = 31 + 3 * 1 + 2 from rfl, pk_us, pk_un (by omega), pk_un (by omega), ea]
      ac_rfl
    · rw [pk_un (by omega), pk_un (by omega), pk_un (by omega), pk_un (by omega), pk_un (by omega), show 39 = 31 + 3 * 2 + 2 from rfl, pk_us, ea]
      ac_rfl
  · intro b' hb
    rw [ee _ (by omega) (by omega)]; exact g10 b' hb
  · rw [ee _ (by omega) (by omega), ee _ (by omega) (by omega), ee _ (by omega) (by omega)]; exact g11
