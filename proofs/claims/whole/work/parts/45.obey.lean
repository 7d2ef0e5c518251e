/-! orders that are done -/
theorem nI_m1 {c : Nat} (h : c < 2 ^ 31) : ¬ nI c = -1 := by
  intro e
  have h2 := congrArg Int32.toInt e
  rw [nI_toInt h, show (-1 : Int32).toInt = -1 from rfl] at h2
  omega
theorem pNo_n {d n : Nat} (hd : d < 2 ^ 30) (hn : n < 2 ^ 30) : pNo (nI d) n = decide (d < n) := by
  by_cases h : d < n
  · rw [decide_eq_true h]
    unfold pNo
    rw [pk_sub (by omega), pIn_n (by omega) (by omega) (by omega)]
    exact decide_eq_true (by omega)
  · rw [decide_eq_false h]
    cases hb : pNo (nI d) n with
    | false => rfl
    | true =>
      obtain ⟨k, hk, e⟩ := pNo_t hb hn
      rw [nI_eq (by omega) (by omega)] at e
      omega
def pStops (g : Nat → Int32) (dn n part : Nat) (u : Nat → Int32) : Int32 :=
  if part = 36 then (if cN (u 0) < dn then pWhyS g n (cN (u 0)) else nI 13)
  else if part = 98 then (if cN (u 0) < n then (if u 1 = -1 then nI 0 else if pOf g (cN (u 0)) 3 = u 1 ∨ pInBath g n (u 1) < 3 then nI 0 else nI 14) else nI 13)
  else if part = 110 then (if cN (u 1) < n then pWhyNot g (cN (u 0)) (cN (u 1)) else nI 13)
  else if part = 111 then (if cN (u 0) < n then (if pOf g (cN (u 0)) 3 = -1 then nI 0 else nI 8) else nI 13)
  else if part = 115 then (if cN (u 0) < dn then (if n = 8 then nI 14 else nI 0) else nI 13)
  else nI 0
def pDoes (g : Nat → Int32) (n part : Nat) (u : Nat → Int32) : Nat → Int32 :=
  if part = 36 then pSell g n (cN (u 0)) else if part = 98 then upd g (40 + 42 * cN (u 0) + 3) (u 1) else if part = 110 then pSink g (cN (u 0)) (cN (u 1)) (u 2) (u 3)
  else if part = 111 then pRing g (cN (u 0)) else if part = 115 then pTake g n (cN (u 0)) else pPassT g n (cN (u 0))
def pOb (ch : Nat → Nat) (dn : Nat) : Nat → (Nat → Int32) → Nat → Nat → Nat → (Nat → Int32) × Nat × Nat
  | 0, g, n, _, c => (g, c, n)
  | N + 1, g, n, i, c => if (rPart ch nu0 i).1 = true then (if pStops g dn n (ch i) (rPart ch nu0 i).2.2 ≤ 0 then pOb ch dn N (pDoes g n (ch i) (rPart ch nu0 i).2.2) (n + if ch i = 115 then 1 else 0) (if ch (rPart ch nu0 i).2.1 = 59 then (rPart ch nu0 i).2.1 + 1 else (rPart ch nu0 i).2.1) (c + 1) else (upd (upd g 8 (nI c)) 9 (pStops g dn n (ch i) (rPart ch nu0 i).2.2), c, n)) else (g, c, n)
theorem pStops_used {g : Nat → Int32} {dn n part : Nat} {u u' : Nat → Int32} (h : usedEq part u u') : pStops g dn n part u = pStops g dn n part u' := by
  obtain ⟨h0, h1, h2⟩ := h
  unfold pStops
  rw [h0]
  by_cases c : part = 98
  · rw [h1 c]
  · by_cases c2 : part = 110
    · rw [(h2 c2).1]
    · simp only [if_neg c, if_neg c2]
theorem pDoes_used {g : Nat → Int32} {n part : Nat} {u u' : Nat → Int32} (h : usedEq part u u') : pDoes g n part u = pDoes g n part u' := by
  obtain ⟨h0, h1, h2⟩ := h
  unfold pDoes
  rw [h0]
  by_cases c : part = 98
  · subst c; rw [if_neg (by decide), if_pos rfl, if_neg (by decide), if_pos rfl, h1 rfl]
  · by_cases c2 : part = 110
    · subst c2; rw [if_neg (by decide), if_neg (by decide), if_pos rfl, if_neg (by decide), if_neg (by decide), if_pos rfl, (h2 rfl).1, (h2 rfl).2.1, (h2 rfl).2.2]
    · simp only [if_neg c, if_neg c2]
theorem tX9_isDrum3 {l : Launch} {κ : KP} {M : Mem} {m sA tA nA : Nat} {th sv kp ln ap pt : Int32} {hs : Int64} {g tx nu : Nat → Int32} (hD : rDis m sA tA nA) {d dn : Nat} (h : g 0 = nI dn) (hd : d < 2 ^ 30) (hdn : dn < 2 ^ 30) : fM l κ mX9_isDrum [.ref m, .int (nI d)] (RM M m sA tA nA (th) (sv) (kp) (ln) (ap) (pt) (hs) (g) (tx) (nu)) (isI (bI (decide (d < dn))) (RM M m sA tA nA (th) (sv) (kp) (ln) (ap) (pt) (hs) (g) (tx) (nu))) := by
  have := tX9_isDrum2 (l := l) (κ := κ) (M := M) (th := th) (sv := sv) (kp := kp) (ln := ln) (ap := ap) (pt := pt) (hs := hs) (g := g) (tx := tx) (nu := nu) hD (v := nI d) h
  rw [pNo_n hd hdn] at this; exact this
theorem tX9_isSample3 {l : Launch} {κ : KP} {M : Mem} {m sA tA nA : Nat} {th sv kp ln ap pt : Int32} {hs : Int64} {g tx nu : Nat → Int32} (hD : rDis m sA tA nA) {d n : Nat} (h : g 1 = nI n) (hd : d < 2 ^ 30) (hn : n < 2 ^ 30) : fM l κ mX9_isSample [.ref m, .int (nI d)] (RM M m sA tA nA (th) (sv) (kp) (ln) (ap) (pt) (hs) (g) (tx) (nu)) (isI (bI (decide (d < n))) (RM M m sA tA nA (th) (sv) (kp) (ln) (ap) (pt) (hs) (g) (tx) (nu))) := by
  have := tX9_isSample2 (l := l) (κ := κ) (M := M) (th := th) (sv := sv) (kp := kp) (ln := ln) (ap := ap) (pt := pt) (hs := hs) (g := g) (tx := tx) (nu := nu) hD (v := nI d) h
  rw [pNo_n hd hn] at this; exact this
theorem tX9_stops_36 {l : Launch} {κ : KP} {M : Mem} {m sA tA nA : Nat} {th sv kp ln ap pt : Int32} {hs : Int64} {g tx nu : Nat → Int32} (hD : rDis m sA tA nA) {dn n : Nat} (hI : BI g dn n) {d : Nat} (hd : d < 6) (e0 : nu 0 = nI d) : fM l κ mX9_stops [.ref (m)] (RM M m sA tA nA (th) (sv) (kp) (ln) (ap) (nI (36)) (hs) (g) (tx) (nu)) (isI (pStops g dn n 36 nu) (RM M m sA tA nA (th) (sv) (kp) (ln) (ap) (nI (36)) (hs) (g) (tx) (nu))) := by
  refine fM_of rfl (by decide +kernel) (Nat.le_of_ble_eq_true rfl) ?_
  have hn := hI.nle
  have hg := hI.n0
  have hdn := hI.dle
  have hg0 := hI.d0
  have hM := hI.mM
  have hB := hI.mB
  have h1 := hI.m1
  have hs0 := hI.s0
  have f0 : cN (nu 0) = d := by rw [e0]; exact nI_clamp (by omega)
  show fR l κ mX9_stops 0 [(0, .ref (m))] [] (RM M m sA tA nA (th) (sv) (kp) (ln) (ap) (nI (36)) (hs) (g) (tx) (nu)) 0 0 _
  refine r_aload_n dX9_stops_0 rfl ?_
  refine r_get (k := 7) dX9_stops_1 RM_0 rfl rfl (by decide) kX9_148F ?_
  refine r_lookup (off := 88) (tgt := 92) dX9_stops_4 (by decide) (by decide) (by decide) ?_
  refine r_aload_n dX9_stops_92 rfl ?_
  refine r_aload_n dX9_stops_93 rfl ?_
  refine r_get (k := 8) dX9_stops_94 RM_0 rfl rfl (by decide) kX9_16F ?_
  refine r_iconst (v := nI 0) dX9_stops_97 (by decide) ?_
  refine r_ialdN dX9_stops_98 (RM_3 hD) (by omega) (by decide) rfl ?_
  refine r_top (y := (nI (d))) e0 ?_
  refine r_callV (As := [.int (nI (d))]) dX9_stops_99 (tX9_isDrum3 hD hg0 (by omega) (by omega)) rfl RM_0 rfl rfl oX9_isDrum rfl kX9_98M nX9_isDrum eX9_isDrum (by unfold fRoom; decide) (Nat.le_of_ble_eq_true rfl) rfl (bc' := 0) (bs' := 0) rfl rfl ?_
  show fR _ _ _ 102 _ (.int (bI (decide (d < dn))) :: _) _ _ _ _
  refine r_if_neB (tgt := 110) dX9_stops_102 (by decide) (fun c1 => ?_) (fun c1 => ?_)
  · skip
    have hc1 := of_decide_eq_true c1
    refine r_aload_n dX9_stops_110 rfl ?_
    refine r_aload_n dX9_stops_111 rfl ?_
    refine r_get (k := 8) dX9_stops_112 RM_0 rfl rfl (by decide) kX9_16F ?_
    refine r_iconst (v := nI 0) dX9_stops_115 (by decide) ?_
    refine r_ialdN dX9_stops_116 (RM_3 hD) (by omega) (by decide) rfl ?_
    refine r_top (y := (nI (d))) e0 ?_
    refine r_callV (As := [.int (nI (d))]) dX9_stops_117 (tX9_whyNotSold hD hn hg hM (by omega)) rfl RM_0 rfl rfl oX9_whyNotSold rfl kX9_129M nX9_whyNotSold eX9_whyNotSold (by unfold fRoom; decide) (Nat.le_of_ble_eq_true rfl) rfl (bc' := 0) (bs' := 0) rfl rfl ?_
    show fR _ _ _ 120 _ (.int (pWhyS (g) n (d)) :: _) _ _ _ _
    exact fR_iret dX9_stops_120 rfl (isI_of (by unfold pStops; rw [f0]; (repeat (first | rw [if_pos (by first | assumption | exact Int32.not_le.mp (by assumption) | exact Int32.not_lt.mp (by assumption) | omega)] | rw [if_neg (by first | assumption | exact Int32.not_lt.mpr (by assumption) | exact Int32.not_le.mpr (by assumption) | exact bne_of (by assumption) | exact not_not_intro (by assumption) | omega)])); first | done | rfl))
  · skip
    have hc1 := of_decide_eq_false c1
    refine r_bipush (v := nI 13) dX9_stops_105 (by decide) ?_
    refine r_goto (tgt := 120) dX9_stops_107 (by decide) ?_
    exact fR_iret dX9_stops_120 rfl (isI_of (by unfold pStops; rw [f0]; (repeat (first | rw [if_pos (by first | assumption | exact Int32.not_le.mp (by assumption) | exact Int32.not_lt.mp (by assumption) | omega)] | rw [if_neg (by first | assumption | exact Int32.not_lt.mpr (by assumption) | exact Int32.not_le.mpr (by assumption) | exact bne_of (by assumption) | exact not_not_intro (by assumption) | omega)])); first | done | rfl))
theorem tX9_stops_98 {l : Launch} {κ : KP} {M : Mem} {m sA tA nA : Nat} {th sv kp ln ap pt : Int32} {hs : Int64} {g tx nu : Nat → Int32} (hD : rDis m sA tA nA) {dn n : Nat} (hI : BI g dn n) {k : Nat} {b : Int32} (hk8 : k < 8) (e0 : nu 0 = nI k) (e1 : nu 1 = b) : fM l κ mX9_stops [.ref (m)] (RM M m sA tA nA (th) (sv) (kp) (ln) (ap) (nI (98)) (hs) (g) (tx) (nu)) (isI (pStops g dn n 98 nu) (RM M m sA tA nA (th) (sv) (kp) (ln) (ap) (nI (98)) (hs) (g) (tx) (nu))) := by
  refine fM_of rfl (by decide +kernel) (Nat.le_of_ble_eq_true rfl) ?_
  have hn := hI.nle
  have hg := hI.n0
  have hdn := hI.dle
  have hg0 := hI.d0
  have hM := hI.mM
  have hB := hI.mB
  have h1 := hI.m1
  have hs0 := hI.s0
  have f0 : cN (nu 0) = k := by rw [e0]; exact nI_clamp (by omega)
  show fR l κ mX9_stops 0 [(0, .ref (m))] [] (RM M m sA tA nA (th) (sv) (kp) (ln) (ap) (nI (98)) (hs) (g) (tx) (nu)) 0 0 _
  refine r_aload_n dX9_stops_0 rfl ?_
  refine r_get (k := 7) dX9_stops_1 RM_0 rfl rfl (by decide) kX9_148F ?_
  refine r_lookup (off := 157) (tgt := 161) dX9_stops_4 (by decide) (by decide) (by decide) ?_
  refine r_aload_n dX9_stops_161 rfl ?_
  refine r_aload_n dX9_stops_162 rfl ?_
  refine r_get (k := 8) dX9_stops_163 RM_0 rfl rfl (by decide) kX9_16F ?_
  refine r_iconst (v := nI 0) dX9_stops_166 (by decide) ?_
  refine r_ialdN dX9_stops_167 (RM_3 hD) (by omega) (by decide) rfl ?_
  refine r_top (y := (nI (k))) e0 ?_
  refine r_callV (As := [.int (nI (k))]) dX9_stops_168 (tX9_isSample3 hD hg (by omega) (by omega)) rfl RM_0 rfl rfl oX9_isSample rfl kX9_104M nX9_isSample eX9_isSample (by unfold fRoom; decide) (Nat.le_of_ble_eq_true rfl) rfl (bc' := 0) (bs' := 0) rfl rfl ?_
  show fR _ _ _ 171 _ (.int (bI (decide (k < n))) :: _) _ _ _ _
  refine r_if_neB (tgt := 179) dX9_stops_171 (by decide) (fun c1 => ?_) (fun c1 => ?_)
  · skip
    have hc1 := of_decide_eq_true c1
    refine r_aload_n dX9_stops_179 rfl ?_
    refine r_get (k := 8) dX9_stops_180 RM_0 rfl rfl (by decide) kX9_16F ?_
    refine r_iconst (v := nI 1) dX9_stops_183 (by decide) ?_
    refine r_ialdN dX9_stops_184 (RM_3 hD) (by omega) (by decide) rfl ?_
    refine r_top (y := (b)) e1 ?_
    refine r_iconst (v := (-1)) dX9_stops_185 (by decide) ?_
    refine r_icmp_eq (tgt := 213) dX9_stops_186 (by decide) (fun c2 => ?_) (fun c2 => ?_)
    · skip
      refine r_iconst (v := nI 0) dX9_stops_213 (by decide) ?_
      exact fR_iret dX9_stops_214 rfl (isI_of (by unfold pStops; rw [f0, e1]; (repeat (first | rw [if_pos (by first | assumption | exact Int32.not_le.mp (by assumption) | exact Int32.not_lt.mp (by assumption) | omega)] | rw [if_neg (by first | assumption | exact Int32.not_lt.mpr (by assumption) | exact Int32.not_le.mpr (by assumption) | exact bne_of (by assumption) | exact not_not_intro (by assumption) | omega)])); first | done | rfl))
    · skip
      refine r_aload_n dX9_stops_189 rfl ?_
      refine r_aload_n dX9_stops_190 rfl ?_
      refine r_get (k := 8) dX9_stops_191 RM_0 rfl rfl (by decide) kX9_16F ?_
      refine r_iconst (v := nI 0) dX9_stops_194 (by decide) ?_
      refine r_ialdN dX9_stops_195 (RM_3 hD) (by omega) (by decide) rfl ?_
      refine r_top (y := (nI (k))) e0 ?_
      refine r_aload_n dX9_stops_196 rfl ?_
      refine r_get (k := 8) dX9_stops_197 RM_0 rfl rfl (by decide) kX9_16F ?_
      refine r_iconst (v := nI 1) dX9_stops_200 (by decide) ?_
      refine r_ialdN dX9_stops_201 (RM_3 hD) (by omega) (by decide) rfl ?_
      refine r_top (y := (b)) e1 ?_
      refine r_callV (As := [.int (nI (k)), .int (b)]) dX9_stops_202 (tX9_hasRoom hD hn hg (by omega)) rfl RM_0 rfl rfl oX9_hasRoom rfl kX9_110M nX9_hasRoom eX9_hasRoom (by unfold fRoom; decide) (Nat.le_of_ble_eq_true rfl) rfl (bc' := 0) (bs' := 0) rfl rfl ?_
      show fR _ _ _ 205 _ (.int (bI (decide (pOf (g) (k) 3 = (b) ∨ pInBath (g) n (b) < 3))) :: _) _ _ _ _
      refine r_if_neB (tgt := 213) dX9_stops_205 (by decide) (fun c3 => ?_) (fun c3 => ?_)
      · skip
        have hc3 := of_decide_eq_true c3
        refine r_iconst (v := nI 0) dX9_stops_213 (by decide) ?_
        exact fR_iret dX9_stops_214 rfl (isI_of (by unfold pStops; rw [f0, e1]; (repeat (first | rw [if_pos (by first | assumption | exact Int32.not_le.mp (by assumption) | exact Int32.not_lt.mp (by assumption) | omega)] | rw [if_neg (by first | assumption | exact Int32.not_lt.mpr (by assumption) | exact Int32.not_le.mpr (by assumption) | exact bne_of (by assumption) | exact not_not_intro (by assumption) | omega)])); first | done | rfl))
      · skip
        have hc3 := of_decide_eq_false c3
        refine r_bipush (v := nI 14) dX9_stops_208 (by decide) ?_
        refine r_goto (tgt := 214) dX9_stops_210 (by decide) ?_
        exact fR_iret dX9_stops_214 rfl (isI_of (by unfold pStops; rw [f0, e1]; (repeat (first | rw [if_pos (by first | assumption | exact Int32.not_le.mp (by assumption) | exact Int32.not_lt.mp (by assumption) | omega)] | rw [if_neg (by first | assumption | exact Int32.not_lt.mpr (by assumption) | exact Int32.not_le.mpr (by assumption) | exact bne_of (by assumption) | exact not_not_intro (by assumption) | omega)])); first | done | rfl))
  · skip
    have hc1 := of_decide_eq_false c1
    refine r_bipush (v := nI 13) dX9_stops_174 (by decide) ?_
    refine r_goto (tgt := 214) dX9_stops_176 (by decide) ?_
    exact fR_iret dX9_stops_214 rfl (isI_of (by unfold pStops; rw [f0, e1]; (repeat (first | rw [if_pos (by first | assumption | exact Int32.not_le.mp (by assumption) | exact Int32.not_lt.mp (by assumption) | omega)] | rw [if_neg (by first | assumption | exact Int32.not_lt.mpr (by assumption) | exact Int32.not_le.mpr (by assumption) | exact bne_of (by assumption) | exact not_not_intro (by assumption) | omega)])); first | done | rfl))
theorem tX9_stops_110 {l : Launch} {κ : KP} {M : Mem} {m sA tA nA : Nat} {th sv kp ln ap pt : Int32} {hs : Int64} {g tx nu : Nat → Int32} (hD : rDis m sA tA nA) {dn n : Nat} (hI : BI g dn n) {nd k w s : Nat} (hnd : nd < 3) (hk8 : k < 8) (e0 : nu 0 = nI nd) (e1 : nu 1 = nI k) (e2 : nu 2 = nI w) (e3 : nu 3 = nI s) : fM l κ mX9_stops [.ref (m)] (RM M m sA tA nA (th) (sv) (kp) (ln) (ap) (nI (110)) (hs) (g) (tx) (nu)) (isI (pStops g dn n 110 nu) (RM M m sA tA nA (th) (sv) (kp) (ln) (ap) (nI (110)) (hs) (g) (tx) (nu))) := by
  refine fM_of rfl (by decide +kernel) (Nat.le_of_ble_eq_true rfl) ?_
  have hn := hI.nle
  have hg := hI.n0
  have hdn := hI.dle
  have hg0 := hI.d0
  have hM := hI.mM
  have hB := hI.mB
  have h1 := hI.m1
  have hs0 := hI.s0
  have f0 : cN (nu 0) = nd := by rw [e0]; exact nI_clamp (by omega)
  have f1 : cN (nu 1) = k := by rw [e1]; exact nI_clamp (by omega)
  show fR l κ mX9_stops 0 [(0, .ref (m))] [] (RM M m sA tA nA (th) (sv) (kp) (ln) (ap) (nI (110)) (hs) (g) (tx) (nu)) 0 0 _
  refine r_aload_n dX9_stops_0 rfl ?_
  refine r_get (k := 7) dX9_stops_1 RM_0 rfl rfl (by decide) kX9_148F ?_
  refine r_lookup (off := 211) (tgt := 215) dX9_stops_4 (by decide) (by decide) (by decide) ?_
  refine r_aload_n dX9_stops_215 rfl ?_
  refine r_aload_n dX9_stops_216 rfl ?_
  refine r_get (k := 8) dX9_stops_217 RM_0 rfl rfl (by decide) kX9_16F ?_
  refine r_iconst (v := nI 1) dX9_stops_220 (by decide) ?_
  refine r_ialdN dX9_stops_221 (RM_3 hD) (by omega) (by decide) rfl ?_
  refine r_top (y := (nI (k))) e1 ?_
  refine r_callV (As := [.int (nI (k))]) dX9_stops_222 (tX9_isSample3 hD hg (by omega) (by omega)) rfl RM_0 rfl rfl oX9_isSample rfl kX9_104M nX9_isSample eX9_isSample (by unfold fRoom; decide) (Nat.le_of_ble_eq_true rfl) rfl (bc' := 0) (bs' := 0) rfl rfl ?_
  show fR _ _ _ 225 _ (.int (bI (decide (k < n))) :: _) _ _ _ _
  refine r_if_neB (tgt := 233) dX9_stops_225 (by decide) (fun c1 => ?_) (fun c1 => ?_)
  · skip
    have hc1 := of_decide_eq_true c1
    refine r_aload_n dX9_stops_233 rfl ?_
    refine r_aload_n dX9_stops_234 rfl ?_
    refine r_get (k := 8) dX9_stops_235 RM_0 rfl rfl (by decide) kX9_16F ?_
    refine r_iconst (v := nI 0) dX9_stops_238 (by decide) ?_
    refine r_ialdN dX9_stops_239 (RM_3 hD) (by omega) (by decide) rfl ?_
    refine r_top (y := (nI (nd))) e0 ?_
    refine r_aload_n dX9_stops_240 rfl ?_
    refine r_get (k := 8) dX9_stops_241 RM_0 rfl rfl (by decide) kX9_16F ?_
    refine r_iconst (v := nI 1) dX9_stops_244 (by decide) ?_
    refine r_ialdN dX9_stops_245 (RM_3 hD) (by omega) (by decide) rfl ?_
    refine r_top (y := (nI (k))) e1 ?_
    refine r_callV (As := [.int (nI (nd)), .int (nI (k))]) dX9_stops_246 (tX9_whyNot hD (by omega) (by omega) (hM _ (by omega)).1 (hM _ (by omega)).2 (hB _ (by omega))) rfl RM_0 rfl rfl oX9_whyNot rfl kX9_120M nX9_whyNot eX9_whyNot (by unfold fRoom; decide) (Nat.le_of_ble_eq_true rfl) rfl (bc' := 0) (bs' := 0) rfl rfl ?_
    show fR _ _ _ 249 _ (.int (pWhyNot (g) (nd) (k)) :: _) _ _ _ _
    exact fR_iret dX9_stops_249 rfl (isI_of (by unfold pStops; rw [f0, f1]; (repeat (first | rw [if_pos (by first | assumption | exact Int32.not_le.mp (by assumption) | exact Int32.not_lt.mp (by assumption) | omega)] | rw [if_neg (by first | assumption | exact Int32.not_lt.mpr (by assumption) | exact Int32.not_le.mpr (by assumption) | exact bne_of (by assumption) | exact not_not_intro (by assumption) | omega)])); first | done | rfl))
  · skip
    have hc1 := of_decide_eq_false c1
    refine r_bipush (v := nI 13) dX9_stops_228 (by decide) ?_
    refine r_goto (tgt := 249) dX9_stops_230 (by decide) ?_
    exact fR_iret dX9_stops_249 rfl (isI_of (by unfold pStops; rw [f0, f1]; (repeat (first | rw [if_pos (by first | assumption | exact Int32.not_le.mp (by assumption) | exact Int32.not_lt.mp (by assumption) | omega)] | rw [if_neg (by first | assumption | exact Int32.not_lt.mpr (by assumption) | exact Int32.not_le.mpr (by assumption) | exact bne_of (by assumption) | exact not_not_intro (by assumption) | omega)])); first | done | rfl))
theorem tX9_stops_111 {l : Launch} {κ : KP} {M : Mem} {m sA tA nA : Nat} {th sv kp ln ap pt : Int32} {hs : Int64} {g tx nu : Nat → Int32} (hD : rDis m sA tA nA) {dn n : Nat} (hI : BI g dn n) {k : Nat} (hk8 : k < 8) (e0 : nu 0 = nI k) : fM l κ mX9_stops [.ref (m)] (RM M m sA tA nA (th) (sv) (kp) (ln) (ap) (nI (111)) (hs) (g) (tx) (nu)) (isI (pStops g dn n 111 nu) (RM M m sA tA nA (th) (sv) (kp) (ln) (ap) (nI (111)) (hs) (g) (tx) (nu))) := by
  refine fM_of rfl (by decide +kernel) (Nat.le_of_ble_eq_true rfl) ?_
  have hn := hI.nle
  have hg := hI.n0
  have hdn := hI.dle
  have hg0 := hI.d0
  have hM := hI.mM
  have hB := hI.mB
  have h1 := hI.m1
  have hs0 := hI.s0
  have f0 : cN (nu 0) = k := by rw [e0]; exact nI_clamp (by omega)
  show fR l κ mX9_stops 0 [(0, .ref (m))] [] (RM M m sA tA nA (th) (sv) (kp) (ln) (ap) (nI (111)) (hs) (g) (tx) (nu)) 0 0 _
  refine r_aload_n dX9_stops_0 rfl ?_
  refine r_get (k := 7) dX9_stops_1 RM_0 rfl rfl (by decide) kX9_148F ?_
  refine r_lookup (off := 117) (tgt := 121) dX9_stops_4 (by decide) (by decide) (by decide) ?_
  refine r_aload_n dX9_stops_121 rfl ?_
  refine r_aload_n dX9_stops_122 rfl ?_
  refine r_get (k := 8) dX9_stops_123 RM_0 rfl rfl (by decide) kX9_16F ?_
  refine r_iconst (v := nI 0) dX9_stops_126 (by decide) ?_
  refine r_ialdN dX9_stops_127 (RM_3 hD) (by omega) (by decide) rfl ?_
  refine r_top (y := (nI (k))) e0 ?_
  refine r_callV (As := [.int (nI (k))]) dX9_stops_128 (tX9_isSample3 hD hg (by omega) (by omega)) rfl RM_0 rfl rfl oX9_isSample rfl kX9_104M nX9_isSample eX9_isSample (by unfold fRoom; decide) (Nat.le_of_ble_eq_true rfl) rfl (bc' := 0) (bs' := 0) rfl rfl ?_
  show fR _ _ _ 131 _ (.int (bI (decide (k < n))) :: _) _ _ _ _
  refine r_if_neB (tgt := 139) dX9_stops_131 (by decide) (fun c1 => ?_) (fun c1 => ?_)
  · skip
    have hc1 := of_decide_eq_true c1
    refine r_aload_n dX9_stops_139 rfl ?_
    refine r_aload_n dX9_stops_140 rfl ?_
    refine r_get (k := 8) dX9_stops_141 RM_0 rfl rfl (by decide) kX9_16F ?_
    refine r_iconst (v := nI 0) dX9_stops_144 (by decide) ?_
    refine r_ialdN dX9_stops_145 (RM_3 hD) (by omega) (by decide) rfl ?_
    refine r_top (y := (nI (k))) e0 ?_
    refine r_iconst (v := nI 3) dX9_stops_146 (by decide) ?_
    refine r_callV (As := [.int (nI (k)), .int (nI (3))]) dX9_stops_147 (tX9_of hD (by omega)) rfl RM_0 rfl rfl oX9_of rfl kX9_31M nX9_of eX9_of (by unfold fRoom; decide) (Nat.le_of_ble_eq_true rfl) rfl (bc' := 0) (bs' := 0) rfl rfl ?_
    show fR _ _ _ 150 _ (.int (pOf (g) (k) (3)) :: _) _ _ _ _
    refine r_iconst (v := (-1)) dX9_stops_150 (by decide) ?_
    refine r_icmp_eq (tgt := 159) dX9_stops_151 (by decide) (fun c2 => ?_) (fun c2 => ?_)
    · skip
      refine r_iconst (v := nI 0) dX9_stops_159 (by decide) ?_
      exact fR_iret dX9_stops_160 rfl (isI_of (by unfold pStops; rw [f0]; (repeat (first | rw [if_pos (by first | assumption | exact Int32.not_le.mp (by assumption) | exact Int32.not_lt.mp (by assumption) | omega)] | rw [if_neg (by first | assumption | exact Int32.not_lt.mpr (by assumption) | exact Int32.not_le.mpr (by assumption) | exact bne_of (by assumption) | exact not_not_intro (by assumption) | omega)])); first | done | rfl))
    · skip
      refine r_bipush (v := nI 8) dX9_stops_154 (by decide) ?_
      refine r_goto (tgt := 160) dX9_stops_156 (by decide) ?_
      exact fR_iret dX9_stops_160 rfl (isI_of (by unfold pStops; rw [f0]; (repeat (first | rw [if_pos (by first | assumption | exact Int32.not_le.mp (by assumption) | exact Int32.not_lt.mp (by assumption) | omega)] | rw [if_neg (by first | assumption | exact Int32.not_lt.mpr (by assumption) | exact Int32.not_le.mpr (by assumption) | exact bne_of (by assumption) | exact not_not_intro (by assumption) | omega)])); first | done | rfl))
  · skip
    have hc1 := of_decide_eq_false c1
    refine r_bipush (v := nI 13) dX9_stops_134 (by decide) ?_
    refine r_goto (tgt := 160) dX9_stops_136 (by decide) ?_
    exact fR_iret dX9_stops_160 rfl (isI_of (by unfold pStops; rw [f0]; (repeat (first | rw [if_pos (by first | assumption | exact Int32.not_le.mp (by assumption) | exact Int32.not_lt.mp (by assumption) | omega)] | rw [if_neg (by first | assumption | exact Int32.not_lt.mpr (by assumption) | exact Int32.not_le.mpr (by assumption) | exact bne_of (by assumption) | exact not_not_intro (by assumption) | omega)])); first | done | rfl))
theorem tX9_stops_115 {l : Launch} {κ : KP} {M : Mem} {m sA tA nA : Nat} {th sv kp ln ap pt : Int32} {hs : Int64} {g tx nu : Nat → Int32} (hD : rDis m sA tA nA) {dn n : Nat} (hI : BI g dn n) {d : Nat} (hd : d < 6) (e0 : nu 0 = nI d) : fM l κ mX9_stops [.ref (m)] (RM M m sA tA nA (th) (sv) (kp) (ln) (ap) (nI (115)) (hs) (g) (tx) (nu)) (isI (pStops g dn n 115 nu) (RM M m sA tA nA (th) (sv) (kp) (ln) (ap) (nI (115)) (hs) (g) (tx) (nu))) := by
  refine fM_of rfl (by decide +kernel) (Nat.le_of_ble_eq_true rfl) ?_
  have hn := hI.nle
  have hg := hI.n0
  have hdn := hI.dle
  have hg0 := hI.d0
  have hM := hI.mM
  have hB := hI.mB
  have h1 := hI.m1
  have hs0 := hI.s0
  have f0 : cN (nu 0) = d := by rw [e0]; exact nI_clamp (by omega)
  show fR l κ mX9_stops 0 [(0, .ref (m))] [] (RM M m sA tA nA (th) (sv) (kp) (ln) (ap) (nI (115)) (hs) (g) (tx) (nu)) 0 0 _
  refine r_aload_n dX9_stops_0 rfl ?_
  refine r_get (k := 7) dX9_stops_1 RM_0 rfl rfl (by decide) kX9_148F ?_
  refine r_lookup (off := 52) (tgt := 56) dX9_stops_4 (by decide) (by decide) (by decide) ?_
  refine r_aload_n dX9_stops_56 rfl ?_
  refine r_aload_n dX9_stops_57 rfl ?_
  refine r_get (k := 8) dX9_stops_58 RM_0 rfl rfl (by decide) kX9_16F ?_
  refine r_iconst (v := nI 0) dX9_stops_61 (by decide) ?_
  refine r_ialdN dX9_stops_62 (RM_3 hD) (by omega) (by decide) rfl ?_
  refine r_top (y := (nI (d))) e0 ?_
  refine r_callV (As := [.int (nI (d))]) dX9_stops_63 (tX9_isDrum3 hD hg0 (by omega) (by omega)) rfl RM_0 rfl rfl oX9_isDrum rfl kX9_98M nX9_isDrum eX9_isDrum (by unfold fRoom; decide) (Nat.le_of_ble_eq_true rfl) rfl (bc' := 0) (bs' := 0) rfl rfl ?_
  show fR _ _ _ 66 _ (.int (bI (decide (d < dn))) :: _) _ _ _ _
  refine r_if_neB (tgt := 74) dX9_stops_66 (by decide) (fun c1 => ?_) (fun c1 => ?_)
  · skip
    have hc1 := of_decide_eq_true c1
    refine r_aload_n dX9_stops_74 rfl ?_
    refine r_get (k := 1) dX9_stops_75 RM_0 rfl rfl (by decide) kX9_7F ?_
    refine r_iconst (v := nI 1) dX9_stops_78 (by decide) ?_
    refine r_ialdN dX9_stops_79 (RM_1 hD) (by omega) (by decide) rfl ?_
    refine r_top (y := (nI (n))) hg ?_
    refine r_bipush (v := nI 8) dX9_stops_80 (by decide) ?_
    refine r_icmp_neN (tgt := 90) dX9_stops_82 (by decide) (by omega) (by omega) (fun c2 => ?_) (fun c2 => ?_)
    · skip
      refine r_iconst (v := nI 0) dX9_stops_90 (by decide) ?_
      exact fR_iret dX9_stops_91 rfl (isI_of (by unfold pStops; rw [f0]; (repeat (first | rw [if_pos (by first | assumption | exact Int32.not_le.mp (by assumption) | exact Int32.not_lt.mp (by assumption) | omega)] | rw [if_neg (by first | assumption | exact Int32.not_lt.mpr (by assumption) | exact Int32.not_le.mpr (by assumption) | exact bne_of (by assumption) | exact not_not_intro (by assumption) | omega)])); first | done | rfl))
    · skip
      refine r_bipush (v := nI 14) dX9_stops_85 (by decide) ?_
      refine r_goto (tgt := 91) dX9_stops_87 (by decide) ?_
      exact fR_iret dX9_stops_91 rfl (isI_of (by unfold pStops; rw [f0]; (repeat (first | rw [if_pos (by first | assumption | exact Int32.not_le.mp (by assumption) | exact Int32.not_lt.mp (by assumption) | omega)] | rw [if_neg (by first | assumption | exact Int32.not_lt.mpr (by assumption) | exact Int32.not_le.mpr (by assumption) | exact bne_of (by assumption) | exact not_not_intro (by assumption) | omega)])); first | done | rfl))
  · skip
    have hc1 := of_decide_eq_false c1
    refine r_bipush (v := nI 13) dX9_stops_69 (by decide) ?_
    refine r_goto (tgt := 91) dX9_stops_71 (by decide) ?_
    exact fR_iret dX9_stops_91 rfl (isI_of (by unfold pStops; rw [f0]; (repeat (first | rw [if_pos (by first | assumption | exact Int32.not_le.mp (by assumption) | exact Int32.not_lt.mp (by assumption) | omega)] | rw [if_neg (by first | assumption | exact Int32.not_lt.mpr (by assumption) | exact Int32.not_le.mpr (by assumption) | exact bne_of (by assumption) | exact not_not_intro (by assumption) | omega)])); first | done | rfl))
theorem tX9_stops_43 {l : Launch} {κ : KP} {M : Mem} {m sA tA nA : Nat} {th sv kp ln ap pt : Int32} {hs : Int64} {g tx nu : Nat → Int32} (hD : rDis m sA tA nA) {dn n : Nat} (hI : BI g dn n) : fM l κ mX9_stops [.ref (m)] (RM M m sA tA nA (th) (sv) (kp) (ln) (ap) (nI (43)) (hs) (g) (tx) (nu)) (isI (pStops g dn n 43 nu) (RM M m sA tA nA (th) (sv) (kp) (ln) (ap) (nI (43)) (hs) (g) (tx) (nu))) := by
  refine fM_of rfl (by decide +kernel) (Nat.le_of_ble_eq_true rfl) ?_
  show fR l κ mX9_stops 0 [(0, .ref (m))] [] (RM M m sA tA nA (th) (sv) (kp) (ln) (ap) (nI (43)) (hs) (g) (tx) (nu)) 0 0 _
  refine r_aload_n dX9_stops_0 rfl ?_
  refine r_get (k := 7) dX9_stops_1 RM_0 rfl rfl (by decide) kX9_148F ?_
  refine r_lookup (off := 246) (tgt := 250) dX9_stops_4 (by decide) (by decide) (by decide) ?_
  refine r_iconst (v := nI 0) dX9_stops_250 (by decide) ?_
  exact fR_iret dX9_stops_251 rfl (isI_of (by unfold pStops; (repeat (first | rw [if_pos (by first | assumption | exact Int32.not_le.mp (by assumption) | exact Int32.not_lt.mp (by assumption) | omega)] | rw [if_neg (by first | assumption | exact Int32.not_lt.mpr (by assumption) | exact Int32.not_le.mpr (by assumption) | exact bne_of (by assumption) | exact not_not_intro (by assumption) | omega)])); first | done | rfl))
theorem tX9_stops {l : Launch} {κ : KP} {M : Mem} {m sA tA nA : Nat} {th sv kp ln ap : Int32} {hs : Int64} {g tx nu : Nat → Int32} (hD : rDis m sA tA nA) {dn n : Nat} (hI : BI g dn n) {part : Nat} (hP : PN part nu) : fM l κ mX9_stops [.ref m] (RM M m sA tA nA (th) (sv) (kp) (ln) (ap) (nI (part)) (hs) (g) (tx) (nu)) (isI (pStops g dn n part nu) (RM M m sA tA nA (th) (sv) (kp) (ln) (ap) (nI (part)) (hs) (g) (tx) (nu))) := by
  rcases hP with ⟨rfl, d, hd, e0⟩ | ⟨rfl, -⟩ | ⟨rfl, k, hk, e0, -⟩ | ⟨rfl, nd, k, w, s, h1, h2, h3, h4, h5, h6, e0, e1, e2, e3⟩ | ⟨rfl, k, hk, e0⟩ | ⟨rfl, d, hd, e0⟩
  · exact tX9_stops_36 (pt := 0) hD hI hd e0
  · exact tX9_stops_43 (pt := 0) hD hI
  · exact tX9_stops_98 (pt := 0) hD hI hk e0 rfl
  · exact tX9_stops_110 (pt := 0) hD hI h1 h2 e0 e1 e2 e3
  · exact tX9_stops_111 (pt := 0) hD hI hk e0
  · exact tX9_stops_115 (pt := 0) hD hI hd e0
