/-! STATES SAVED AND BROUGHT BACK -/
theorem BI.one {f : Nat → Int32} {a b a' b' : Nat} (h : BI f a b) (h' : BI f a' b') : a = a' ∧ b = b' := by
  have h1 := h.dle; have h2 := h.nle; have h3 := h'.dle; have h4 := h'.nle
  exact ⟨nI_inj (by omega) (by omega) (h.d0.symm.trans h'.d0), nI_inj (by omega) (by omega) (h.n0.symm.trans h'.n0)⟩
section St
variable {g f f1 h : Nat → Int32} {sn t dn n j : Nat}
theorem pUp_b (hs : sn ≤ 6) : 0 < pUp sn ∧ pUp sn ≤ 6 ∧ (sn < 6 → pUp sn = sn + 1) ∧ (sn = 6 → pUp sn = 6) := by
  unfold pUp; split <;> omega
theorem save_top (hs : sn ≤ 6) (hj : j < 376) : pSave g sn (376 * pUp sn + j) = g j := by
  unfold pSave pUp
  by_cases c : sn = 6
  · rw [if_pos c, if_pos c, pSave6_blk (by omega) hj, if_pos rfl]
  · rw [if_neg c, if_neg c, pSaveL_blk hj, if_pos rfl]
theorem save_below (h0 : 0 < t) (hs : t ≤ 6) (hj : j < 376) : pSave g t (376 * (pUp t - 1) + j) = g (376 * t + j) := by
  unfold pSave pUp
  by_cases c : t = 6
  · rw [if_pos c, if_pos c, pSave6_blk (by omega) hj, if_neg (by omega), if_pos (by omega), c]
  · rw [if_neg c, if_neg c, pSaveL_blk hj, if_neg (by omega), show t + 1 - 1 = t by omega]
theorem mv_state {m : Mov} (hm : MvOK m g dn n) (hI : BI g dn n) (hs : sn ≤ 6) {dn1 n1 : Nat} (hI1 : BI (m.2 (pSave g sn)) dn1 n1) :
    S6 (m.2 g) (m.2 (pSave g sn)) ∧ XI (m.2 (pSave g sn)) n1 ∧ ∀ j, 376 ≤ j → m.2 (pSave g sn) j = pSave g sn j := by
  obtain ⟨-, h2, h3, d', n', hI', hX'⟩ := hm
  have hE : E6 g (pSave g sn) dn n := ⟨hI, fun j hj => pSave_lo hj⟩
  have hQ : SQ g (pSave g sn) := fun j hj => save7 hs hj
  have hS := (h2 _ hE hQ).2
  have hI2 : BI (m.2 (pSave g sn)) d' n' := hI'.congr hS
  obtain ⟨-, rfl⟩ := hI1.one hI2
  exact ⟨hS, hX'.congr hI'.nle hS, h3 _ hE⟩
theorem far_SQ (hs : sn ≤ 6) (hf : ∀ j, 376 ≤ j → f j = pSave g sn j) : SQ g f := fun j hj => by rw [hf _ (by omega)]; exact save7 hs hj
theorem far_top (hs : sn ≤ 6) (hf : ∀ j, 376 ≤ j → f j = pSave g sn j) : ∀ j, j < 376 → f (376 * pUp sn + j) = g j := fun j hj => by
  have := (pUp_b hs).1
  rw [hf _ (by omega)]; exact save_top hs hj
theorem SQ.trans (h1 : SQ g f) (h2 : SQ f h) : SQ g h := fun j hj => (h2 j hj).trans (h1 j hj)
theorem S6.trans (h1 : S6 g f) (h2 : S6 f h) : S6 g h := fun j hj => (h2 j hj).trans (h1 j hj)
theorem XI.of7 {n7 : Nat} (h : XI (blk g 7) n7) (hn : n7 ≤ 8) (hq : SQ g f) : XI (blk f 7) n7 := h.congr hn (fun j hj => hq j hj)
theorem BI.of7 {d7 n7 : Nat} (h : BI (blk g 7) d7 n7) (hq : SQ g f) : BI (blk f 7) d7 n7 := h.congr (fun j hj => hq j hj)
theorem pCp_far {a : Nat} (hj : 376 ≤ j) : pCp f a 0 j = f j := by
  unfold pCp pCpK; rw [if_neg (by omega)]
end St
/-- behind a move -/
def stP (κ : KP) (ad : Nat → Nat) (M : Mem) (g : Nat → Int32) (sn : Nat) (tx : Nat → Int32) (ln dn n : Nat) (f : Nat → Int32) (v : Int32) : FPost := fun o M' => o = .inl (some (.int v)) ∧ ClsAt κ ad M' ⟨f, pUp sn, true, tx, ln⟩ dn n ∧ OffC ad M M' ∧ XI f n ∧ ∀ j, 376 ≤ j → f j = pSave g sn j
/-- behind an undo -/
def unP (κ : KP) (ad : Nat → Nat) (M : Mem) (h f : Nat → Int32) (t : Nat) (tx : Nat → Int32) (ln dn n : Nat) : FPost := fun o M' => o = .inl (some (.int (nI (t - 1)))) ∧ ∃ f', ClsAt κ ad M' ⟨f', t - 1, true, tx, ln⟩ dn n ∧ OffC ad M M' ∧ S6 h f' ∧ ∀ j, 376 ≤ j → f' j = f j
section Wt
variable {l : Launch} {κ : KP} {M M' : Mem} {ad : Nat → Nat} {g tx : Nat → Int32} {dn n sn ln : Nat}
theorem stP_of {m : Mov} {v v' : Int32} {o : Out} (hC : ClsAt κ ad M ⟨g, sn, true, tx, ln⟩ dn n) (hm : MvOK m g dn n) {dn' n' : Nat} (hI' : BI (m.2 g) dn' n') (e : v' = v) (h : sPost κ ad M ⟨m.2 (pSave g sn), pUp sn, true, tx, ln⟩ v' o M') : stP κ ad M g sn tx ln dn' n' (m.2 (pSave g sn)) v o M' := by
  obtain ⟨h1, ⟨a, b, h2⟩, h3⟩ := h
  have hI : BI g dn n := hC.2.2.1
  have hsn : sn ≤ 6 := hC.2.1.s6
  have hI1 : BI (m.2 (pSave g sn)) a b := h2.2.2.1
  obtain ⟨q1, q2, q3⟩ := mv_state hm hI hsn hI1
  obtain ⟨rfl, rfl⟩ := hI1.one (hI'.congr q1)
  exact ⟨by rw [h1, e], h2, h3, q2, q3⟩
theorem tW_sink (hA : aInj ad) (hC : ClsAt κ ad M ⟨g, sn, true, tx, ln⟩ dn n) (hX : XI g n) {i k w s : Nat} (hi : i < 3) (hk : k < n) (h1 : 50 ≤ w) (h2 : w ≤ 200) (h3 : 1 ≤ s) (h4 : s ≤ 60) (h5 : pWhyNot g i k = nI 0) : fM l κ mX8_sink [.ref (ad 254), .int (nI i), .int (nI k), .int (nI w), .int (nI s)] M (stP κ ad M g sn tx ln dn n (pSink (pSave g sn) i k (nI w) (nI s)) (pDep g i k (nI w) (nI s))) := by
  have hI : BI g dn n := hC.2.2.1
  have hE : E6 g (pSave g sn) dn n := ⟨hI, fun j hj => pSave_lo hj⟩
  have h9 := pWhyNot_many hI hk h5
  exact (tV_sink hA hC hi hk hI.nle h1 h2 h3 h4 h5).mono (fun o M' h => stP_of (m := mvSink i k w s) hC (mv_sink hI hX hi hk h9) (hI.sink hi hk h9) (hE.Dep hi hk) h)
theorem tW_ring (hA : aInj ad) (hC : ClsAt κ ad M ⟨g, sn, true, tx, ln⟩ dn n) (hX : XI g n) {k : Nat} (hk : k < n) (h3 : pOf g k 3 = -1) : fM l κ mX8_ring [.ref (ad 254), .int (nI k)] M (stP κ ad M g sn tx ln dn n (pRing (pSave g sn) k) (pRingR g k)) := by
  have hI : BI g dn n := hC.2.2.1
  have hE : E6 g (pSave g sn) dn n := ⟨hI, fun j hj => pSave_lo hj⟩
  exact (tV_ring hA hC hk hI.nle h3).mono (fun o M' h => stP_of (m := mvRing k) hC (mv_ring hI hX hk) (hI.ring hk) (hE.RingR hk) h)
theorem tW_renew (hA : aInj ad) (hC : ClsAt κ ad M ⟨g, sn, true, tx, ln⟩ dn n) (hX : XI g n) {i : Nat} (hi : i < 3) : fM l κ mX8_renew [.ref (ad 254), .int (nI i)] M (stP κ ad M g sn tx ln dn n (pRenew (pSave g sn) i) (g (31 + 3 * i + 0))) := by
  have hI : BI g dn n := hC.2.2.1
  exact (tV_renew hA hC hi).mono (fun o M' h => stP_of (m := mvRenew i) hC (mv_renew hI hX hi) (hI.renew hi) rfl h)
theorem tW_undo (hA : aInj ad) {f h : Nat → Int32} {t a b : Nat} (hC : ClsAt κ ad M ⟨f, t, true, tx, ln⟩ a b) (ht : 0 < t) (hT : ∀ j, j < 376 → f (376 * t + j) = h j) (hI : BI h dn n) : fM l κ mX8_undo [.ref (ad 254)] M (unP κ ad M h f t tx ln dn n) := by
  refine (tV_undo hA hC ht).mono (fun o M' q => ?_)
  obtain ⟨q1, ⟨a', b', q2⟩, q3⟩ := q
  have hS : S6 h (pCp f t 0) := fun j hj => by rw [pCp_0 hj]; exact hT j hj
  have hI1 : BI (pCp f t 0) a' b' := q2.2.2.1
  obtain ⟨rfl, rfl⟩ := hI1.one (hI.congr hS)
  exact ⟨q1, _, q2, q3, hS, fun j hj => pCp_far hj⟩
/-! what is seen behind a move -/
theorem sink_2 {G : Nat → Int32} {i k : Nat} {w s : Int32} (hi : i < 3) (h9 : pMany G k < 9) : pSink G i k w s 2 = G 2 + nI 1 := by
  rw [pSink_eq, pk_us]
  unfold sk5; rw [pk_un (by omega)]
  unfold sk4; rw [pk_un (by omega)]
  unfold sk3; rw [pk_un (by omega)]
  unfold sk2; rw [pk_un (by omega)]
  unfold sk1; rw [pk_un (by omega), pk_un (by omega), pk_un (by omega), pk_un (by omega)]
theorem sink_at {G : Nat → Int32} {i k j : Nat} {w s : Int32} (hi : i < 3) (hj : 40 ≤ j) : pSink G i k w s j = sk2 G i k w s j := by
  rw [pSink_eq, pk_un (by omega)]
  unfold sk5; rw [pk_un (by omega)]
  unfold sk4; rw [pk_un (by omega)]
  unfold sk3; rw [pk_un (by omega)]
theorem sink_many {G : Nat → Int32} {i k : Nat} {w s : Int32} (hi : i < 3) (h9 : pMany G k < 9) : pMany (pSink G i k w s) k = pMany G k + 1 := by
  unfold pMany pOf
  rw [sink_at hi (by omega)]
  unfold sk2; rw [pk_us, nI_clamp (by omega)]
  rfl
theorem sink_rd {G : Nat → Int32} {i k : Nat} {w s : Int32} (hi : i < 3) (h9 : pMany G k < 9) : rdF (pSink G i k w s) k (pMany G k) 1 = pDep G i k w s := by
  unfold rdF
  rw [sink_many hi h9, if_pos (by omega)]
  unfold pOf
  rw [sink_at hi (by omega), show 40 + 42 * k + (6 + (pMany G k * 4 + 1)) = 40 + 42 * k + (6 + 4 * pMany G k + 1) by omega]
  unfold sk2; rw [pk_un (by omega)]
  unfold sk1; rw [pk_un (by omega), pk_un (by omega), pk_us]
theorem ring_4 {G : Nat → Int32} {k : Nat} : pOf (pRing G k) k 4 = pRingR G k := by
  unfold pRing pRingR
  by_cases c : pOf G k 4 = -1
  · rw [if_pos c, if_pos c]; unfold pOf; exact pk_us
  · rw [if_neg c, if_neg c]
theorem ring_again {G : Nat → Int32} {k : Nat} (h : ¬ pRingR G k = -1) : pRingR (pRing G k) k = pRingR G k := by
  unfold pRingR
  rw [ring_4, if_neg h]
  rfl
theorem renew_0 {G : Nat → Int32} {i : Nat} (hi : i < 3) : pRenew G i (31 + 3 * i + 0) = nI 0 ∧ pRenew G i (31 + 3 * i + 1) = nI 0 := by
  unfold pRenew
  exact ⟨by rw [pk_un (by omega), pk_un (by omega), pk_us], by rw [pk_un (by omega), pk_us]⟩
theorem pWhyNot_1 {i k : Nat} (h : g (31 + 3 * i + 1) = nI 1) : pWhyNot g i k = nI 1 := if_pos h
theorem pWhyNot_n1 {i k : Nat} (h : ¬ g (31 + 3 * i + 1) = nI 1) : ¬ pWhyNot g i k = nI 1 := by
  unfold pWhyNot
  rw [if_neg h]
  repeat' split
  all_goals decide
theorem pWhyNot_2 {i k : Nat} (h : ¬ g (31 + 3 * i + 1) = nI 1) (h3 : pOf g k 3 = -1) : pWhyNot g i k = nI 2 := by
  unfold pWhyNot
  rw [if_neg h, if_pos h3]
theorem pWhyNot_n2 {i k : Nat} (h : ¬ g (31 + 3 * i + 1) = nI 1) (h3 : ¬ pOf g k 3 = -1) : ¬ pWhyNot g i k = nI 2 := by
  unfold pWhyNot
  rw [if_neg h, if_neg h3]
  repeat' split
  all_goals decide
end Wt
