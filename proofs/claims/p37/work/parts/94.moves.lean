/-! MOVES THAT DON'T THROW: the answer, the new state -/
def sPost (κ : KP) (ad : Nat → Nat) (M : Mem) (z' : Zs) (v : Int32) : FPost := fun o M' => o = .inl (some (.int v)) ∧ (∃ dn' n', ClsAt κ ad M' z' dn' n') ∧ OffC ad M M'
section R94
variable {l : Launch} {κ : KP} {M M' : Mem} {ad : Nat → Nat} {g tx : Nat → Int32} {dn n sn ln : Nat} {kp : Bool}
theorem sPost_of {L : List String} {O : Oc} {v : Int32} {z' : Zs} {o : Out} (h : O = (0, v, z')) (hq : cPost κ ad M L O o M') : sPost κ ad M z' v o M' := by
  subst h
  obtain ⟨h1, h2, ⟨-, h3⟩ | ⟨h3, -⟩⟩ := hq
  · exact ⟨h3, h1, h2⟩
  · exact absurd rfl h3
theorem cNI {k : Nat} (h : k < 2 ^ 31) : cN (nI k) = k := nI_clamp h
theorem tV_drum (hA : aInj ad) (hC : ClsAt κ ad M ⟨g, sn, kp, tx, ln⟩ dn n) {p : Nat} (h1 : 20 ≤ p) (h2 : p ≤ 300) (h3 : dn ≠ 6) : fM l κ mX8_drum [.ref (ad 254), .int (nI p)] M (sPost κ ad M ⟨pDrum (pSave g sn) dn (nI p), pUp sn, kp, tx, ln⟩ (nI dn)) :=
  (tX8_drum hA hC).mono (fun o M' h => sPost_of (by unfold oDrum; rw [if_pos (pIn_nI h1 h2 (by omega)), if_neg h3]; rfl) h)
theorem tV_age (hA : aInj ad) (hC : ClsAt κ ad M ⟨g, sn, kp, tx, ln⟩ dn n) {p : Nat} (h1 : 1 ≤ p) (h2 : p ≤ 99) : fM l κ mX8_age [.ref (ad 254), .int (nI p)] M (sPost κ ad M ⟨pAgeG (pSave g sn) (nI p) dn, pUp sn, kp, tx, ln⟩ (pAgeM (pSave g sn) (nI p) dn)) :=
  (tX8_age hA hC).mono (fun o M' h => sPost_of (by unfold oAge; rw [if_pos (pIn_nI h1 h2 (by omega)), cNI (by omega)]; rfl) h)
theorem tV_sample (hA : aInj ad) (hC : ClsAt κ ad M ⟨g, sn, kp, tx, ln⟩ dn n) {d : Nat} (h1 : d < dn) (h2 : dn ≤ 6) (h3 : n ≠ 8) : fM l κ mX8_sample [.ref (ad 254), .int (nI d)] M (sPost κ ad M ⟨pTake (pSave g sn) n d, pUp sn, kp, tx, ln⟩ (nI n)) :=
  (tX8_sample hA hC).mono (fun o M' h => sPost_of (by unfold oSample; rw [if_pos (pNo_nI h1 (by omega)), if_neg h3, cNI (by omega)]; rfl) h)
theorem tV_toss (hA : aInj ad) (hC : ClsAt κ ad M ⟨g, sn, kp, tx, ln⟩ dn n) {k : Nat} (h1 : k < n) (h2 : n ≤ 8) : fM l κ mX8_toss [.ref (ad 254), .int (nI k)] M (sPost κ ad M ⟨pToss (pSave g sn) n k, pUp sn, kp, tx, ln⟩ (pOf (pSave g sn) k 5)) :=
  (tX8_toss hA hC).mono (fun o M' h => sPost_of (by unfold oToss; rw [if_pos (pNo_nI h1 (by omega)), cNI (by omega)]; rfl) h)
theorem tV_bathO (hA : aInj ad) (hC : ClsAt κ ad M ⟨g, sn, kp, tx, ln⟩ dn n) {k : Nat} (h1 : k < n) (h2 : n ≤ 8) : fM l κ mX8_bath [.ref (ad 254), .int (nI k), .int (-1)] M (sPost κ ad M ⟨upd (pSave g sn) (40 + 42 * k + 3) (-1), pUp sn, kp, tx, ln⟩ (pOf g k 3)) :=
  (tX8_bath hA hC).mono (fun o M' h => sPost_of (by unfold oBath; rw [if_pos (pNo_nI h1 (by omega)), cNI (by omega), if_pos rfl]; rfl) h)
theorem tV_bath (hA : aInj ad) (hC : ClsAt κ ad M ⟨g, sn, kp, tx, ln⟩ dn n) {k b : Nat} (h1 : k < n) (h2 : n ≤ 8) (hb : b < 3) (h3 : pOf g k 3 = nI b ∨ pInBath g n (nI b) < 3) : fM l κ mX8_bath [.ref (ad 254), .int (nI k), .int (nI b)] M (sPost κ ad M ⟨upd (pSave g sn) (40 + 42 * k + 3) (nI b), pUp sn, kp, tx, ln⟩ (pOf g k 3)) :=
  (tX8_bath hA hC).mono (fun o M' h => sPost_of (by unfold oBath; rw [if_pos (pNo_nI h1 (by omega)), cNI (by omega), if_neg (nI_m1 (by omega)), if_pos (pNo_nI hb (by omega)), if_pos h3]; rfl) h)
theorem tV_warm (hA : aInj ad) (hC : ClsAt κ ad M ⟨g, sn, kp, tx, ln⟩ dn n) {b t : Nat} (h1 : b < 3) (h2 : t ≤ 900) : fM l κ mX8_warm [.ref (ad 254), .int (nI b), .int (nI t)] M (sPost κ ad M ⟨upd (pSave g sn) (28 + b) (nI t), pUp sn, kp, tx, ln⟩ (g (28 + b))) :=
  (tX8_warm hA hC).mono (fun o M' h => sPost_of (by unfold oWarm; rw [if_pos (pNo_nI h1 (by omega)), if_pos (pIn_nI (Nat.zero_le _) h2 (by omega)), cNI (by omega)]; rfl) h)
theorem tV_pass (hA : aInj ad) (hC : ClsAt κ ad M ⟨g, sn, kp, tx, ln⟩ dn n) {p : Nat} (h1 : 1 ≤ p) (h2 : p ≤ 99) : fM l κ mX8_pass [.ref (ad 254), .int (nI p)] M (sPost κ ad M ⟨pPassT (pSave g sn) n p, pUp sn, kp, tx, ln⟩ (nI (pSame (pPassT (pSave g sn) n p) n))) :=
  (tX8_pass hA hC).mono (fun o M' h => sPost_of (by unfold oPass; rw [if_pos (pIn_nI h1 h2 (by omega)), cNI (by omega)]; rfl) h)
theorem tV_sink (hA : aInj ad) (hC : ClsAt κ ad M ⟨g, sn, kp, tx, ln⟩ dn n) {i k w s : Nat} (hi : i < 3) (hk : k < n) (hn : n ≤ 8) (h1 : 50 ≤ w) (h2 : w ≤ 200) (h3 : 1 ≤ s) (h4 : s ≤ 60) (h5 : pWhyNot g i k = nI 0) : fM l κ mX8_sink [.ref (ad 254), .int (nI i), .int (nI k), .int (nI w), .int (nI s)] M (sPost κ ad M ⟨pSink (pSave g sn) i k (nI w) (nI s), pUp sn, kp, tx, ln⟩ (pDep (pSave g sn) i k (nI w) (nI s))) :=
  (tX8_sink hA hC).mono (fun o M' h => sPost_of (by unfold oSink; rw [if_pos (pNo_nI hi (by omega)), if_pos (pNo_nI hk (by omega)), if_pos (pIn_nI h1 h2 (by omega)), if_pos (pIn_nI h3 h4 (by omega)), cNI (show i < 2 ^ 31 by omega), cNI (show k < 2 ^ 31 by omega)]; show (if pWhyNot g i k ≤ 0 then _ else _) = _; rw [h5, if_pos (by decide)]; rfl) h)
theorem tV_renew (hA : aInj ad) (hC : ClsAt κ ad M ⟨g, sn, kp, tx, ln⟩ dn n) {i : Nat} (hi : i < 3) : fM l κ mX8_renew [.ref (ad 254), .int (nI i)] M (sPost κ ad M ⟨pRenew (pSave g sn) i, pUp sn, kp, tx, ln⟩ (g (31 + 3 * i + 0))) :=
  (tX8_renew hA hC).mono (fun o M' h => sPost_of (by unfold oRenew; rw [if_pos (pNo_nI hi (by omega)), cNI (by omega)]; rfl) h)
theorem tV_ring (hA : aInj ad) (hC : ClsAt κ ad M ⟨g, sn, kp, tx, ln⟩ dn n) {k : Nat} (h1 : k < n) (h2 : n ≤ 8) (h3 : pOf g k 3 = -1) : fM l κ mX8_ring [.ref (ad 254), .int (nI k)] M (sPost κ ad M ⟨pRing (pSave g sn) k, pUp sn, kp, tx, ln⟩ (pRingR (pSave g sn) k)) :=
  (tX8_ring hA hC).mono (fun o M' h => sPost_of (by unfold oRing; rw [if_pos (pNo_nI h1 (by omega)), cNI (by omega), if_pos h3]; rfl) h)
theorem tV_sell (hA : aInj ad) (hC : ClsAt κ ad M ⟨g, sn, kp, tx, ln⟩ dn n) {d : Nat} (h1 : d < dn) (h2 : dn ≤ 6) (h3 : pWhyS g n d = nI 0) : fM l κ mX8_sell [.ref (ad 254), .int (nI d)] M (sPost κ ad M ⟨pSell (pSave g sn) n d, pUp sn, kp, tx, ln⟩ (pMean (pSave g sn) n d true / nI 20)) :=
  (tX8_sell hA hC).mono (fun o M' h => sPost_of (by unfold oSell; rw [if_pos (pNo_nI h1 (by omega)), cNI (by omega)]; show (if pWhyS g n d ≤ 0 then _ else _) = _; rw [h3, if_pos (by decide)]; rfl) h)
theorem tV_set (hA : aInj ad) (hC : ClsAt κ ad M ⟨g, sn, kp, tx, ln⟩ dn n) {i v : Nat} (hi : i < 3) (h0 : i = 0 → v ≤ 50) (h1 : i = 1 → v ≤ 100) (h2 : i = 2 → v ≤ 60) : fM l κ mX8_set [.ref (ad 254), .int (nI i), .int (nI v)] M (sPost κ ad M ⟨upd (pSave g sn) (5 + i) (nI v), pUp sn, kp, tx, ln⟩ (g (5 + i))) :=
  (tX8_set hA hC).mono (fun o M' h => sPost_of (by
    unfold oSet
    rw [if_pos (pIn_nI (Nat.zero_le _) (show i ≤ 2 by omega) (by omega)), cNI (by omega)]
    by_cases c0 : i = 0
    · rw [if_pos c0, if_pos (pIn_nI (Nat.zero_le _) (h0 c0) (by omega))]; rfl
    · rw [if_neg c0]
      by_cases c1 : i = 1
      · rw [if_pos c1, if_pos (pIn_nI (Nat.zero_le _) (h1 c1) (by omega))]; rfl
      · rw [if_neg c1, if_pos (pIn_nI (Nat.zero_le _) (h2 (by omega)) (by omega))]; rfl) h)
theorem tV_restore (hA : aInj ad) (hC : ClsAt κ ad M ⟨g, sn, true, tx, ln⟩ dn n) : fM l κ mX8_restore [.ref (ad 254)] M (sPost κ ad M ⟨pCp (pSave g sn) 7 0, pUp sn, true, tx, ln⟩ (pCp (pSave g sn) 7 0 1)) :=
  (tX8_restore hA hC).mono (fun o M' h => sPost_of (by unfold oRestore; rw [if_pos rfl]; rfl) h)
theorem tV_undo (hA : aInj ad) (hC : ClsAt κ ad M ⟨g, sn, kp, tx, ln⟩ dn n) (h : 0 < sn) : fM l κ mX8_undo [.ref (ad 254)] M (sPost κ ad M ⟨pCp g sn 0, sn - 1, kp, tx, ln⟩ (nI (sn - 1))) :=
  (tX8_undo hA hC).mono (fun o M' h9 => sPost_of (by unfold oUndo; rw [if_pos h]) h9)
theorem tV_keep (hA : aInj ad) (hC : ClsAt κ ad M ⟨g, sn, kp, tx, ln⟩ dn n) : fM l κ mX8_keep [.ref (ad 254)] M (sPost κ ad M ⟨pCp g 0 7, sn, true, tx, ln⟩ (nI n)) :=
  (tX8_keep hA hC).mono (fun o M' h => sPost_of rfl h)
end R94
