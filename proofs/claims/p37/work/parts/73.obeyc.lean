/-! THE CLASS'S ORDERS -/
theorem LabsAt.frame {ad : Nat → Nat} {M M2 : Mem} {g : Nat → Int32} {sn dn n : Nat} {kp : Bool} (h : LabsAt ad M g sn kp dn n) (hM : ∀ i, i < 256 → (i < 248 ∨ 252 ≤ i) → M2 (ad i) = M (ad i)) : LabsAt ad M2 g sn kp dn n := by
  obtain ⟨π, σ, a1, a2, ⟨f, a3, a4⟩, a5, a6, a7, a8, a9⟩ := h
  refine ⟨π, σ, a1.frame (fun j hj => hM _ (by omega) (by omega)), (hM _ (by omega) (by omega)).trans a2, ⟨f, (hM _ (by omega) (by omega)).trans a3, a4⟩, a5, a6, a7, ?_, ?_⟩
  · intro i hi
    have := a5 i hi
    obtain ⟨ρ, b1, b2⟩ := a8 i hi
    refine ⟨ρ, b1.frame (fun j hj => hM _ (by omega) (by omega)), fun h => ?_⟩
    obtain ⟨x, y, b3, b4⟩ := b2 h
    exact ⟨x, y, b3.frame (fun j hj => hM _ (by omega) (by omega)), b4⟩
  · obtain ⟨ρ, b1, b2⟩ := a9
    refine ⟨ρ, b1.frame (fun j hj => hM _ (by omega) (by omega)), fun h => ?_⟩
    obtain ⟨x, y, b3, b4⟩ := b2 h
    exact ⟨x, y, b3.frame (fun j hj => hM _ (by omega) (by omega)), b4⟩
