/-! THE MACHINE AGAINST THE REFERENCE'S READING -/
/-- reading on from i to q -/
def runN (ch : Nat → Nat) : Nat → Nat → MS → Bool × MS
  | 0, _, s => (true, s)
  | N + 1, i, s => if (accN s (ch i)).1 = true then runN ch N (i + 1) (accN s (ch i)).2 else (false, s)
def Lands (ch : Nat → Nat) (i : Nat) (s : MS) (q : Nat) (S : MS) : Prop := ∃ k, q = i + k ∧ runN ch k i s = (true, S) ∧ ∀ t, i ≤ t → t < q → ch t ≠ 59
theorem Lands.refl {ch : Nat → Nat} {i : Nat} {s : MS} : Lands ch i s i s := ⟨0, rfl, rfl, fun t h1 h2 => by omega⟩
theorem runN_add {ch : Nat → Nat} : ∀ (a b i : Nat) (s S : MS), runN ch a i s = (true, S) → runN ch (a + b) i s = runN ch b (i + a) S
  | 0, b, i, s, S, h => by
    cases h; rw [Nat.zero_add]; rfl
  | a + 1, b, i, s, S, h => by
    rw [show a + 1 + b = (a + b) + 1 by omega]
    have e1 : ∀ N, runN ch (N + 1) i s = if (accN s (ch i)).1 = true then runN ch N (i + 1) (accN s (ch i)).2 else (false, s) := fun _ => rfl
    rw [e1] at h ⊢
    by_cases hc : (accN s (ch i)).1 = true
    · rw [if_pos hc] at h ⊢
      rw [runN_add a b (i + 1) _ S h, show i + 1 + a = i + (a + 1) by omega]
    · rw [if_neg hc] at h; cases h
theorem Lands.trans {ch : Nat → Nat} {i q r : Nat} {s S S2 : MS} (h : Lands ch i s q S) (h2 : Lands ch q S r S2) : Lands ch i s r S2 := by
  obtain ⟨a, e1, r1, c1⟩ := h
  obtain ⟨b, e2, r2, c2⟩ := h2
  refine ⟨a + b, by omega, ?_, fun t h1 h2 => ?_⟩
  · rw [runN_add a b i s S r1, ← e1]; exact r2
  · by_cases ht : t < q
    · exact c1 t h1 ht
    · exact c2 t (by omega) h2
theorem Lands.step {ch : Nat → Nat} {i : Nat} {s S : MS} (h : accN s (ch i) = (true, S)) (hc : ch i ≠ 59) : Lands ch i s (i + 1) S := by
  refine ⟨1, rfl, ?_, fun t h1 h2 => by rw [show t = i by omega]; exact hc⟩
  unfold runN; rw [h]; rfl
/-! numbers of several figures -/
/-! the parts -/
