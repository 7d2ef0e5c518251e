/-! THE REFERENCE'S MEMORY: one object, three arrays. -/
def RM (M : Mem) (m sA tA nA : Nat) (th sv kp ln ap pt : Int32) (hs : Int64) (g tx nu : Nat → Int32) : Mem := fun b =>
  if b = m then some (.inl (8, [.int th, .ref sA, .int sv, .int kp, .ref tA, .int ln, .int ap, .int pt, .ref nA, .long hs])) else if b = sA then some (.inr (0, 3008, .inl g)) else if b = tA then some (.inr (0, 60, .inl tx)) else if b = nA then some (.inr (0, 4, .inl nu)) else M b
def rDis (m sA tA nA : Nat) : Prop := sA ≠ m ∧ tA ≠ m ∧ nA ≠ m ∧ tA ≠ sA ∧ nA ≠ sA ∧ nA ≠ tA
section RMs
variable {M : Mem} {m sA tA nA : Nat} {th sv kp ln ap pt th' sv' kp' ln' ap' pt' : Int32} {hs hs' : Int64} {g tx nu g' : Nat → Int32}
theorem RM_0 : RM M m sA tA nA th sv kp ln ap pt hs g tx nu m = some (.inl (8, [.int th, .ref sA, .int sv, .int kp, .ref tA, .int ln, .int ap, .int pt, .ref nA, .long hs])) := if_pos rfl
theorem RM_1 (hD : rDis m sA tA nA) : RM M m sA tA nA th sv kp ln ap pt hs g tx nu sA = some (.inr (0, 3008, .inl g)) := by
  unfold RM; rw [if_neg hD.1, if_pos rfl]
theorem RM_2 (hD : rDis m sA tA nA) : RM M m sA tA nA th sv kp ln ap pt hs g tx nu tA = some (.inr (0, 60, .inl tx)) := by
  unfold RM; rw [if_neg hD.2.1, if_neg hD.2.2.2.1, if_pos rfl]
theorem RM_3 (hD : rDis m sA tA nA) : RM M m sA tA nA th sv kp ln ap pt hs g tx nu nA = some (.inr (0, 4, .inl nu)) := by
  unfold RM; rw [if_neg hD.2.2.1, if_neg hD.2.2.2.2.1, if_neg hD.2.2.2.2.2, if_pos rfl]
theorem RM_put : fup (RM M m sA tA nA th sv kp ln ap pt hs g tx nu) m (.inl (8, [.int th', .ref sA, .int sv', .int kp', .ref tA, .int ln', .int ap', .int pt', .ref nA, .long hs'])) = RM M m sA tA nA th' sv' kp' ln' ap' pt' hs' g tx nu := by
  funext b
  by_cases h : b = m
  · rw [h, fup_eq, RM_0]
  · rw [fup_ne h]; unfold RM; rw [if_neg h, if_neg h]
theorem RM_s1 (hD : rDis m sA tA nA) : fup (RM M m sA tA nA th sv kp ln ap pt hs g tx nu) sA (.inr (0, 3008, .inl g')) = RM M m sA tA nA th sv kp ln ap pt hs g' tx nu := by
  funext b
  by_cases h : b = sA
  · rw [h, fup_eq, RM_1 hD]
  · rw [fup_ne h]; unfold RM; rw [if_neg h, if_neg h]
theorem RM_s2 (hD : rDis m sA tA nA) : fup (RM M m sA tA nA th sv kp ln ap pt hs g tx nu) tA (.inr (0, 60, .inl g')) = RM M m sA tA nA th sv kp ln ap pt hs g g' nu := by
  funext b
  by_cases h : b = tA
  · rw [h, fup_eq, RM_2 hD]
  · rw [fup_ne h]; unfold RM; rw [if_neg h, if_neg h]
theorem RM_s3 (hD : rDis m sA tA nA) : fup (RM M m sA tA nA th sv kp ln ap pt hs g tx nu) nA (.inr (0, 4, .inl g')) = RM M m sA tA nA th sv kp ln ap pt hs g tx g' := by
  funext b
  by_cases h : b = nA
  · rw [h, fup_eq, RM_3 hD]
  · rw [fup_ne h]; unfold RM; rw [if_neg h, if_neg h]
end RMs
/-! WHAT IS RECKONED, over the reference's rows of numbers -/
def pIn (v lo hi : Int32) : Bool := decide (lo ≤ v) && decide (v ≤ hi)
def pDiv (a b : Int32) : Int32 := if a - a / b * b < 0 then a / b - 1 else a / b
def pAbs (v : Int32) : Int32 := if v < 0 then -v else v
def pOf (f : Nat → Int32) (k w : Nat) : Int32 := f (40 + 42 * k + w)
def pWarm (deg bath : Int32) : Int32 := deg + pDiv (bath - deg) (nI 4) + (if pDiv (bath - deg) (nI 4) = 0 then (if deg < bath then nI 1 else nI 0) else nI 0)
/-- how many of the first n have it -/
def pCnt (p : Nat → Prop) [DecidablePred p] : Nat → Nat
  | 0 => 0
  | n + 1 => pCnt p n + (if p n then 1 else 0)
theorem pCnt_le (p : Nat → Prop) [DecidablePred p] : ∀ n, pCnt p n ≤ n
  | 0 => Nat.le_refl _
  | n + 1 => by
    have := pCnt_le p n
    unfold pCnt
    split <;> omega
theorem pCnt_t {p : Nat → Prop} [DecidablePred p] {n : Nat} (h : p n) : pCnt p n + 1 = pCnt p (n + 1) := by
  show _ = pCnt p n + (if p n then 1 else 0)
  rw [if_pos h]
theorem pCnt_f {p : Nat → Prop} [DecidablePred p] {n : Nat} (h : ¬ p n) : pCnt p n + 0 = pCnt p (n + 1) := by
  show _ = pCnt p n + (if p n then 1 else 0)
  rw [if_neg h]
def pInBath (f : Nat → Int32) (n : Nat) (b : Int32) : Nat := pCnt (fun k => pOf f k 3 = b) n
