/-! THE CLASS'S READING OF ORDERS, as a machine -/
def lstK (k : Nat) : Nat := if k = 77 then 1 else if k = 83 then 1 else if k = 87 then 50 else 0
def mstK (k : Nat) : Nat := if k = 66 then 2 else if k = 68 then 5 else if k = 78 then 2 else if k = 80 then 7 else if k = 83 then 60 else if k = 87 then 200 else 99
def cbN (least most : Nat) : Nat → Nat → Nat → Bool
  | 0, _, _ => false
  | N + 1, low, high => if low ≤ most ∧ least ≤ high then true else cbN least most N (low * 10) (high * 10 + 9)
def canN (v least most : Nat) : Bool := if v = 0 then decide (least = 0) else cbN least most 3 v v
def encV (v : Nat) : Int32 := if v = 1000 then -1 else nI v
def fillN (k tk v c : Nat) : Option Nat :=
  if k = 42 ∨ k = 47 ∨ (k = 66 ∧ c = 45) then (if 0 < tk ∨ (k ≠ 66 ∧ c ≠ k) then none else some 1000)
  else if c < 48 ∨ 57 < c ∨ (0 < tk ∧ (v = 0 ∨ v = 1000)) then none
  else if canN (v * 10 + (c - 48)) (lstK k) (mstK k) = true then some (v * 10 + (c - 48)) else none
def fullN (k tk v : Nat) : Bool := decide (0 < tk ∧ (v = 1000 ∨ (lstK k ≤ v ∧ v ≤ mstK k)))
def behN (c : Nat) : Nat := if c = 36 then 1 else if c = 43 then 5 else if c = 98 then 2 else if c = 110 then 3 else if c = 111 then 4 else if c = 115 then 1 else 0
/-- letter, what stands behind it, slot, how many figures are taken, the slot's number (1000 for a sign), the values -/
abbrev MS : Type := Nat × Nat × Nat × Nat × Nat × (Nat → Int32)
def accN : MS → Nat → Bool × MS
  | (lt, j, sl, tk, cv, vs), c =>
    if j = 0 then (decide (¬ behN c = 0), (c, behN c, sl, tk, cv, vs))
    else match fillN (kd j sl) tk cv c with
      | some v => (true, (lt, j, sl, tk + 1, v, upd vs sl (encV v)))
      | none => if fullN (kd j sl) tk cv = true ∧ sl + 1 < sLen j then
          (match fillN (kd j (sl + 1)) 0 0 c with
            | some v => (true, (lt, j, sl + 1, 1, v, upd vs (sl + 1) (encV v)))
            | none => (false, (lt, j, sl + 1, 0, 0, vs)))
        else (false, (lt, j, sl, tk, cv, vs))
def MI : MS → Nat → Prop
  | (lt, j, sl, tk, cv, vs), b => lt < 128 ∧ j < 6 ∧ (j = 0 → sl = 0 ∧ tk = 0) ∧ (¬ j = 0 → sl < sLen j) ∧ (cv ≤ 200 ∨ (cv = 1000 ∧ 0 < tk)) ∧ (tk = 0 → cv = 0) ∧ tk ≤ b ∧ vs sl = encV cv ∧ (∀ i, sl < i → vs i = nI 0)
