/-! THE LAW'S DEED: which move it is -/
def a0 (y : Int32) (dn : Nat) : Mov := if dn = 6 then mvAge dn (1 + upN y 99) else mvDrum dn (20 + upN y 281)
def a1 (y : Int32) (dn : Nat) : Mov := mvAge dn (1 + upN y 99)
def a2 (n d k : Nat) : Mov := if n = 8 then mvToss n k else mvSample n d
def a4 (y : Int32) (n k i : Nat) : Mov := if y &&& nI 3 = 0 then mvToss n k else mvRenew i
def a5 (y : Int32) (i : Nat) : Mov := mvWarm i (if y &&& nI 1 = 0 then upN (shR y 1) 901 else 180 + upN (shR y 1) 150)
def a6 (y : Int32) (g : Nat → Int32) (n k : Nat) : Mov := if upN (shR y 8) 4 = 0 then mvBath k (-1) else if pOf g k 3 = nI (upN (shR y 8) 4 - 1) ∨ pInBath g n (nI (upN (shR y 8) 4 - 1)) < 3 then mvBath k (nI (upN (shR y 8) 4 - 1)) else mvPass n 2
def a9 (y : Int32) (n : Nat) : Mov := mvPass n (1 + upN y (if shR y 9 &&& nI 1 = 0 then 99 else 12))
def a11 (g : Nat → Int32) (k : Nat) : Mov := if pOf g k 3 < 0 then mvRing k else mvBath k (-1)
def a12 (g : Nat → Int32) (n d i : Nat) : Mov := if pWhyS g n d = 0 then mvSell n d else mvRenew i
def a13L (y : Int32) : Nat := if upN y 3 = 0 then 51 else if upN y 3 = 1 then 101 else 61
def a13 (y : Int32) : Mov := mvSet (upN y 3) (upN (shR y 2) (a13L y))
def a14 (y : Int32) (n : Nat) : Mov := if y &&& nI 7 = 0 then mvRestore else mvPass n 3
def a15w (y : Int32) : Nat := if 0 < shR y 9 &&& nI 3 then 100 else 50 + upN (shR y 11) 151
def a15s (y : Int32) : Nat := if 0 < shR y 9 &&& nI 3 then 5 else 1 + upN (shR y 13) 60
def a15 (y : Int32) (g : Nat → Int32) (n k i : Nat) : Mov := if pWhyNot g i k = 0 then mvSink i k (a15w y) (a15s y) else mvPass n 1
def actS (c : Nat) (y : Int32) (g : Nat → Int32) (dn n d k i : Nat) : Mov :=
  if c = 0 then a0 y dn else if c = 1 then a1 y dn else if c = 2 ∨ c = 3 then a2 n d k else if c = 4 then a4 y n k i else if c = 5 then a5 y i else if c = 6 ∨ c = 7 ∨ c = 8 then a6 y g n k else if c = 9 ∨ c = 10 then a9 y n else if c = 11 then a11 g k else if c = 12 then a12 g n d i else if c = 13 then a13 y else if c = 14 then a14 y n else a15 y g n k i
def actM (x y : Int32) (g : Nat → Int32) (dn n : Nat) : Mov :=
  if dn = 0 then mvDrum dn (20 + upN y 281) else if n = 0 then mvSample n 0 else actS (upN x 20) y g dn n (upN y dn) (upN (shR y 3) n) (upN (shR y 6) 3)
theorem a15w_b (y : Int32) : 50 ≤ a15w y ∧ a15w y ≤ 200 := by
  have := upN_lt (v := shR y 11) (n := 151) (by omega)
  unfold a15w; split <;> omega
theorem a15s_b (y : Int32) : 1 ≤ a15s y ∧ a15s y ≤ 60 := by
  have := upN_lt (v := shR y 13) (n := 60) (by omega)
  unfold a15s; split <;> omega
theorem a13L_b (y : Int32) : 0 < a13L y ∧ a13L y < 200 := by
  unfold a13L; split
  · omega
  · split <;> omega
theorem lt0_bath {g : Nat → Int32} {dn n k : Nat} (hI : BI g dn n) (hk : k < n) : pOf g k 3 < 0 ↔ pOf g k 3 = -1 := by
  rcases (hI.sa k hk).2.2.2.1 with h | ⟨b, hb, h⟩
  · rw [h]; exact ⟨fun _ => rfl, fun _ => by decide⟩
  · rw [h]; exact ⟨fun z => absurd z (nI_pos (by omega)), fun z => absurd z (nI_m1 (by omega))⟩
section AO
variable {g g' : Nat → Int32} {dn n : Nat} {x y : Int32}
theorem act_ok (hI : BI g dn n) (hX : XI g n) {d7 n7 : Nat} (hI7 : BI (blk g 7) d7 n7) (hX7 : XI (blk g 7) n7) : MvOK (actM x y g dn n) g dn n := by
  have h6 := hI.dle
  have h8 := hI.nle
  have u281 := upN_lt (v := y) (n := 281) (by omega)
  have u99 := upN_lt (v := y) (n := 99) (by omega)
  have mdrum : dn < 6 → MvOK (mvDrum dn (20 + upN y 281)) g dn n := fun h => mv_drum hI hX (by omega) (by omega) h
  unfold actM
  by_cases c0 : dn = 0
  · rw [if_pos c0]; exact mdrum (by omega)
  rw [if_neg c0]
  by_cases c1 : n = 0
  · rw [if_pos c1]; exact mv_sample hI hX (by omega) (by omega)
  rw [if_neg c1]
  have hd := upN_lt (v := y) (n := dn) (by omega)
  have hk := upN_lt (v := shR y 3) (n := n) (by omega)
  have hi := upN_lt (v := shR y 6) (n := 3) (by omega)
  generalize upN y dn = d at hd ⊢
  generalize upN (shR y 3) n = k at hk ⊢
  generalize upN (shR y 6) 3 = i at hi ⊢
  generalize upN x 20 = c
  unfold actS
  split
  · unfold a0; split
    · exact mv_age hI hX (by omega)
    · exact mdrum (by omega)
  split
  · exact mv_age hI hX (by omega)
  split
  · unfold a2; split
    · exact mv_toss hI hX hk
    · exact mv_sample hI hX hd (by omega)
  split
  · unfold a4; split
    · exact mv_toss hI hX hk
    · exact mv_renew hI hX hi
  split
  · unfold a5
    have v1 := upN_lt (v := shR y 1) (n := 901) (by omega)
    have v2 := upN_lt (v := shR y 1) (n := 150) (by omega)
    exact mv_warm hI hX hi (by split <;> omega)
  split
  · unfold a6
    have v := upN_lt (v := shR y 8) (n := 4) (by omega)
    split
    · exact mv_bath hI hX hk (Or.inl rfl)
    · split
      · rename_i h; exact mv_bath hI hX hk (Or.inr ⟨_, by omega, rfl, h⟩)
      · exact mv_pass hI hX
  split
  · exact mv_pass hI hX
  split
  · unfold a11; split
    · exact mv_ring hI hX hk
    · exact mv_bath hI hX hk (Or.inl rfl)
  split
  · unfold a12; split
    · rename_i h; exact mv_sell hI hX hd (h.trans nI_0.symm)
    · exact mv_renew hI hX hi
  split
  · unfold a13
    have v := upN_lt (v := y) (n := 3) (by omega)
    have w := upN_lt (v := shR y 2) (n := a13L y) (a13L_b y).1
    unfold a13L at w ⊢
    refine mv_set hI hX v (fun h => ?_) (fun h => ?_) (fun h => ?_)
    · rw [if_pos h] at w ⊢; omega
    · rw [if_neg (by omega), if_pos h] at w ⊢; omega
    · rw [if_neg (by omega), if_neg (by omega)] at w ⊢; omega
  split
  · unfold a14; split
    · exact mv_restore hI7 hX7
    · exact mv_pass hI hX
  · unfold a15; split
    · rename_i h; exact mv_sink hI hX hi hk (pWhyNot_many hI hk (h.trans nI_0.symm))
    · exact mv_pass hI hX
theorem act_same (e : E6 g g' dn n) : actM x y g' dn n = actM x y g dn n := by
  have h6 := e.1.dle
  have h8 := e.1.nle
  unfold actM
  by_cases c0 : dn = 0
  · rw [if_pos c0, if_pos c0]
  rw [if_neg c0, if_neg c0]
  by_cases c1 : n = 0
  · rw [if_pos c1, if_pos c1]
  rw [if_neg c1, if_neg c1]
  have hd := upN_lt (v := y) (n := dn) (by omega)
  have hk := upN_lt (v := shR y 3) (n := n) (by omega)
  have hi := upN_lt (v := shR y 6) (n := 3) (by omega)
  have e6 : a6 y g' n (upN (shR y 3) n) = a6 y g n (upN (shR y 3) n) := by unfold a6; rw [e.O hk (by omega), e.InBath]
  have e11 : a11 g' (upN (shR y 3) n) = a11 g (upN (shR y 3) n) := by unfold a11; rw [e.O hk (by omega)]
  have e12 : a12 g' n (upN y dn) (upN (shR y 6) 3) = a12 g n (upN y dn) (upN (shR y 6) 3) := by unfold a12; rw [e.WhyS hd]
  have e15 : a15 y g' n (upN (shR y 3) n) (upN (shR y 6) 3) = a15 y g n (upN (shR y 3) n) (upN (shR y 6) 3) := by unfold a15; rw [e.WhyNot hi hk]
  unfold actS
  rw [e6, e11, e12, e15]
end AO
