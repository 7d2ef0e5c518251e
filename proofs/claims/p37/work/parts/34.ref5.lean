def pPassT (f : Nat → Int32) (n mn : Nat) : Nat → Int32 := upd (pPass f n mn) 3 (pPass f n mn 3 + nI mn)
def pSave (f : Nat → Int32) (sn : Nat) : Nat → Int32 := if sn = 6 then pSave6 f else pSaveL f sn
def pUp (sn : Nat) : Nat := if sn = 6 then 6 else sn + 1
theorem pCp_lo {f : Nat → Int32} {a b j : Nat} (hb : 1 ≤ b) (hj : j < 376) : pCp f a b j = f j := by
  unfold pCp pCpK; rw [if_neg (by omega)]
theorem pSave_lo {f : Nat → Int32} {sn j : Nat} (hj : j < 376) : pSave f sn j = f j := by
  unfold pSave pSave6 pSaveL
  split
  · repeat rw [pCp_lo (by omega) hj]
  · rw [pCp_lo (by omega) hj]
