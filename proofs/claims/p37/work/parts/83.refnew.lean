/-! THE REFERENCE MADE ANEW -/
def gI : Nat → Int32 := fun j => if j = 5 then nI 5 else if j = 6 then nI 12 else if j = 7 then nI 8 else if j = 8 then -1 else if j = 9 then -1 else if j = 28 then nI 150 else if j = 29 then nI 250 else if j = 30 then nI 350 else 0
