/-! MORE RULES: longs and doubles -/
theorem lv_lcmp {p : Program} {l : Launch} {e : Env} {R : Room} {s : State} {m : MethodId} {args : Array Value} {below : List Frame} {meth : Method} {c : Code} {H : Heap} {locs : List Loc} {cells slots : Nat} {Q : State → Prop} {pc : Nat} {ls : Array Slot} {rest : List Value} {cc : ByteArray} (hexec : p.tables.exec = Jvm.exec) (hb : c.code = cc) {x y : Int64} (hdg : decode cc pc = .ok (.lcmp, 1))
    (k : W p l e R s m args below meth c H locs cells slots Q (F0 m (pc + 1) ls (.int (if y < x then 1 else if x = y then 0 else -1) :: rest))) : W p l e R s m args below meth c H locs cells slots Q (F0 m pc ls (.long y :: .long x :: rest)) := by
  intro T hT X
  obtain ⟨t, a, b⟩ := k T hT X
  refine ⟨t, ?_, b⟩
  jvm_step X.here [X.here.top, hexec, hb, hdg]
  by_cases h1 : y < x
  · rw [if_pos h1] at a ⊢; exact a
  · rw [if_neg h1] at a ⊢
    by_cases h2 : x = y
    · rw [if_pos h2] at a ⊢; exact a
    · rw [if_neg h2] at a ⊢; exact a
section R69
variable {l : Launch} {κ : KP} {μ : MD} {pc : Nat} {lv : List (Nat × Value)} {st : List Value} {M : Mem} {bc bs : Nat} {P : FPost}
theorem r_dconst0 (d : decode (mB μ) pc = .ok (.dconst 0, 1)) (kk : fR l κ μ (pc + 1) lv (.double FP.dconst0 :: st) M bc bs P) : fR l κ μ pc lv st M bc bs P := by
  intro p e s m args below meth c C H locs cells slots ls hW hS hl hc hs
  exact lv_dconst0 C.2.1 C.2.2.1 d (kk p e s m args below meth c C H locs cells slots ls hW hS hl hc hs)
theorem r_dconst1 (d : decode (mB μ) pc = .ok (.dconst 1, 1)) (kk : fR l κ μ (pc + 1) lv (.double FP.dconst1 :: st) M bc bs P) : fR l κ μ pc lv st M bc bs P := by
  intro p e s m args below meth c C H locs cells slots ls hW hS hl hc hs
  exact lv_dconst1 C.2.1 C.2.2.1 d (kk p e s m args below meth c C H locs cells slots ls hW hS hl hc hs)
theorem r_lshl {x : Int64} {y : Int32} (d : decode (mB μ) pc = .ok (.lshl, 1)) (kk : fR l κ μ (pc + 1) lv (.long (x <<< (y.toInt64 &&& 63)) :: st) M bc bs P) : fR l κ μ pc lv (.int y :: .long x :: st) M bc bs P := by
  intro p e s m args below meth c C H locs cells slots ls hW hS hl hc hs
  exact lv_lshl C.2.1 C.2.2.1 d rfl (kk p e s m args below meth c C H locs cells slots ls hW hS hl hc hs)
theorem r_d2l {x : UInt64} (d : decode (mB μ) pc = .ok (.d2l, 1)) (kk : fR l κ μ (pc + 1) lv (.long (FP.d2l x) :: st) M bc bs P) : fR l κ μ pc lv (.double x :: st) M bc bs P := by
  intro p e s m args below meth c C H locs cells slots ls hW hS hl hc hs
  exact lv_d2l C.2.1 C.2.2.1 d (kk p e s m args below meth c C H locs cells slots ls hW hS hl hc hs)
theorem r_lcmp {x y : Int64} (d : decode (mB μ) pc = .ok (.lcmp, 1)) (kk : fR l κ μ (pc + 1) lv (.int (if y < x then 1 else if x = y then 0 else -1) :: st) M bc bs P) : fR l κ μ pc lv (.long y :: .long x :: st) M bc bs P := by
  intro p e s m args below meth c C H locs cells slots ls hW hS hl hc hs
  exact lv_lcmp C.2.1 C.2.2.1 d (kk p e s m args below meth c C H locs cells slots ls hW hS hl hc hs)
end R69
