/-! THE CLASS'S TEXT -/
def TxAt (ad : Nat → Nat) (M : Mem) (fc : Nat → Int32) (ln : Nat) (pl : Int32) : Prop := M (ad 248) = some (.inl (4, [.ref (ad 249), .ref (ad 250), .int (nI ln), .int pl])) ∧ M (ad 249) = some (.inr (1, 60, .inl fc))
theorem TxAt.off {ad : Nat → Nat} {M M1 : Mem} {fc : Nat → Int32} {ln : Nat} {pl : Int32} (h : TxAt ad M fc ln pl) (hA : aInj ad) (ho : OffP ad M M1) : TxAt ad M1 fc ln pl := ⟨(ho.at hA (by omega) (by omega) (by omega)).trans h.1, (ho.at hA (by omega) (by omega) (by omega)).trans h.2⟩
