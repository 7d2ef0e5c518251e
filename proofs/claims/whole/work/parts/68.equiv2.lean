/-! THE MACHINE AGAINST THE REFERENCE'S READING, ended -/
theorem fill_1k {k v c : Nat} (h : k = 42 ∨ k = 47) : fillN k (0 + 1) v c = none := by
  rw [fill_sg (h.imp id Or.inl), if_pos (Or.inl (by omega))]
theorem fill_st {k c : Nat} (h : k = 42 ∨ k = 47) : fillN k 0 0 c = if c = k then some 1000 else none := by
  rw [fill_sg (h.imp id Or.inl)]
  by_cases e : c = k
  · rw [if_pos e, if_neg (by omega)]
  · rw [if_neg e, if_pos (by omega)]
theorem full_1k {k : Nat} : fullN k 1 1000 = true := decide_eq_true ⟨Nat.one_pos, Or.inl rfl⟩
theorem fill_b {c : Nat} : fillN 66 0 0 c = if c = 45 then some 1000 else if 48 ≤ c ∧ c ≤ 48 + 2 then some (c - 48) else none := by
  by_cases e : c = 45
  · rw [if_pos e, fill_sg (by omega), if_neg (by omega)]
  · rw [if_neg e, fill_d (m := 2) rfl rfl (by omega) (by omega)]
theorem fill_b1 {c : Nat} : fillN 66 1 1000 c = none := by
  by_cases e : c = 45
  · rw [fill_sg (by omega), if_pos (Or.inl Nat.one_pos)]
  · rw [fill_dg (by omega), if_pos (Or.inr (Or.inr ⟨Nat.one_pos, Or.inr rfl⟩))]
theorem cmp_f {lt j sl tk cv : Nat} {vs : Nat → Int32} (h : ¬ sl + 1 = sLen j) : cmpN (lt, j, sl, tk, cv, vs) = false := decide_eq_false (fun z => h z.2.1)
theorem cmp_f2 {lt j sl tk cv : Nat} {vs : Nat → Int32} (h : fullN (kd j sl) tk cv = false) : cmpN (lt, j, sl, tk, cv, vs) = false := decide_eq_false (fun z => Bool.false_ne_true (h.symm.trans z.2.2))
theorem cmp_t {lt j sl tk cv : Nat} {vs : Nat → Int32} (hj : ¬ j = 0) (h : sl + 1 = sLen j) (hf : fullN (kd j sl) tk cv = true) : cmpN (lt, j, sl, tk, cv, vs) = true := decide_eq_true ⟨hj, h, hf⟩
theorem enc_1k : encV 1000 = -1 := if_pos rfl
/-- a slot entered by one sign: its state has the value -/
theorem part_bath {ch : Nat → Nat} {p : Nat} {nu : Nat → Int32} (hp : ch p = 98) : PartOK ch p (rBath ch nu (p + 1)) := by
  have hlet : accN clrS (ch p) = (true, (98, 2, 0, 0, 0, fun _ => nI 0)) := by rw [hp]; rfl
  have hf := fill_d (k := 80) (m := 7) (c := ch (p + 1)) rfl rfl (by omega) (by omega)
  have L0 := Lands.step (i := p) hlet (by omega)
  unfold rBath
  by_cases hd : pDg ch 7 (p + 1)
  · have hd' : 48 ≤ ch (p + 1) ∧ ch (p + 1) ≤ 48 + 7 := hd
    rw [if_pos hd]
    rw [if_pos hd'] at hf
    have L1 := L0.trans (Lands.step (acc_fill (j := 2) (sl := 0) (by decide) hf) (by omega))
    have hn : ∀ c, fillN 80 (0 + 1) (ch (p + 1) - 48) c = none := fun c => fill_d1 (m := 7) rfl rfl (by omega) (by omega) (by omega)
    have hfu : fullN 80 (0 + 1) (ch (p + 1) - 48) = true := full_d (m := 7) rfl rfl (by omega)
    have hb := fill_b (c := ch (p + 1 + 1))
    by_cases h2 : pDg ch 2 (p + 1 + 1)
    · have h2' : 48 ≤ ch (p + 1 + 1) ∧ ch (p + 1 + 1) ≤ 48 + 2 := h2
      rw [if_pos h2]
      rw [if_neg (by omega), if_pos h2'] at hb
      have L2 := L1.trans (Lands.step (acc_next (j := 2) (sl := 0) (by decide) (hn _) hfu (by decide) hb) (by omega))
      refine ⟨_, L2, ?_, ?_, fun _ => ⟨hp.symm, fun _ => ⟨?_, ?_⟩, fun z => by omega, fun z => absurd hp z⟩⟩
      · exact cmp_t (by decide) rfl (full_d (k := 66) (m := 2) rfl rfl (by omega))
      · exact acc_no1 (by decide) (fill_d1 (k := 66) (m := 2) rfl rfl (by omega) (by omega) (by omega)) (fun z => absurd z.2 (by decide))
      · show upd (upd (fun _ => nI 0) 0 (encV (ch (p + 1) - 48))) 1 (encV (ch (p + 1 + 1) - 48)) 0 = upd (upd nu 0 (nI (ch (p + 1) - 48))) 1 (nI (ch (p + 1 + 1) - 48)) 0
        rw [pk_un (by omega), pk_us, pk_un (by omega), pk_us]; exact encV_le (by omega)
      · show upd (upd (fun _ => nI 0) 0 (encV (ch (p + 1) - 48))) 1 (encV (ch (p + 1 + 1) - 48)) 1 = upd (upd nu 0 (nI (ch (p + 1) - 48))) 1 (nI (ch (p + 1 + 1) - 48)) 1
        rw [pk_us, pk_us]; exact encV_le (by omega)
    · have h2' : ¬ (48 ≤ ch (p + 1 + 1) ∧ ch (p + 1 + 1) ≤ 48 + 2) := h2
      rw [if_neg h2]
      by_cases h3 : ch (p + 1 + 1) = 45
      · rw [if_pos h3]
        rw [if_pos h3] at hb
        have L2 := L1.trans (Lands.step (acc_next (j := 2) (sl := 0) (by decide) (hn _) hfu (by decide) hb) (by omega))
        refine ⟨_, L2, ?_, ?_, fun _ => ⟨hp.symm, fun _ => ⟨?_, ?_⟩, fun z => by omega, fun z => absurd hp z⟩⟩
        · exact cmp_t (by decide) rfl full_1k
        · exact acc_no1 (by decide) fill_b1 (fun z => absurd z.2 (by decide))
        · show upd (upd (fun _ => nI 0) 0 (encV (ch (p + 1) - 48))) 1 (encV 1000) 0 = upd (upd nu 0 (nI (ch (p + 1) - 48))) 1 (-1) 0
          rw [pk_un (by omega), pk_us, pk_un (by omega), pk_us]; exact encV_le (by omega)
        · show upd (upd (fun _ => nI 0) 0 (encV (ch (p + 1) - 48))) 1 (encV 1000) 1 = upd (upd nu 0 (nI (ch (p + 1) - 48))) 1 (-1) 1
          rw [pk_us, pk_us]; exact enc_1k
      · rw [if_neg h3]
        rw [if_neg h3, if_neg h2'] at hb
        refine ⟨_, L1, ?_, ?_, fun z => by cases z⟩
        · exact cmp_f (by decide)
        · exact acc_no2 (by decide) (hn _) hb
  · have hd' : ¬ (48 ≤ ch (p + 1) ∧ ch (p + 1) ≤ 48 + 7) := hd
    rw [if_neg hd]
    rw [if_neg hd'] at hf
    refine ⟨_, L0, ?_, ?_, fun z => by cases z⟩
    · exact cmp_f (by decide)
    · exact acc_no1 (by decide) hf (fun z => absurd z.1 (by rw [full_0]; exact Bool.false_ne_true))
theorem part_sink {ch : Nat → Nat} {ln p : Nat} {nu : Nat → Int32} (h0 : ∀ i, ln ≤ i → ch i = 0) (hl60 : ln ≤ 60) (hp : ch p = 110) : PartOK ch p (rSink ch nu (p + 1)) := by
  have hlet : accN clrS (ch p) = (true, (110, 3, 0, 0, 0, fun _ => nI 0)) := by rw [hp]; rfl
  have L0 := Lands.step (i := p) hlet (by omega)
  have hin : ∀ t, ¬ ch t = 0 → t < ln := fun t z => by
    by_cases q : t < ln
    · exact q
    · exact absurd (h0 t (by omega)) z
  have hf := fill_d (k := 78) (m := 2) (c := ch (p + 1)) rfl rfl (by omega) (by omega)
  unfold rSink
  by_cases hd : pDg ch 2 (p + 1)
  · have hd' : 48 ≤ ch (p + 1) ∧ ch (p + 1) ≤ 48 + 2 := hd
    rw [if_pos hd]
    rw [if_pos hd'] at hf
    have L1 := L0.trans (Lands.step (acc_fill (j := 3) (sl := 0) (by decide) hf) (by omega))
    have hn : ∀ c, fillN 78 (0 + 1) (ch (p + 1) - 48) c = none := fun c => fill_d1 (m := 2) rfl rfl (by omega) (by omega) (by omega)
    have hfu : fullN 78 (0 + 1) (ch (p + 1) - 48) = true := full_d (m := 2) rfl rfl (by omega)
    have hb := fill_d (k := 80) (m := 7) (c := ch (p + 1 + 1)) rfl rfl (by omega) (by omega)
    by_cases h2 : pDg ch 7 (p + 1 + 1)
    · have h2' : 48 ≤ ch (p + 1 + 1) ∧ ch (p + 1 + 1) ≤ 48 + 7 := h2
      rw [if_pos h2]
      rw [if_pos h2'] at hb
      have L2 := L1.trans (Lands.step (acc_next (j := 3) (sl := 0) (by decide) (hn _) hfu (by decide) hb) (by omega))
      have hn2 : ∀ c, fillN 80 1 (ch (p + 1 + 1) - 48) c = none := fun c => fill_d1 (m := 7) rfl rfl (by omega) (by omega) (by omega)
      have hfu2 : fullN 80 1 (ch (p + 1 + 1) - 48) = true := full_d (m := 7) rfl rfl (by omega)
      have hst := fill_st (k := 42) (c := ch (p + 1 + 1 + 1)) (by omega)
      by_cases h3 : ch (p + 1 + 1 + 1) = 42
      · rw [if_pos h3]
        rw [if_pos h3] at hst
        have L3 := L2.trans (Lands.step (acc_next (j := 3) (sl := 1) (by decide) (hn2 _) hfu2 (by decide) hst) (by omega))
        have h3in := hin (p + 1 + 1 + 1) (by omega)
        obtain ⟨S, L4, h4⟩ := run_enter (ch := ch) (ln := ln) (lt := 110) (j := 3) (sl := 2) (k := 87) (tk := 1) (cv := 1000) (i := p + 1 + 1 + 1 + 1) (least := 50) (most := 200)
          (vs := upd (upd (upd (fun _ => nI 0) 0 (encV (ch (p + 1) - 48))) 1 (encV (ch (p + 1 + 1) - 48))) 2 (encV 1000)) h0 (by omega) hl60 (by decide) rfl rfl rfl (by omega) (by omega) (by omega) (fun c => fill_1k (Or.inl rfl)) full_1k (by decide) (by decide)
        have L5 := L3.trans L4
        unfold rLoad
        have hv : (rnum ch 50 200 (p + 1 + 1 + 1 + 1)).1 ≤ 200 := rnum_v
        rcases h4 with ⟨z0, zc, za⟩ | ⟨z0, tk', vs', eS, ht, hv3, hvr, hfn⟩
        · rw [if_neg (show ¬ 50 ≤ (rnum ch 50 200 (p + 1 + 1 + 1 + 1)).1 by omega)]
          exact ⟨S, L5, zc, za, fun z => by cases z⟩
        · have hfuW := full_n (k := 87) (least := 50) (most := 200) rfl rfl (by omega) hv (by omega) (⟨fun _ => z0, fun _ => ht⟩ : 0 < tk' ↔ ¬ (rnum ch 50 200 (p + 1 + 1 + 1 + 1)).1 = 0)
          by_cases h5 : 50 ≤ (rnum ch 50 200 (p + 1 + 1 + 1 + 1)).1
          · rw [if_pos h5]
            rw [decide_eq_true h5] at hfuW
            have hsl := fill_st (k := 47) (c := ch (rnum ch 50 200 (p + 1 + 1 + 1 + 1)).2) (by omega)
            subst eS
            by_cases h6 : ch (rnum ch 50 200 (p + 1 + 1 + 1 + 1)).2 = 47
            · rw [if_pos h6]
              rw [if_pos h6] at hsl
              have L6 := L5.trans (Lands.step (acc_next (j := 3) (sl := 3) (by decide) hfn hfuW (by decide) hsl) (by omega))
              have h6in := hin (rnum ch 50 200 (p + 1 + 1 + 1 + 1)).2 (by omega)
              obtain ⟨S2, L7, h7⟩ := run_enter (ch := ch) (ln := ln) (lt := 110) (j := 3) (sl := 4) (k := 83) (tk := 1) (cv := 1000) (i := (rnum ch 50 200 (p + 1 + 1 + 1 + 1)).2 + 1) (least := 1) (most := 60)
                (vs := upd vs' 4 (encV 1000)) h0 (by omega) hl60 (by decide) rfl rfl rfl (by omega) (by omega) (by omega) (fun c => fill_1k (Or.inr rfl)) full_1k (by decide) (by decide)
              have L8 := L6.trans L7
              have hv2 : (rnum ch 1 60 ((rnum ch 50 200 (p + 1 + 1 + 1 + 1)).2 + 1)).1 ≤ 60 := rnum_v
              rcases h7 with ⟨y0, yc, ya⟩ | ⟨y0, tk2, vs2, eS2, ht2, hw3, hwr, hfn2⟩
              · refine ⟨S2, L8, ?_, ya, fun z => ?_⟩
                · rw [yc]; exact (decide_eq_false (show ¬ 1 ≤ _ by omega)).symm
                · have z2 := of_decide_eq_true z; omega
              · have hfuS := full_n (k := 83) (least := 1) (most := 60) rfl rfl (by omega) hv2 (by omega) (⟨fun _ => y0, fun _ => ht2⟩ : 0 < tk2 ↔ ¬ (rnum ch 1 60 ((rnum ch 50 200 (p + 1 + 1 + 1 + 1)).2 + 1)).1 = 0)
                rw [decide_eq_true (show 1 ≤ _ by omega)] at hfuS
                subst eS2
                refine ⟨_, L8, ?_, ?_, fun _ => ⟨hp.symm, fun z => by omega, fun _ => ⟨?_, ?_, ?_, ?_⟩, fun _ z => absurd hp z⟩⟩
                · exact (cmp_t (j := 3) (sl := 5) (by decide) rfl hfuS).trans (decide_eq_true (show 1 ≤ _ by omega)).symm
                · exact acc_no1 (by decide) hfn2 (fun z => absurd z.2 (by decide))
                · show vs2 0 = upd (upd (upd (upd nu 0 (nI (ch (p + 1) - 48))) 1 (nI (ch (p + 1 + 1) - 48))) 2 (nI (rnum ch 50 200 (p + 1 + 1 + 1 + 1)).1)) 3 (nI (rnum ch 1 60 ((rnum ch 50 200 (p + 1 + 1 + 1 + 1)).2 + 1)).1) 0
                  rw [hwr 0 (by omega), pk_un (by omega), hvr 0 (by omega), pk_un (by omega), pk_un (by omega), pk_us, pk_un (by omega), pk_un (by omega), pk_un (by omega), pk_us]; exact encV_le (by omega)
                · show vs2 1 = upd (upd (upd (upd nu 0 (nI (ch (p + 1) - 48))) 1 (nI (ch (p + 1 + 1) - 48))) 2 (nI (rnum ch 50 200 (p + 1 + 1 + 1 + 1)).1)) 3 (nI (rnum ch 1 60 ((rnum ch 50 200 (p + 1 + 1 + 1 + 1)).2 + 1)).1) 1
                  rw [hwr 1 (by omega), pk_un (by omega), hvr 1 (by omega), pk_un (by omega), pk_us, pk_un (by omega), pk_un (by omega), pk_us]; exact encV_le (by omega)
                · show vs2 3 = upd (upd (upd (upd nu 0 (nI (ch (p + 1) - 48))) 1 (nI (ch (p + 1 + 1) - 48))) 2 (nI (rnum ch 50 200 (p + 1 + 1 + 1 + 1)).1)) 3 (nI (rnum ch 1 60 ((rnum ch 50 200 (p + 1 + 1 + 1 + 1)).2 + 1)).1) 2
                  rw [hwr 3 (by omega), pk_un (by omega), pk_un (by omega), pk_us]; exact hv3.trans (encV_le hv)
                · show vs2 5 = upd (upd (upd (upd nu 0 (nI (ch (p + 1) - 48))) 1 (nI (ch (p + 1 + 1) - 48))) 2 (nI (rnum ch 50 200 (p + 1 + 1 + 1 + 1)).1)) 3 (nI (rnum ch 1 60 ((rnum ch 50 200 (p + 1 + 1 + 1 + 1)).2 + 1)).1) 3
                  rw [pk_us]; exact hw3.trans (encV_le (by omega))
            · rw [if_neg h6]
              rw [if_neg h6] at hsl
              refine ⟨_, L5, ?_, ?_, fun z => by cases z⟩
              · exact cmp_f (by decide)
              · exact acc_no2 (by decide) hfn hsl
          · rw [if_neg h5]
            rw [decide_eq_false h5] at hfuW
            subst eS
            refine ⟨_, L5, ?_, ?_, fun z => by cases z⟩
            · exact cmp_f (by decide)
            · exact acc_no1 (by decide) hfn (fun z => Bool.false_ne_true (hfuW.symm.trans z.1))
      · rw [if_neg h3]
        rw [if_neg h3] at hst
        refine ⟨_, L2, ?_, ?_, fun z => by cases z⟩
        · exact cmp_f (by decide)
        · exact acc_no2 (by decide) (hn2 _) hst
    · have h2' : ¬ (48 ≤ ch (p + 1 + 1) ∧ ch (p + 1 + 1) ≤ 48 + 7) := h2
      rw [if_neg h2]
      rw [if_neg h2'] at hb
      refine ⟨_, L1, ?_, ?_, fun z => by cases z⟩
      · exact cmp_f (by decide)
      · exact acc_no2 (by decide) (hn _) hb
  · have hd' : ¬ (48 ≤ ch (p + 1) ∧ ch (p + 1) ≤ 48 + 2) := hd
    rw [if_neg hd]
    rw [if_neg hd'] at hf
    refine ⟨_, L0, ?_, ?_, fun z => by cases z⟩
    · exact cmp_f (by decide)
    · exact acc_no1 (by decide) hf (fun z => absurd z.1 (by rw [full_0]; exact Bool.false_ne_true))
theorem part_all {ch : Nat → Nat} {ln p : Nat} {nu : Nat → Int32} (h0 : ∀ i, ln ≤ i → ch i = 0) (hl60 : ln ≤ 60) : PartOK ch p (rPart ch nu p) := by
  unfold rPart
  by_cases c1 : ch p = 36
  · rw [if_pos c1]; exact part_dig (j := 1) (k := 68) (m := 5) (by rw [c1]; rfl) (by decide) rfl rfl rfl rfl (by omega) (by omega) (by omega) (by omega) (by omega)
  rw [if_neg c1]
  by_cases c2 : ch p = 43
  · rw [if_pos c2]
    have hpl : p < ln := by
      by_cases q : p < ln
      · exact q
      · have := h0 p (by omega); omega
    exact part_plus h0 hl60 c2 hpl
  rw [if_neg c2]
  by_cases c3 : ch p = 98
  · rw [if_pos c3]; exact part_bath c3
  rw [if_neg c3]
  by_cases c4 : ch p = 110
  · rw [if_pos c4]; exact part_sink h0 hl60 c4
  rw [if_neg c4]
  by_cases c5 : ch p = 111
  · rw [if_pos c5]; exact part_dig (j := 4) (k := 80) (m := 7) (by rw [c5]; rfl) (by decide) rfl rfl rfl rfl (by omega) (by omega) (by omega) (by omega) (by omega)
  rw [if_neg c5]
  by_cases c6 : ch p = 115
  · rw [if_pos c6]; exact part_dig (j := 1) (k := 68) (m := 5) (by rw [c6]; rfl) (by decide) rfl rfl rfl rfl (by omega) (by omega) (by omega) (by omega) (by omega)
  rw [if_neg c6]
  exact part_bad (by unfold behN; rw [if_neg c1, if_neg c2, if_neg c3, if_neg c4, if_neg c5, if_neg c6])
theorem eP_run {ch : Nat → Nat} {ln : Nat} : ∀ (k i N : Nat) (s S : MS), runN ch k i s = (true, S) → i + k ≤ ln → (∀ t, i ≤ t → t < i + k → ch t ≠ 59) → eP ch ln (N + k) i s = eP ch ln N (i + k) S
  | 0, i, N, s, S, h, h2, h3 => by cases h; rfl
  | k + 1, i, N, s, S, h, h2, h3 => by
    have e1 : runN ch (k + 1) i s = if (accN s (ch i)).1 = true then runN ch k (i + 1) (accN s (ch i)).2 else (false, s) := rfl
    rw [e1] at h
    by_cases hc : (accN s (ch i)).1 = true
    · rw [if_pos hc] at h
      rw [show N + (k + 1) = (N + k) + 1 by omega, eP_c, if_pos (by omega), if_neg (fun z => h3 i (by omega) (by omega) z.1), if_pos hc, eP_run k (i + 1) N _ S h (by omega) (fun t a b => h3 t (by omega) (by omega)), show i + 1 + k = i + (k + 1) by omega]
    · rw [if_neg hc] at h; cases h
theorem nP_run {ch : Nat → Nat} {ln : Nat} : ∀ (k i N : Nat) (s S : MS), runN ch k i s = (true, S) → i + k ≤ ln → (∀ t, i ≤ t → t < i + k → ch t ≠ 59) → nP ch ln (N + k) i s = nP ch ln N (i + k) S
  | 0, i, N, s, S, h, h2, h3 => by cases h; rfl
  | k + 1, i, N, s, S, h, h2, h3 => by
    have e1 : runN ch (k + 1) i s = if (accN s (ch i)).1 = true then runN ch k (i + 1) (accN s (ch i)).2 else (false, s) := rfl
    rw [e1] at h
    by_cases hc : (accN s (ch i)).1 = true
    · rw [if_pos hc] at h
      rw [show N + (k + 1) = (N + k) + 1 by omega, nP_c, if_pos ⟨by omega, h3 i (by omega) (by omega)⟩, nP_run k (i + 1) N _ S h (by omega) (fun t a b => h3 t (by omega) (by omega)), show i + 1 + k = i + (k + 1) by omega]
    · rw [if_neg hc] at h; cases h
/-- at least two signs to a part -/
theorem eP_all {tx : Nat → Int32} {ch : Nat → Nat} {ln : Nat} (hT : TX tx ln ch) : ∀ (N K i : Nat) (nu : Nat → Int32), ln < N + i → ln < K + i → i ≤ ln →
    (eP ch ln N i clrS).1 = (rAll ch ln K nu i).1.2.1 ∧ decide ((eP ch ln N i clrS).1 = ln ∧ cmpN (eP ch ln N i clrS).2 = true) = (rAll ch ln K nu i).1.1 := by
  intro N
  induction N using Nat.strongRecOn with
  | ind N ih =>
  intro K i nu hN hK hi
  obtain ⟨K', rfl⟩ : ∃ K', K = K' + 1 := ⟨K - 1, by omega⟩
  obtain ⟨S, ⟨k, hk, hr, hc⟩, hcm, hac, -⟩ := part_all (p := i) (nu := nu) hT.2.2.1 hT.1
  have hle := rPart_le (i := i) (nu := nu) hT hi
  have er : rAll ch ln (K' + 1) nu i = if (rPart ch nu i).1 = true then (if (rPart ch nu i).2.1 = ln then (rPart ch nu i, ch i) else if ch (rPart ch nu i).2.1 = 59 then rAll ch ln K' (rPart ch nu i).2.2 ((rPart ch nu i).2.1 + 1) else ((false, (rPart ch nu i).2), ch i)) else (rPart ch nu i, ch i) := rfl
  have hrun := eP_run (ln := ln) k i (N - k) clrS S hr (by omega) (fun t a b => hc t a (by omega))
  rw [show N - k + k = N by omega, ← hk] at hrun
  obtain ⟨N', hN'⟩ : ∃ N', N - k = N' + 1 := ⟨N - k - 1, by omega⟩
  rw [hN'] at hrun
  rw [hrun, er, eP_c]
  by_cases h1 : (rPart ch nu i).1 = true
  · rw [if_pos h1]
    rw [h1] at hcm
    by_cases h2 : (rPart ch nu i).2.1 = ln
    · rw [if_pos h2, if_neg (show ¬ (rPart ch nu i).2.1 < ln by omega)]
      refine ⟨rfl, ?_⟩
      show decide ((rPart ch nu i).2.1 = ln ∧ cmpN S = true) = (rPart ch nu i).1
      rw [h1]; exact decide_eq_true ⟨h2, hcm⟩
    · rw [if_neg h2, if_pos (show (rPart ch nu i).2.1 < ln by omega)]
      by_cases h3 : ch (rPart ch nu i).2.1 = 59
      · rw [if_pos h3, if_pos ⟨h3, hcm⟩]
        exact ih N' (by omega) K' _ _ (by have := hle.2.2 h1; omega) (by have := hle.2.2 h1; omega) (by omega)
      · rw [if_neg h3, if_neg (fun z => h3 z.1), if_neg (by rw [hac]; exact Bool.false_ne_true)]
        refine ⟨rfl, decide_eq_false (fun z => h2 z.1)⟩
  · rw [if_neg h1]
    have h1' : (rPart ch nu i).1 = false := by cases q : (rPart ch nu i).1 with | false => rfl | true => exact absurd q h1
    rw [h1'] at hcm
    by_cases h2 : (rPart ch nu i).2.1 < ln
    · rw [if_pos h2, if_neg (fun z => by rw [hcm] at z; exact Bool.false_ne_true z.2), if_neg (by rw [hac]; exact Bool.false_ne_true)]
      refine ⟨rfl, ?_⟩
      show _ = (rPart ch nu i).1
      rw [h1']; exact decide_eq_false (fun z => by have := z.1; simp only [] at this; omega)
    · rw [if_neg h2]
      refine ⟨rfl, ?_⟩
      show _ = (rPart ch nu i).1
      rw [h1']; exact decide_eq_false (fun z => by have := z.2; simp only [] at this; rw [hcm] at this; cases this)
theorem nP_part {tx : Nat → Int32} {ch : Nat → Nat} {ln N i : Nat} {nu : Nat → Int32} (hT : TX tx ln ch) (hN : ln < N + i) (hi : i ≤ ln) (h1 : (rPart ch nu i).1 = true) (h2 : (rPart ch nu i).2.1 = ln ∨ ch (rPart ch nu i).2.1 = 59) :
    (nP ch ln N i clrS).1 = (rPart ch nu i).2.1 ∧ VALs (ch i) (nP ch ln N i clrS).2 (rPart ch nu i).2.2 := by
  obtain ⟨S, ⟨k, hk, hr, hc⟩, hcm, hac, hv⟩ := part_all (p := i) (nu := nu) hT.2.2.1 hT.1
  have hle := rPart_le (i := i) (nu := nu) hT hi
  have hrun := nP_run (ln := ln) k i (N - k) clrS S hr (by omega) (fun t a b => hc t a (by omega))
  rw [show N - k + k = N by omega, ← hk] at hrun
  obtain ⟨N', hN'⟩ : ∃ N', N - k = N' + 1 := ⟨N - k - 1, by omega⟩
  rw [hN', nP_c, if_neg (fun z => h2.elim (fun h2 => by omega) (fun h2 => z.2 h2))] at hrun
  rw [hrun]
  exact ⟨rfl, hv h1⟩
