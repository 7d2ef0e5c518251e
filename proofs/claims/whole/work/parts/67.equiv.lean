/-! THE MACHINE AGAINST THE REFERENCE'S READING -/
theorem acc_fill {lt j sl tk cv c v : Nat} {vs : Nat → Int32} (hj : ¬ j = 0) (h : fillN (kd j sl) tk cv c = some v) : accN (lt, j, sl, tk, cv, vs) c = (true, (lt, j, sl, tk + 1, v, upd vs sl (encV v))) := by
  rw [accN_c, if_neg hj, h]
theorem acc_next {lt j sl tk cv c v : Nat} {vs : Nat → Int32} (hj : ¬ j = 0) (h : fillN (kd j sl) tk cv c = none) (hf : fullN (kd j sl) tk cv = true) (hl : sl + 1 < sLen j) (h2 : fillN (kd j (sl + 1)) 0 0 c = some v) : accN (lt, j, sl, tk, cv, vs) c = (true, (lt, j, sl + 1, 1, v, upd vs (sl + 1) (encV v))) := by
  rw [accN_c, if_neg hj, h]; simp only []; rw [if_pos ⟨hf, hl⟩, h2]
theorem acc_no1 {lt j sl tk cv c : Nat} {vs : Nat → Int32} (hj : ¬ j = 0) (h : fillN (kd j sl) tk cv c = none) (hx : ¬ (fullN (kd j sl) tk cv = true ∧ sl + 1 < sLen j)) : (accN (lt, j, sl, tk, cv, vs) c).1 = false := by
  rw [accN_c, if_neg hj, h]; simp only []; rw [if_neg hx]
theorem acc_no2 {lt j sl tk cv c : Nat} {vs : Nat → Int32} (hj : ¬ j = 0) (h : fillN (kd j sl) tk cv c = none) (h2 : fillN (kd j (sl + 1)) 0 0 c = none) : (accN (lt, j, sl, tk, cv, vs) c).1 = false := by
  rw [accN_c, if_neg hj, h]; simp only []
  split
  · rw [h2]
  · rfl
theorem canN_0 {v m : Nat} : canN v 0 m = decide (v ≤ m) := by
  unfold canN
  by_cases h : v = 0
  · rw [if_pos h, h, decide_eq_true rfl, decide_eq_true (Nat.zero_le _)]
  · rw [if_neg h]
    by_cases h2 : v ≤ m
    · rw [decide_eq_true h2]; unfold cbN; rw [if_pos ⟨h2, Nat.zero_le _⟩]
    · rw [decide_eq_false h2]
      cases hc : cbN 0 m 3 v v with
      | false => rfl
      | true => exact absurd (cbN_le _ _ _ hc) h2
/-- one figure -/
theorem fill_d {k m c : Nat} (hk : mstK k = m) (hl : lstK k = 0) (hm : m ≤ 9) (h0 : ¬ (k = 42 ∨ k = 47 ∨ (k = 66 ∧ c = 45))) : fillN k 0 0 c = if 48 ≤ c ∧ c ≤ 48 + m then some (c - 48) else none := by
  rw [fill_dg h0, hk, hl]
  by_cases h1 : 48 ≤ c ∧ c ≤ 48 + m
  · rw [if_pos h1, if_neg (by omega), Nat.zero_mul, Nat.zero_add, canN_0, decide_eq_true (show c - 48 ≤ m by omega), if_pos rfl]
  · rw [if_neg h1]
    by_cases h2 : c < 48 ∨ 57 < c
    · rw [if_pos (h2.elim Or.inl (fun z => Or.inr (Or.inl z)))]
    · rw [if_neg (by omega), Nat.zero_mul, Nat.zero_add, canN_0, decide_eq_false (show ¬ c - 48 ≤ m by omega), if_neg Bool.false_ne_true]
theorem fill_d1 {k m c v : Nat} (hk : mstK k = m) (hl : lstK k = 0) (hm : m ≤ 9) (hv : v ≤ m) (h0 : ¬ (k = 42 ∨ k = 47)) : fillN k 1 v c = none := by
  by_cases h6 : k = 66 ∧ c = 45
  · rw [fill_sg (Or.inr (Or.inr h6)), if_pos (Or.inl Nat.one_pos)]
  · rw [fill_dg (by omega), hk, hl]
    by_cases h2 : c < 48 ∨ 57 < c ∨ (0 < 1 ∧ (v = 0 ∨ v = 1000))
    · rw [if_pos h2]
    · rw [if_neg h2, canN_0, decide_eq_false (by omega), if_neg Bool.false_ne_true]
theorem full_d {k m v : Nat} (hk : mstK k = m) (hl : lstK k = 0) (hv : v ≤ m) : fullN k 1 v = true := decide_eq_true ⟨Nat.one_pos, Or.inr ⟨by omega, by omega⟩⟩
theorem full_0 {k v : Nat} : fullN k 0 v = false := decide_eq_false (fun h => absurd h.1 (Nat.lt_irrefl 0))
/-- reading on from i to q -/
def runN (ch : Nat → Nat) : Nat → Nat → MS → Bool × MS
  | 0, _, s => (true, s)
  | N + 1, i, s => if (accN s (ch i)).1 = true then runN ch N (i + 1) (accN s (ch i)).2 else (false, s)
def Lands (ch : Nat → Nat) (i : Nat) (s : MS) (q : Nat) (S : MS) : Prop := ∃ k, q = i + k ∧ runN ch k i s = (true, S) ∧ ∀ t, i ≤ t → t < q → ch t ≠ 59
theorem Lands.refl {ch : Nat → Nat} {i : Nat} {s : MS} : Lands ch i s i s := ⟨0, rfl, rfl, fun t h1 h2 => by omega⟩
theorem runN_add {ch : Nat → Nat} : ∀ (a b i : Nat) (s S : MS), runN ch a i s = (true, S) → runN ch (a + b) i s = runN ch b (i + a) S
  | 0, b, i, s, S, h => by
    cases h; rw [Nat.zero_add]; rfl
  | a + 1, b, i, s, S, h => by
    rw [show a + 1 + b = (a + b) + 1 by omega]
    have e1 : ∀ N, runN ch (N + 1) i s = if (accN s (ch i)).1 = true then runN ch N (i + 1) (accN s (ch i)).2 else (false, s) := fun _ => rfl
    rw [e1] at h ⊢
    by_cases hc : (accN s (ch i)).1 = true
    · rw [if_pos hc] at h ⊢
      rw [runN_add a b (i + 1) _ S h, show i + 1 + a = i + (a + 1) by omega]
    · rw [if_neg hc] at h; cases h
theorem Lands.trans {ch : Nat → Nat} {i q r : Nat} {s S S2 : MS} (h : Lands ch i s q S) (h2 : Lands ch q S r S2) : Lands ch i s r S2 := by
  obtain ⟨a, e1, r1, c1⟩ := h
  obtain ⟨b, e2, r2, c2⟩ := h2
  refine ⟨a + b, by omega, ?_, fun t h1 h2 => ?_⟩
  · rw [runN_add a b i s S r1, ← e1]; exact r2
  · by_cases ht : t < q
    · exact c1 t h1 ht
    · exact c2 t (by omega) h2
theorem Lands.step {ch : Nat → Nat} {i : Nat} {s S : MS} (h : accN s (ch i) = (true, S)) (hc : ch i ≠ 59) : Lands ch i s (i + 1) S := by
  refine ⟨1, rfl, ?_, fun t h1 h2 => by rw [show t = i by omega]; exact hc⟩
  unfold runN; rw [h]; rfl
theorem fill_no59 {k tk v x : Nat} (h : fillN k tk v 59 = some x) (hk : k ≠ 59) : False := by
  by_cases h1 : k = 42 ∨ k = 47 ∨ (k = 66 ∧ 59 = 45)
  · rw [fill_sg h1, if_pos (by omega)] at h; cases h
  · rw [fill_dg h1, if_pos (by omega)] at h; cases h
/-! numbers of several figures -/
theorem canN_beg {x least most : Nat} (hl : 1 ≤ least) (hm : most ≤ 200) : canN x least most = beg x least most := by
  unfold canN beg
  by_cases h0 : x = 0
  · rw [if_pos h0, decide_eq_false (by omega)]; unfold begN; rw [if_neg (by omega)]
  · rw [if_neg h0, Bool.eq_iff_iff]
    unfold begN; rw [if_pos (by omega)]
    unfold begN; rw [if_pos (show 0 < 10 * x by omega)]
    unfold begN; rw [if_pos (show 0 < 10 * (10 * x) by omega)]
    unfold begN; rw [if_pos (show 0 < 10 * (10 * (10 * x)) by omega), if_neg (show ¬ 10 * (10 * (10 * x)) ≤ most by omega)]
    unfold cbN; unfold cbN; unfold cbN; unfold cbN
    by_cases a1 : x ≤ most
    · rw [if_pos a1]
      by_cases a2 : 10 * x ≤ most
      · rw [if_pos a2]
        by_cases a3 : 10 * (10 * x) ≤ most
        · rw [if_pos a3]
          simp only [Bool.or_eq_true, decide_eq_true_eq, Bool.false_eq_true, false_or]
          (repeat' split) <;> simp <;> omega
        · rw [if_neg a3]
          simp only [Bool.or_eq_true, decide_eq_true_eq, Bool.false_eq_true, false_or]
          (repeat' split) <;> simp <;> omega
      · rw [if_neg a2]
        simp only [Bool.or_eq_true, decide_eq_true_eq, Bool.false_eq_true, false_or]
        (repeat' split) <;> simp <;> omega
    · rw [if_neg a1]
      simp only [Bool.false_eq_true]
      (repeat' split) <;> simp <;> omega
theorem fill_n {k tk v c least most : Nat} (hk : mstK k = most) (hl : lstK k = least) (h1 : 1 ≤ least) (hm : most ≤ 200) (h0 : ¬ (k = 42 ∨ k = 47 ∨ k = 66)) (hz : 0 < tk → ¬ v = 0) (hv : v ≤ 200) : fillN k tk v c = if 48 ≤ c ∧ c ≤ 57 then (if beg (10 * v + c - 48) least most = true then some (10 * v + c - 48) else none) else none := by
  rw [fill_dg (by omega), hk, hl]
  by_cases hd : 48 ≤ c ∧ c ≤ 57
  · have hn : ¬ (c < 48 ∨ 57 < c ∨ (0 < tk ∧ (v = 0 ∨ v = 1000))) := by
      rintro (h | h | ⟨h, h2 | h2⟩)
      · omega
      · omega
      · exact hz h h2
      · omega
    rw [if_pos hd, if_neg hn, canN_beg h1 hm, show v * 10 + (c - 48) = 10 * v + c - 48 by omega]
  · rw [if_neg hd, if_pos (by omega)]
theorem upd_upd {f : Nat → Int32} {i : Nat} {x y : Int32} : upd (upd f i x) i y = upd f i y := by
  funext j; unfold upd; split <;> rfl
/-- a number slot read to its end -/
theorem run_num {ch : Nat → Nat} {ln lt j sl k least most : Nat} (h0 : ∀ i, ln ≤ i → ch i = 0) (hj : ¬ j = 0) (hkd : kd j sl = k) (hk : mstK k = most) (hl : lstK k = least) (h1 : 1 ≤ least) (hm : most ≤ 200) (hs : ¬ (k = 42 ∨ k = 47 ∨ k = 66)) :
    ∀ (N v i tk : Nat) (vs : Nat → Int32), ln < N + i → v ≤ most → (0 < tk → ¬ v = 0) → (tk = 0 → v = 0) → vs sl = encV v →
      ∃ tk' vs', Lands ch i (lt, j, sl, tk, v, vs) (rn ch least most N v i).2 (lt, j, sl, tk', (rn ch least most N v i).1, vs') ∧ (0 < tk' ↔ ¬ (rn ch least most N v i).1 = 0) ∧ vs' sl = encV (rn ch least most N v i).1 ∧ (∀ t, t ≠ sl → vs' t = vs t) ∧ fillN k tk' (rn ch least most N v i).1 (ch (rn ch least most N v i).2) = none
  | 0, v, i, tk, vs, hN, hv, hz, hz2, he => by
    have hc := h0 i (by omega)
    refine ⟨tk, vs, Lands.refl, ⟨hz, fun h => Nat.pos_of_ne_zero (fun z => h (hz2 z))⟩, he, fun _ _ => rfl, ?_⟩
    show fillN k tk v (ch i) = none
    rw [hc, fill_n hk hl h1 hm hs hz (by omega), if_neg (by omega)]
  | N + 1, v, i, tk, vs, hN, hv, hz, hz2, he => by
    have hf := fill_n (c := ch i) hk hl h1 hm hs hz (show v ≤ 200 by omega)
    by_cases hd : 48 ≤ ch i ∧ ch i ≤ 57
    · by_cases hb : beg (10 * v + ch i - 48) least most = true
      · have e : rn ch least most (N + 1) v i = rn ch least most N (10 * v + ch i - 48) (i + 1) := (if_pos hd).trans (if_pos hb)
        rw [if_pos hd, if_pos hb] at hf
        have hb2 := beg_le hb
        rw [e]
        obtain ⟨tk', vs', a1, a2, a3, a4, a5⟩ := run_num h0 hj hkd hk hl h1 hm hs N (10 * v + ch i - 48) (i + 1) (tk + 1) (upd vs sl (encV (10 * v + ch i - 48))) (by omega) hb2.2 (fun _ => by omega) (fun z => by omega) pk_us
        refine ⟨tk', vs', Lands.trans (Lands.step (acc_fill hj (by rw [hkd]; exact hf)) (by omega)) a1, a2, a3, fun t ht => ?_, a5⟩
        rw [a4 t ht, pk_un ht]
      · have e : rn ch least most (N + 1) v i = (v, i) := (if_pos hd).trans (if_neg hb)
        rw [if_pos hd, if_neg hb] at hf
        rw [e]
        exact ⟨tk, vs, Lands.refl, ⟨hz, fun h => Nat.pos_of_ne_zero (fun z => h (hz2 z))⟩, he, fun _ _ => rfl, hf⟩
    · have e : rn ch least most (N + 1) v i = (v, i) := if_neg hd
      rw [if_neg hd] at hf
      rw [e]
      exact ⟨tk, vs, Lands.refl, ⟨hz, fun h => Nat.pos_of_ne_zero (fun z => h (hz2 z))⟩, he, fun _ _ => rfl, hf⟩
theorem full_n {k tk v least most : Nat} (hk : mstK k = most) (hl : lstK k = least) (h1 : 1 ≤ least) (hv : v ≤ most) (hm : most ≤ 200) (ht : 0 < tk ↔ ¬ v = 0) : fullN k tk v = decide (least ≤ v) := by
  unfold fullN
  rw [hk, hl]
  by_cases h : least ≤ v
  · rw [decide_eq_true h, decide_eq_true ⟨ht.mpr (by omega), Or.inr ⟨h, hv⟩⟩]
  · rw [decide_eq_false h, decide_eq_false (fun z => by rcases z.2 with z | z <;> omega)]
/-- a number slot entered from the slot before -/
theorem run_enter {ch : Nat → Nat} {ln lt j sl k tk cv i least most : Nat} {vs : Nat → Int32} (h0 : ∀ i, ln ≤ i → ch i = 0) (hi : i ≤ ln) (hl60 : ln ≤ 60) (hj : ¬ j = 0) (hkd : kd j (sl + 1) = k) (hk : mstK k = most) (hl : lstK k = least) (h1 : 1 ≤ least) (hm : most ≤ 200) (hs : ¬ (k = 42 ∨ k = 47 ∨ k = 66))
    (hn : ∀ c, fillN (kd j sl) tk cv c = none) (hf : fullN (kd j sl) tk cv = true) (hlen : sl + 1 < sLen j) (hcmp : sl + 1 ≠ sLen j) :
    ∃ S, Lands ch i (lt, j, sl, tk, cv, vs) (rnum ch least most i).2 S ∧ (((rnum ch least most i).1 = 0 ∧ cmpN S = false ∧ (accN S (ch (rnum ch least most i).2)).1 = false) ∨
      (¬ (rnum ch least most i).1 = 0 ∧ ∃ tk' vs', S = (lt, j, sl + 1, tk', (rnum ch least most i).1, vs') ∧ 0 < tk' ∧ vs' (sl + 1) = encV (rnum ch least most i).1 ∧ (∀ t, t ≠ sl + 1 → vs' t = vs t) ∧ fillN k tk' (rnum ch least most i).1 (ch (rnum ch least most i).2) = none)) := by
  have hf0 := fill_n (c := ch i) (tk := 0) (v := 0) hk hl h1 hm hs (fun z => by omega) (by omega)
  unfold rnum
  by_cases hd : 48 ≤ ch i ∧ ch i ≤ 57
  · by_cases hb : beg (10 * 0 + ch i - 48) least most = true
    · have e : rn ch least most 61 0 i = rn ch least most 60 (10 * 0 + ch i - 48) (i + 1) := (if_pos hd).trans (if_pos hb)
      rw [if_pos hd, if_pos hb] at hf0
      have hb2 := beg_le hb
      rw [e]
      have hil : i < ln := by
        by_cases z : i < ln
        · exact z
        · have := h0 i (by omega); omega
      obtain ⟨tk', vs', a1, a2, a3, a4, a5⟩ := run_num (lt := lt) h0 hj hkd hk hl h1 hm hs 60 (10 * 0 + ch i - 48) (i + 1) 1 (upd vs (sl + 1) (encV (10 * 0 + ch i - 48))) (by omega) hb2.2 (fun _ => by omega) (fun z => by omega) pk_us
      have hpos : ¬ (rn ch least most 60 (10 * 0 + ch i - 48) (i + 1)).1 = 0 := by
        have : ∀ N v i, 0 < v → 0 < (rn ch least most N v i).1 := by
          intro N
          induction N with
          | zero => intro v i h; exact h
          | succ N ih =>
            intro v i h
            unfold rn
            split
            · split
              · exact ih _ _ (by omega)
              · exact h
            · exact h
        have := this 60 (10 * 0 + ch i - 48) (i + 1) (by omega)
        omega
      refine ⟨_, Lands.trans (Lands.step (acc_next hj (hn _) hf hlen (by rw [hkd]; exact hf0)) (by omega)) a1, Or.inr ⟨hpos, tk', vs', rfl, a2.mpr hpos, a3, fun t ht => ?_, a5⟩⟩
      rw [a4 t ht, pk_un ht]
    · have e : rn ch least most 61 0 i = (0, i) := (if_pos hd).trans (if_neg hb)
      rw [if_pos hd, if_neg hb] at hf0
      rw [e]
      exact ⟨_, Lands.refl, Or.inl ⟨rfl, decide_eq_false (fun z => hcmp z.2.1), acc_no2 hj (hn _) (by rw [hkd]; exact hf0)⟩⟩
  · have e : rn ch least most 61 0 i = (0, i) := if_neg hd
    rw [if_neg hd] at hf0
    rw [e]
    exact ⟨_, Lands.refl, Or.inl ⟨rfl, decide_eq_false (fun z => hcmp z.2.1), acc_no2 hj (hn _) (by rw [hkd]; exact hf0)⟩⟩
/-! the parts -/
def VALs (c : Nat) (S : MS) (u : Nat → Int32) : Prop := S.1 = c ∧ (c = 98 → S.2.2.2.2.2 0 = u 0 ∧ S.2.2.2.2.2 1 = u 1) ∧ (c = 110 → S.2.2.2.2.2 0 = u 0 ∧ S.2.2.2.2.2 1 = u 1 ∧ S.2.2.2.2.2 3 = u 2 ∧ S.2.2.2.2.2 5 = u 3) ∧ (c ≠ 98 → c ≠ 110 → S.2.2.2.2.2 0 = u 0)
def PartOK (ch : Nat → Nat) (p : Nat) (R : Bool × Nat × (Nat → Int32)) : Prop := ∃ S, Lands ch p clrS R.2.1 S ∧ cmpN S = R.1 ∧ (accN S (ch R.2.1)).1 = false ∧ (R.1 = true → VALs (ch p) S R.2.2)
theorem encV_le {v : Nat} (h : v ≤ 200) : encV v = nI v := if_neg (by omega)
theorem acc_letter {c : Nat} (h : ¬ behN c = 0) : accN clrS c = (true, (c, behN c, 0, 0, 0, fun _ => nI 0)) := by
  unfold accN clrS
  simp only []
  rw [if_pos trivial, decide_eq_true h]
theorem part_bad {ch : Nat → Nat} {p : Nat} {u : Nat → Int32} (h : behN (ch p) = 0) : PartOK ch p (false, p, u) := by
  have hcm : cmpN clrS = false := by decide
  refine ⟨clrS, Lands.refl, hcm, ?_, fun z => by cases z⟩
  unfold accN clrS
  simp only []
  rw [if_pos trivial]
  exact decide_eq_false (fun z => z h)
theorem part_dig {ch : Nat → Nat} {p j k m : Nat} {nu : Nat → Int32} (hb : behN (ch p) = j) (hj : ¬ j = 0) (hkd : kd j 0 = k) (hs : sLen j = 1) (hk : mstK k = m) (hl : lstK k = 0) (hm : m ≤ 9) (h0 : ¬ (k = 42 ∨ k = 47 ∨ k = 66)) (h59 : ch p ≠ 59) (h98 : ch p ≠ 98) (h110 : ch p ≠ 110) : PartOK ch p (rDig ch nu 0 m (p + 1)) := by
  have hlet := acc_letter (c := ch p) (by rw [hb]; exact hj)
  rw [hb] at hlet
  have hf := fill_d (c := ch (p + 1)) hk hl hm (show ¬ (k = 42 ∨ k = 47 ∨ (k = 66 ∧ ch (p + 1) = 45)) by omega)
  unfold rDig
  by_cases hd : pDg ch m (p + 1)
  · have hd' : 48 ≤ ch (p + 1) ∧ ch (p + 1) ≤ 48 + m := hd
    rw [if_pos hd]
    rw [if_pos hd'] at hf
    have hv : ch (p + 1) - 48 ≤ m := by omega
    refine ⟨_, (Lands.step hlet h59).trans (Lands.step (acc_fill hj (by rw [hkd]; exact hf)) (by omega)), ?_, ?_, fun _ => ⟨rfl, fun z => absurd z h98, fun z => absurd z h110, fun _ _ => ?_⟩⟩
    · exact decide_eq_true ⟨hj, by omega, by rw [hkd]; exact full_d hk hl hv⟩
    · exact acc_no1 hj (by rw [hkd]; exact fill_d1 hk hl hm hv (by omega)) (fun z => by omega)
    · show upd (fun _ => nI 0) 0 (encV (ch (p + 1) - 48)) 0 = upd nu 0 (nI (ch (p + 1) - 48)) 0
      rw [pk_us, pk_us]; exact encV_le (by omega)
  · have hd' : ¬ (48 ≤ ch (p + 1) ∧ ch (p + 1) ≤ 48 + m) := hd
    rw [if_neg hd]
    rw [if_neg hd'] at hf
    refine ⟨_, Lands.step hlet h59, ?_, ?_, fun z => by cases z⟩
    · exact decide_eq_false (fun z => absurd z.2.2 (by rw [full_0]; exact Bool.false_ne_true))
    · exact acc_no1 hj (by rw [hkd]; exact hf) (fun z => absurd z.1 (by rw [full_0]; exact Bool.false_ne_true))
theorem part_plus {ch : Nat → Nat} {ln p : Nat} {nu : Nat → Int32} (h0 : ∀ i, ln ≤ i → ch i = 0) (hl60 : ln ≤ 60) (hp : ch p = 43) (hpl : p < ln) : PartOK ch p (rNum ch nu 0 1 99 (p + 1)) := by
  have hlet := acc_letter (c := ch p) (by rw [hp]; decide)
  rw [show behN (ch p) = 5 by rw [hp]; decide] at hlet
  obtain ⟨tk', vs', a1, a2, a3, a4, a5⟩ := run_num (lt := ch p) (j := 5) (sl := 0) (k := 77) (least := 1) (most := 99) h0 (by decide) rfl rfl rfl (by omega) (by omega) (by omega) 61 0 (p + 1) 0 (fun _ => nI 0) (by omega) (by omega) (fun z => by omega) (fun _ => rfl) rfl
  have hv : (rn ch 1 99 61 0 (p + 1)).1 ≤ 99 := rnum_v
  have hful := full_n (k := 77) (least := 1) (most := 99) rfl rfl (by omega) hv (by omega) a2
  refine ⟨_, (Lands.step hlet (by omega)).trans a1, ?_, ?_, fun z => ⟨rfl, fun z => by omega, fun z => by omega, fun _ _ => ?_⟩⟩
  · show decide (¬ 5 = 0 ∧ 0 + 1 = sLen 5 ∧ fullN (kd 5 0) tk' _ = true) = decide (1 ≤ _)
    rw [show kd 5 0 = 77 from rfl, hful]
    by_cases h : 1 ≤ (rn ch 1 99 61 0 (p + 1)).1
    · rw [decide_eq_true h, decide_eq_true ⟨by decide, rfl, rfl⟩]; exact (decide_eq_true h).symm
    · rw [decide_eq_false h, decide_eq_false (fun z => Bool.false_ne_true z.2.2)]; exact (decide_eq_false h).symm
  · exact acc_no1 (by decide) a5 (fun z => absurd z.2 (by decide))
  · show vs' 0 = upd nu 0 _ 0
    rw [pk_us, a3]; exact encV_le (by omega)
