/-! ALL HANGS TOGETHER -/
def uS (g : Nat → Int32) : Nat → Int32
  | 0 => nI 0
  | j + 1 => uS g j + g (31 + 3 * j + 2)
def bS (g : Nat → Int32) : Nat → Int32
  | 0 => nI 0
  | j + 1 => bS g j + g (31 + 3 * j + 1)
section D99
variable {l : Launch} {κ : KP} {μ : MD} {pc : Nat} {lv : List (Nat × Value)} {st : List Value} {M : Mem} {bc bs : Nat} {P : FPost}
theorem r_topD {x y : UInt64} (h : x = y) (kk : fR l κ μ pc lv (.double y :: st) M bc bs P) : fR l κ μ pc lv (.double x :: st) M bc bs P := by rw [h]; exact kk
end D99
theorem lL_holds1i {l : Launch} {κ : KP} {M : Mem} {ad : Nat → Nat} {g tx : Nat → Int32} {dn n sn ln : Nat} {kp : Bool} (hA : aInj ad) (hC : ClsAt κ ad M ⟨g, sn, kp, tx, ln⟩ dn n) {i x3 : Nat} {x2 x1 : Int32} (hi : i < 3) {P : FPost} (kk : fR l κ mL_holds 103 [(9, .int (nI (n))), (8, .int (nI ((pInBath g n (nI i))))), (7, .int (nI (i))), (6, .int (nI (1))), (5, .int (nI (0))), (4, .int (nI (0))), (3, .int (nI (x3))), (2, .int (x2)), (1, .int (x1)), (0, .ref (ad 254))] [] M 0 0 P) : ∀ (N k : Nat), N + k = n → fR l κ mL_holds 65 [(9, .int (nI (k))), (8, .int (nI ((pInBath g k (nI i))))), (7, .int (nI (i))), (6, .int (nI (1))), (5, .int (nI (0))), (4, .int (nI (0))), (3, .int (nI (x3))), (2, .int (x2)), (1, .int (x1)), (0, .ref (ad 254))] [] M 0 0 P := by
  have hI : BI g dn n := hC.2.2.1
  have hdn := hI.dle
  have hn := hI.nle
  have hsn : sn ≤ 6 := hC.2.1.s6
  have hpb : ∀ t b, pInBath g t b ≤ t := fun t b => pCnt_le _ t
  intro N
  induction N with
  | zero =>
    intro k hj
    refine r_iload dL_holds_65 rfl ?_
    refine r_aload_n dL_holds_67 rfl ?_
    refine r_iconst (v := nI 1) dL_holds_68 (by decide) ?_
    refine r_callV (As := [.int (nI (1))]) dL_holds_69 (fM_isI (v' := (nI (n))) (tZ_count hA hC (by omega)) hC.2.2.1.n0) rfl hC.1 rfl rfl oX8_countZ rfl kL_13M nX8_countZ eX8_countZ (by unfold fRoom; decide) (Nat.le_of_ble_eq_true rfl) rfl (bc' := 0) (bs' := 0) rfl rfl ?_
    show fR _ _ _ 72 _ (.int (nI (n)) :: _) _ _ _ _
    refine r_icmp_geN (tgt := 103) dL_holds_72 (by decide) (by omega) (by omega) (fun c1 => ?_) (fun c1 => ?_)
    · skip
      have ej : k = n := by omega
      rw [ej]
      skip
      exact kk
    · exact absurd c1 (by omega)
  | succ N ih =>
    intro k hj
    refine r_iload dL_holds_65 rfl ?_
    refine r_aload_n dL_holds_67 rfl ?_
    refine r_iconst (v := nI 1) dL_holds_68 (by decide) ?_
    refine r_callV (As := [.int (nI (1))]) dL_holds_69 (fM_isI (v' := (nI (n))) (tZ_count hA hC (by omega)) hC.2.2.1.n0) rfl hC.1 rfl rfl oX8_countZ rfl kL_13M nX8_countZ eX8_countZ (by unfold fRoom; decide) (Nat.le_of_ble_eq_true rfl) rfl (bc' := 0) (bs' := 0) rfl rfl ?_
    show fR _ _ _ 72 _ (.int (nI (n)) :: _) _ _ _ _
    refine r_icmp_geN (tgt := 103) dL_holds_72 (by decide) (by omega) (by omega) (fun c1 => ?_) (fun c1 => ?_)
    · exact absurd c1 (by omega)
    · skip
      refine r_iload dL_holds_75 rfl ?_
      refine r_aload_n dL_holds_77 rfl ?_
      refine r_iload dL_holds_78 rfl ?_
      refine r_iconst (v := nI 3) dL_holds_80 (by decide) ?_
      refine r_callV (As := [.int (nI (k)), .int (nI (3))]) dL_holds_81 (fM_isI (v' := (pOf g k 3)) (tZ_sampleOf hA hC (by omega) (by omega)) rfl) rfl hC.1 rfl rfl oX8_sampleOfZ rfl kL_23M nX8_sampleOfZ eX8_sampleOfZ (by unfold fRoom; decide) (Nat.le_of_ble_eq_true rfl) rfl (bc' := 0) (bs' := 0) rfl rfl ?_
      show fR _ _ _ 84 _ (.int (pOf g k 3) :: _) _ _ _ _
      refine r_iload dL_holds_84 rfl ?_
      refine r_icmp_ne (tgt := 93) dL_holds_86 (by decide) (fun c2 => ?_) (fun c2 => ?_)
      · skip
        refine r_iconst (v := nI 0) dL_holds_93 (by decide) ?_
        refine r_iaddN dL_holds_94 ?_
        refine r_istore (lv' := [(8, .int (nI (((pInBath g k (nI i)) + 0)))), (9, .int (nI (k))), (7, .int (nI (i))), (6, .int (nI (1))), (5, .int (nI (0))), (4, .int (nI (0))), (3, .int (nI (x3))), (2, .int (x2)), (1, .int (x1)), (0, .ref (ad 254))]) dL_holds_95 (by decide) rfl ?_
        refine r_iinc (v := (nI (k + 1))) (lv' := [(9, .int (nI (k + 1))), (8, .int (nI (((pInBath g k (nI i)) + 0)))), (7, .int (nI (i))), (6, .int (nI (1))), (5, .int (nI (0))), (4, .int (nI (0))), (3, .int (nI (x3))), (2, .int (x2)), (1, .int (x1)), (0, .ref (ad 254))]) dL_holds_97 rfl (nI_inc _) (by decide) rfl ?_
        refine r_goto (tgt := 65) dL_holds_100 (by decide) ?_
        refine r_lv (lv' := [(9, .int (nI (k + 1))), (8, .int (nI (((pInBath g k (nI i)) + 0)))), (7, .int (nI (i))), (6, .int (nI (1))), (5, .int (nI (0))), (4, .int (nI (0))), (3, .int (nI (x3))), (2, .int (x2)), (1, .int (x1)), (0, .ref (ad 254))]) (by simp) ?_
        rw [show (pInBath g k (nI i) + 0) = pInBath g (k + 1) (nI i) from pCnt_f (by assumption)]
        exact ih (k + 1) (by omega)
      · skip
        refine r_iconst (v := nI 1) dL_holds_89 (by decide) ?_
        refine r_goto (tgt := 94) dL_holds_90 (by decide) ?_
        refine r_iaddN dL_holds_94 ?_
        refine r_istore (lv' := [(8, .int (nI (((pInBath g k (nI i)) + 1)))), (9, .int (nI (k))), (7, .int (nI (i))), (6, .int (nI (1))), (5, .int (nI (0))), (4, .int (nI (0))), (3, .int (nI (x3))), (2, .int (x2)), (1, .int (x1)), (0, .ref (ad 254))]) dL_holds_95 (by decide) rfl ?_
        refine r_iinc (v := (nI (k + 1))) (lv' := [(9, .int (nI (k + 1))), (8, .int (nI (((pInBath g k (nI i)) + 1)))), (7, .int (nI (i))), (6, .int (nI (1))), (5, .int (nI (0))), (4, .int (nI (0))), (3, .int (nI (x3))), (2, .int (x2)), (1, .int (x1)), (0, .ref (ad 254))]) dL_holds_97 rfl (nI_inc _) (by decide) rfl ?_
        refine r_goto (tgt := 65) dL_holds_100 (by decide) ?_
        refine r_lv (lv' := [(9, .int (nI (k + 1))), (8, .int (nI (((pInBath g k (nI i)) + 1)))), (7, .int (nI (i))), (6, .int (nI (1))), (5, .int (nI (0))), (4, .int (nI (0))), (3, .int (nI (x3))), (2, .int (x2)), (1, .int (x1)), (0, .ref (ad 254))]) (by simp) ?_
        rw [show (pInBath g k (nI i) + 1) = pInBath g (k + 1) (nI i) from pCnt_t (by assumption)]
        exact ih (k + 1) (by omega)
theorem lL_holds1 {l : Launch} {κ : KP} {M : Mem} {ad : Nat → Nat} {g tx : Nat → Int32} {dn n sn ln : Nat} {kp : Bool} (hA : aInj ad) (hC : ClsAt κ ad M ⟨g, sn, kp, tx, ln⟩ dn n) (hX3 : ∀ b, b < 3 → pInBath g n (nI b) ≤ 3) {P : FPost} (kk : fR l κ mL_holds 215 [(7, .int (nI (3))), (6, .int (nI (1))), (5, .int (nI (0))), (4, .int (nI (0))), (3, .int (nI ((sumN (fun b => pInBath g n (nI b)) 3)))), (2, .int ((bS g 3))), (1, .int ((uS g 3))), (0, .ref (ad 254))] [] M 0 0 P) : ∀ (N i : Nat), N + i = 3 → fR l κ mL_holds 53 [(7, .int (nI (i))), (6, .int (nI (1))), (5, .int (nI (0))), (4, .int (nI (0))), (3, .int (nI ((sumN (fun b => pInBath g n (nI b)) i)))), (2, .int ((bS g i))), (1, .int ((uS g i))), (0, .ref (ad 254))] [] M 0 0 P := by
  have hI : BI g dn n := hC.2.2.1
  have hdn := hI.dle
  have hn := hI.nle
  have hsn : sn ≤ 6 := hC.2.1.s6
  intro N
  induction N with
  | zero =>
    intro i hj
    refine r_iload dL_holds_53 rfl ?_
    refine r_iconst (v := nI 3) dL_holds_55 (by decide) ?_
    refine r_icmp_geN (tgt := 215) dL_holds_56 (by decide) (by omega) (by omega) (fun c1 => ?_) (fun c1 => ?_)
    · skip
      have ej : i = 3 := by omega
      rw [ej]
      skip
      exact kk
    · exact absurd c1 (by omega)
  | succ N ih =>
    intro i hj
    refine r_iload dL_holds_53 rfl ?_
    refine r_iconst (v := nI 3) dL_holds_55 (by decide) ?_
    refine r_icmp_geN (tgt := 215) dL_holds_56 (by decide) (by omega) (by omega) (fun c1 => ?_) (fun c1 => ?_)
    · exact absurd c1 (by omega)
    · skip
      refine r_iconst (v := nI 0) dL_holds_59 (by decide) ?_
      refine r_istore (lv' := [(8, .int (nI (0))), (7, .int (nI (i))), (6, .int (nI (1))), (5, .int (nI (0))), (4, .int (nI (0))), (3, .int (nI ((sumN (fun b => pInBath g n (nI b)) i)))), (2, .int ((bS g i))), (1, .int ((uS g i))), (0, .ref (ad 254))]) dL_holds_60 (by decide) rfl ?_
      refine r_iconst (v := nI 0) dL_holds_62 (by decide) ?_
      refine r_istore (lv' := [(9, .int (nI (0))), (8, .int (nI (0))), (7, .int (nI (i))), (6, .int (nI (1))), (5, .int (nI (0))), (4, .int (nI (0))), (3, .int (nI ((sumN (fun b => pInBath g n (nI b)) i)))), (2, .int ((bS g i))), (1, .int ((uS g i))), (0, .ref (ad 254))]) dL_holds_63 (by decide) rfl ?_
      refine r_lv (lv' := [(9, .int (nI (0))), (8, .int (nI (0))), (7, .int (nI (i))), (6, .int (nI (1))), (5, .int (nI (0))), (4, .int (nI (0))), (3, .int (nI ((sumN (fun b => pInBath g n (nI b)) i)))), (2, .int ((bS g i))), (1, .int ((uS g i))), (0, .ref (ad 254))]) (by simp) ?_
      have hi : i < 3 := by omega
      have hin := hX3 i hi
      have hpbn : pInBath g n (nI i) ≤ n := pCnt_le _ n
      have hw0 : ¬ g (31 + 3 * i + 0) < 0 := by obtain ⟨w, hw, ew⟩ := (hI.nd i hi).1; rw [ew]; exact nI_pos (by omega)
      have hw20 : ¬ nI 20 < g (31 + 3 * i + 0) := by obtain ⟨w, hw, ew⟩ := (hI.nd i hi).1; rw [ew]; exact nI_nlt hw (by omega)
      refine lL_holds1i hA hC hi ?_ n 0 (by omega)
      refine r_iload_n dL_holds_103 rfl ?_
      refine r_aload_n dL_holds_104 rfl ?_
      refine r_iload dL_holds_105 rfl ?_
      refine r_iconst (v := nI 2) dL_holds_107 (by decide) ?_
      refine r_callV (As := [.int (nI (i)), .int (nI (2))]) dL_holds_108 (fM_isI (v' := (g (31 + 3 * i + 2))) (tZ_needle hA hC (by omega) (by omega)) rfl) rfl hC.1 rfl rfl oX8_needleZ rfl kL_30M nX8_needleZ eX8_needleZ (by unfold fRoom; decide) (Nat.le_of_ble_eq_true rfl) rfl (bc' := 0) (bs' := 0) rfl rfl ?_
      show fR _ _ _ 111 _ (.int (g (31 + 3 * i + 2)) :: _) _ _ _ _
      refine r_iadd dL_holds_111 ?_
      refine r_istore_n (lv' := [(1, .int ((((uS g i)) + (g (31 + 3 * i + 2))))), (9, .int (nI (n))), (8, .int (nI ((pInBath g n (nI i))))), (7, .int (nI (i))), (6, .int (nI (1))), (5, .int (nI (0))), (4, .int (nI (0))), (3, .int (nI ((sumN (fun b => pInBath g n (nI b)) i)))), (2, .int ((bS g i))), (0, .ref (ad 254))]) dL_holds_112 (by decide) rfl ?_
      refine r_iload_n dL_holds_113 rfl ?_
      refine r_aload_n dL_holds_114 rfl ?_
      refine r_iload dL_holds_115 rfl ?_
      refine r_iconst (v := nI 1) dL_holds_117 (by decide) ?_
      refine r_callV (As := [.int (nI (i)), .int (nI (1))]) dL_holds_118 (fM_isI (v' := (g (31 + 3 * i + 1))) (tZ_needle hA hC (by omega) (by omega)) rfl) rfl hC.1 rfl rfl oX8_needleZ rfl kL_30M nX8_needleZ eX8_needleZ (by unfold fRoom; decide) (Nat.le_of_ble_eq_true rfl) rfl (bc' := 0) (bs' := 0) rfl rfl ?_
      show fR _ _ _ 121 _ (.int (g (31 + 3 * i + 1)) :: _) _ _ _ _
      refine r_iadd dL_holds_121 ?_
      refine r_istore_n (lv' := [(2, .int ((((bS g i)) + (g (31 + 3 * i + 1))))), (1, .int ((((uS g i)) + (g (31 + 3 * i + 2))))), (9, .int (nI (n))), (8, .int (nI ((pInBath g n (nI i))))), (7, .int (nI (i))), (6, .int (nI (1))), (5, .int (nI (0))), (4, .int (nI (0))), (3, .int (nI ((sumN (fun b => pInBath g n (nI b)) i)))), (0, .ref (ad 254))]) dL_holds_122 (by decide) rfl ?_
      refine r_iload_n dL_holds_123 rfl ?_
      refine r_iload dL_holds_124 rfl ?_
      refine r_iaddN dL_holds_126 ?_
      refine r_istore_n (lv' := [(3, .int (nI (((sumN (fun b => pInBath g n (nI b)) i) + (pInBath g n (nI i)))))), (2, .int ((((bS g i)) + (g (31 + 3 * i + 1))))), (1, .int ((((uS g i)) + (g (31 + 3 * i + 2))))), (9, .int (nI (n))), (8, .int (nI ((pInBath g n (nI i))))), (7, .int (nI (i))), (6, .int (nI (1))), (5, .int (nI (0))), (4, .int (nI (0))), (0, .ref (ad 254))]) dL_holds_127 (by decide) rfl ?_
      refine r_iload dL_holds_128 rfl ?_
      refine r_if_eqN (tgt := 206) dL_holds_130 (by decide) (by omega) (fun c2 => absurd c2 (by omega)) (fun c2 => ?_)
      refine r_aload_n dL_holds_133 rfl ?_
      refine r_iload dL_holds_134 rfl ?_
      refine r_iconst (v := nI 0) dL_holds_136 (by decide) ?_
      refine r_callV (As := [.int (nI (i)), .int (nI (0))]) dL_holds_137 (fM_isI (v' := (g (31 + 3 * i + 0))) (tZ_needle hA hC (by omega) (by omega)) rfl) rfl hC.1 rfl rfl oX8_needleZ rfl kL_30M nX8_needleZ eX8_needleZ (by unfold fRoom; decide) (Nat.le_of_ble_eq_true rfl) rfl (bc' := 0) (bs' := 0) rfl rfl ?_
      show fR _ _ _ 140 _ (.int (g (31 + 3 * i + 0)) :: _) _ _ _ _
      refine r_if_lt (tgt := 206) dL_holds_140 (by decide) (fun c3 => by exact absurd c3 hw0) (fun c3 => ?_)
      refine r_aload_n dL_holds_143 rfl ?_
      refine r_iload dL_holds_144 rfl ?_
      refine r_iconst (v := nI 0) dL_holds_146 (by decide) ?_
      refine r_callV (As := [.int (nI (i)), .int (nI (0))]) dL_holds_147 (fM_isI (v' := (g (31 + 3 * i + 0))) (tZ_needle hA hC (by omega) (by omega)) rfl) rfl hC.1 rfl rfl oX8_needleZ rfl kL_30M nX8_needleZ eX8_needleZ (by unfold fRoom; decide) (Nat.le_of_ble_eq_true rfl) rfl (bc' := 0) (bs' := 0) rfl rfl ?_
      show fR _ _ _ 150 _ (.int (g (31 + 3 * i + 0)) :: _) _ _ _ _
      refine r_bipush (v := nI 20) dL_holds_150 (by decide) ?_
      refine r_icmp_gt (tgt := 206) dL_holds_152 (by decide) (fun c4 => by exact absurd c4 hw20) (fun c4 => ?_)
      refine r_aload_n dL_holds_155 rfl ?_
      refine r_iload dL_holds_156 rfl ?_
      refine r_iconst (v := nI 1) dL_holds_158 (by decide) ?_
      refine r_callV (As := [.int (nI (i)), .int (nI (1))]) dL_holds_159 (fM_isI (v' := (nI (pInBath g n (nI i)))) (tZ_bathOf hA hC (by omega) (by omega)) rfl) rfl hC.1 rfl rfl oX8_bathOfZ rfl kL_33M nX8_bathOfZ eX8_bathOfZ (by unfold fRoom; decide) (Nat.le_of_ble_eq_true rfl) rfl (bc' := 0) (bs' := 0) rfl rfl ?_
      show fR _ _ _ 162 _ (.int (nI (pInBath g n (nI i))) :: _) _ _ _ _
      refine r_iload dL_holds_162 rfl ?_
      refine r_icmp_neN (tgt := 206) dL_holds_164 (by decide) (by omega) (by omega) (fun c5 => by exact absurd rfl c5) (fun c5 => ?_)
      refine r_iload dL_holds_167 rfl ?_
      refine r_iconst (v := nI 3) dL_holds_169 (by decide) ?_
      refine r_icmp_gtN (tgt := 206) dL_holds_170 (by decide) (by omega) (by omega) (fun c6 => by omega) (fun c6 => ?_)
      by_cases z0 : pInBath g n (nI i) = 0
      · skip
        have hf : pFar g i n = -1 := by rcases pFar_of hI hi n (Nat.le_refl n) with ⟨-, e⟩ | ⟨e, -⟩; exact e; omega
        refine r_aload_n dL_holds_173 rfl ?_
        refine r_iload dL_holds_174 rfl ?_
        refine r_iconst (v := nI 2) dL_holds_176 (by decide) ?_
        refine r_callV (As := [.int (nI (i)), .int (nI (2))]) dL_holds_177 (fM_isI (v' := (pFar g i n)) (tZ_bathOf hA hC (by omega) (by omega)) rfl) rfl hC.1 rfl rfl oX8_bathOfZ rfl kL_33M nX8_bathOfZ eX8_bathOfZ (by unfold fRoom; decide) (Nat.le_of_ble_eq_true rfl) rfl (bc' := 0) (bs' := 0) rfl rfl ?_
        show fR _ _ _ 180 _ (.int (pFar g i n) :: _) _ _ _ _
        refine r_iconst (v := (-1)) dL_holds_180 (by decide) ?_
        refine r_icmp_ne (tgt := 188) dL_holds_181 (by decide) (fun c7 => by exact absurd hf c7) (fun c7 => ?_)
        refine r_iconst (v := nI 1) dL_holds_184 (by decide) ?_
        refine r_goto (tgt := 189) dL_holds_185 (by decide) ?_
        refine r_iload dL_holds_189 rfl ?_
        refine r_if_neN (tgt := 198) dL_holds_191 (by decide) (by omega) (fun c8 => by omega) (fun c8 => ?_)
        refine r_iconst (v := nI 1) dL_holds_194 (by decide) ?_
        refine r_goto (tgt := 199) dL_holds_195 (by decide) ?_
        refine r_icmp_neN (tgt := 206) dL_holds_199 (by decide) (by omega) (by omega) (fun c9 => absurd c9 (by omega)) (fun c9 => ?_)
        refine r_iconst (v := nI 1) dL_holds_202 (by decide) ?_
        refine r_goto (tgt := 207) dL_holds_203 (by decide) ?_
        refine r_istore (lv' := [(6, .int (nI (1))), (3, .int (nI (((sumN (fun b => pInBath g n (nI b)) i) + (pInBath g n (nI i)))))), (2, .int ((((bS g i)) + (g (31 + 3 * i + 1))))), (1, .int ((((uS g i)) + (g (31 + 3 * i + 2))))), (9, .int (nI (n))), (8, .int (nI ((pInBath g n (nI i))))), (7, .int (nI (i))), (5, .int (nI (0))), (4, .int (nI (0))), (0, .ref (ad 254))]) dL_holds_207 (by decide) rfl ?_
        refine r_iinc (v := (nI (i + 1))) (lv' := [(7, .int (nI (i + 1))), (6, .int (nI (1))), (3, .int (nI (((sumN (fun b => pInBath g n (nI b)) i) + (pInBath g n (nI i)))))), (2, .int ((((bS g i)) + (g (31 + 3 * i + 1))))), (1, .int ((((uS g i)) + (g (31 + 3 * i + 2))))), (9, .int (nI (n))), (8, .int (nI ((pInBath g n (nI i))))), (5, .int (nI (0))), (4, .int (nI (0))), (0, .ref (ad 254))]) dL_holds_209 rfl (nI_inc _) (by decide) rfl ?_
        refine r_goto (tgt := 53) dL_holds_212 (by decide) ?_
        refine r_lv (lv' := [(7, .int (nI (i + 1))), (6, .int (nI (1))), (5, .int (nI (0))), (4, .int (nI (0))), (3, .int (nI (((sumN (fun b => pInBath g n (nI b)) i) + (pInBath g n (nI i)))))), (2, .int ((((bS g i)) + (g (31 + 3 * i + 1))))), (1, .int ((((uS g i)) + (g (31 + 3 * i + 2))))), (0, .ref (ad 254))]) (by simp) ?_
        exact ih (i + 1) (by omega)
      · skip
        have hf : ¬ pFar g i n = -1 := by rcases pFar_of hI hi n (Nat.le_refl n) with ⟨e, -⟩ | ⟨-, y, hy, e⟩; omega; rw [e]; exact nI_m1 (by omega)
        refine r_aload_n dL_holds_173 rfl ?_
        refine r_iload dL_holds_174 rfl ?_
        refine r_iconst (v := nI 2) dL_holds_176 (by decide) ?_
        refine r_callV (As := [.int (nI (i)), .int (nI (2))]) dL_holds_177 (fM_isI (v' := (pFar g i n)) (tZ_bathOf hA hC (by omega) (by omega)) rfl) rfl hC.1 rfl rfl oX8_bathOfZ rfl kL_33M nX8_bathOfZ eX8_bathOfZ (by unfold fRoom; decide) (Nat.le_of_ble_eq_true rfl) rfl (bc' := 0) (bs' := 0) rfl rfl ?_
        show fR _ _ _ 180 _ (.int (pFar g i n) :: _) _ _ _ _
        refine r_iconst (v := (-1)) dL_holds_180 (by decide) ?_
        refine r_icmp_ne (tgt := 188) dL_holds_181 (by decide) (fun c10 => ?_) (fun c10 => by exact absurd c10 hf)
        refine r_iconst (v := nI 0) dL_holds_188 (by decide) ?_
        refine r_iload dL_holds_189 rfl ?_
        refine r_if_neN (tgt := 198) dL_holds_191 (by decide) (by omega) (fun c11 => ?_) (fun c11 => by omega)
        refine r_iconst (v := nI 0) dL_holds_198 (by decide) ?_
        refine r_icmp_neN (tgt := 206) dL_holds_199 (by decide) (by omega) (by omega) (fun c12 => absurd c12 (by omega)) (fun c12 => ?_)
        refine r_iconst (v := nI 1) dL_holds_202 (by decide) ?_
        refine r_goto (tgt := 207) dL_holds_203 (by decide) ?_
        refine r_istore (lv' := [(6, .int (nI (1))), (3, .int (nI (((sumN (fun b => pInBath g n (nI b)) i) + (pInBath g n (nI i)))))), (2, .int ((((bS g i)) + (g (31 + 3 * i + 1))))), (1, .int ((((uS g i)) + (g (31 + 3 * i + 2))))), (9, .int (nI (n))), (8, .int (nI ((pInBath g n (nI i))))), (7, .int (nI (i))), (5, .int (nI (0))), (4, .int (nI (0))), (0, .ref (ad 254))]) dL_holds_207 (by decide) rfl ?_
        refine r_iinc (v := (nI (i + 1))) (lv' := [(7, .int (nI (i + 1))), (6, .int (nI (1))), (3, .int (nI (((sumN (fun b => pInBath g n (nI b)) i) + (pInBath g n (nI i)))))), (2, .int ((((bS g i)) + (g (31 + 3 * i + 1))))), (1, .int ((((uS g i)) + (g (31 + 3 * i + 2))))), (9, .int (nI (n))), (8, .int (nI ((pInBath g n (nI i))))), (5, .int (nI (0))), (4, .int (nI (0))), (0, .ref (ad 254))]) dL_holds_209 rfl (nI_inc _) (by decide) rfl ?_
        refine r_goto (tgt := 53) dL_holds_212 (by decide) ?_
        refine r_lv (lv' := [(7, .int (nI (i + 1))), (6, .int (nI (1))), (5, .int (nI (0))), (4, .int (nI (0))), (3, .int (nI (((sumN (fun b => pInBath g n (nI b)) i) + (pInBath g n (nI i)))))), (2, .int ((((bS g i)) + (g (31 + 3 * i + 1))))), (1, .int ((((uS g i)) + (g (31 + 3 * i + 2))))), (0, .ref (ad 254))]) (by simp) ?_
        exact ih (i + 1) (by omega)
theorem lL_holds2 {l : Launch} {κ : KP} {M : Mem} {ad : Nat → Nat} {g tx : Nat → Int32} {dn n sn ln : Nat} {kp : Bool} (hA : aInj ad) (hC : ClsAt κ ad M ⟨g, sn, kp, tx, ln⟩ dn n) {x3 : Nat} {x2 x1 : Int32} {P : FPost} (kk : fR l κ mL_holds 267 [(7, .int (nI (dn))), (6, .int (nI (1))), (5, .int (nI (0))), (4, .int (nI ((sumN (fun d => pSamplesOf g d n) dn)))), (3, .int (nI (x3))), (2, .int (x2)), (1, .int (x1)), (0, .ref (ad 254))] [] M 0 0 P) : ∀ (N d : Nat), N + d = dn → fR l κ mL_holds 218 [(7, .int (nI (d))), (6, .int (nI (1))), (5, .int (nI (0))), (4, .int (nI ((sumN (fun d => pSamplesOf g d n) d)))), (3, .int (nI (x3))), (2, .int (x2)), (1, .int (x1)), (0, .ref (ad 254))] [] M 0 0 P := by
  have hI : BI g dn n := hC.2.2.1
  have hdn := hI.dle
  have hn := hI.nle
  have hsn : sn ≤ 6 := hC.2.1.s6
  intro N
  induction N with
  | zero =>
    intro d hj
    refine r_iload dL_holds_218 rfl ?_
    refine r_aload_n dL_holds_220 rfl ?_
    refine r_iconst (v := nI 0) dL_holds_221 (by decide) ?_
    refine r_callV (As := [.int (nI (0))]) dL_holds_222 (fM_isI (v' := (nI (dn))) (tZ_count hA hC (by omega)) hC.2.2.1.d0) rfl hC.1 rfl rfl oX8_countZ rfl kL_13M nX8_countZ eX8_countZ (by unfold fRoom; decide) (Nat.le_of_ble_eq_true rfl) rfl (bc' := 0) (bs' := 0) rfl rfl ?_
    show fR _ _ _ 225 _ (.int (nI (dn)) :: _) _ _ _ _
    refine r_icmp_geN (tgt := 267) dL_holds_225 (by decide) (by omega) (by omega) (fun c1 => ?_) (fun c1 => ?_)
    · skip
      have ej : d = dn := by omega
      rw [ej]
      skip
      exact kk
    · exact absurd c1 (by omega)
  | succ N ih =>
    intro d hj
    refine r_iload dL_holds_218 rfl ?_
    refine r_aload_n dL_holds_220 rfl ?_
    refine r_iconst (v := nI 0) dL_holds_221 (by decide) ?_
    refine r_callV (As := [.int (nI (0))]) dL_holds_222 (fM_isI (v' := (nI (dn))) (tZ_count hA hC (by omega)) hC.2.2.1.d0) rfl hC.1 rfl rfl oX8_countZ rfl kL_13M nX8_countZ eX8_countZ (by unfold fRoom; decide) (Nat.le_of_ble_eq_true rfl) rfl (bc' := 0) (bs' := 0) rfl rfl ?_
    show fR _ _ _ 225 _ (.int (nI (dn)) :: _) _ _ _ _
    refine r_icmp_geN (tgt := 267) dL_holds_225 (by decide) (by omega) (by omega) (fun c1 => ?_) (fun c1 => ?_)
    · exact absurd c1 (by omega)
    · skip
      refine r_iload dL_holds_228 rfl ?_
      refine r_aload_n dL_holds_230 rfl ?_
      refine r_iload dL_holds_231 rfl ?_
      refine r_iconst (v := nI 3) dL_holds_233 (by decide) ?_
      refine r_callV (As := [.int (nI (d)), .int (nI (3))]) dL_holds_234 (fM_isI (v' := (nI (pSamplesOf g d n))) (tZ_drumOf hA hC (by omega) (by omega)) rfl) rfl hC.1 rfl rfl oX8_drumOfZ rfl kL_19M nX8_drumOfZ eX8_drumOfZ (by unfold fRoom; decide) (Nat.le_of_ble_eq_true rfl) rfl (bc' := 0) (bs' := 0) rfl rfl ?_
      show fR _ _ _ 237 _ (.int (nI (pSamplesOf g d n)) :: _) _ _ _ _
      refine r_iaddN dL_holds_237 ?_
      refine r_istore (lv' := [(4, .int (nI (((sumN (fun d => pSamplesOf g d n) d) + (pSamplesOf g d n))))), (7, .int (nI (d))), (6, .int (nI (1))), (5, .int (nI (0))), (3, .int (nI (x3))), (2, .int (x2)), (1, .int (x1)), (0, .ref (ad 254))]) dL_holds_238 (by decide) rfl ?_
      refine r_iload dL_holds_240 rfl ?_
      refine r_if_eqN (tgt := 258) dL_holds_242 (by decide) (by omega) (fun c2 => absurd c2 (by omega)) (fun c2 => ?_)
      refine r_aload_n dL_holds_245 rfl ?_
      refine r_iload dL_holds_246 rfl ?_
      refine r_callS (As := [.ref (ad 254), .int (nI (d))]) dL_holds_248 (tL_isDrum hA hC (by omega)) rfl oL_isDrum rfl kL_100M sL_isDrum (by unfold fRoom; decide) (Nat.le_of_ble_eq_true rfl) rfl (bc' := 0) (bs' := 0) rfl rfl ?_
      show fR _ _ _ 251 _ (.int (nI (1)) :: _) _ _ _ _
      refine r_if_eqN (tgt := 258) dL_holds_251 (by decide) (by omega) (fun c3 => absurd c3 (by omega)) (fun c3 => ?_)
      refine r_iconst (v := nI 1) dL_holds_254 (by decide) ?_
      refine r_goto (tgt := 259) dL_holds_255 (by decide) ?_
      refine r_istore (lv' := [(6, .int (nI (1))), (4, .int (nI (((sumN (fun d => pSamplesOf g d n) d) + (pSamplesOf g d n))))), (7, .int (nI (d))), (5, .int (nI (0))), (3, .int (nI (x3))), (2, .int (x2)), (1, .int (x1)), (0, .ref (ad 254))]) dL_holds_259 (by decide) rfl ?_
      refine r_iinc (v := (nI (d + 1))) (lv' := [(7, .int (nI (d + 1))), (6, .int (nI (1))), (4, .int (nI (((sumN (fun d => pSamplesOf g d n) d) + (pSamplesOf g d n))))), (5, .int (nI (0))), (3, .int (nI (x3))), (2, .int (x2)), (1, .int (x1)), (0, .ref (ad 254))]) dL_holds_261 rfl (nI_inc _) (by decide) rfl ?_
      refine r_goto (tgt := 218) dL_holds_264 (by decide) ?_
      refine r_lv (lv' := [(7, .int (nI (d + 1))), (6, .int (nI (1))), (5, .int (nI (0))), (4, .int (nI (((sumN (fun d => pSamplesOf g d n) d) + (pSamplesOf g d n))))), (3, .int (nI (x3))), (2, .int (x2)), (1, .int (x1)), (0, .ref (ad 254))]) (by simp) ?_
      exact ih (d + 1) (by omega)
theorem lL_holds3 {l : Launch} {κ : KP} {M : Mem} {ad : Nat → Nat} {g tx : Nat → Int32} {dn n sn ln : Nat} {kp : Bool} (hA : aInj ad) (hC : ClsAt κ ad M ⟨g, sn, kp, tx, ln⟩ dn n) {x4 x3 : Nat} {x2 x1 : Int32} (hX3 : ∀ b, b < 3 → pInBath g n (nI b) ≤ 3) {P : FPost} (kk : fR l κ mL_holds 328 [(7, .int (nI (n))), (6, .int (nI (1))), (5, .int (nI ((pPend g n)))), (4, .int (nI (x4))), (3, .int (nI (x3))), (2, .int (x2)), (1, .int (x1)), (0, .ref (ad 254))] [] M 0 0 P) : ∀ (N k : Nat), N + k = n → fR l κ mL_holds 270 [(7, .int (nI (k))), (6, .int (nI (1))), (5, .int (nI ((pPend g k)))), (4, .int (nI (x4))), (3, .int (nI (x3))), (2, .int (x2)), (1, .int (x1)), (0, .ref (ad 254))] [] M 0 0 P := by
  have hI : BI g dn n := hC.2.2.1
  have hdn := hI.dle
  have hn := hI.nle
  have hsn : sn ≤ 6 := hC.2.1.s6
  intro N
  induction N with
  | zero =>
    intro k hj
    refine r_iload dL_holds_270 rfl ?_
    refine r_aload_n dL_holds_272 rfl ?_
    refine r_iconst (v := nI 1) dL_holds_273 (by decide) ?_
    refine r_callV (As := [.int (nI (1))]) dL_holds_274 (fM_isI (v' := (nI (n))) (tZ_count hA hC (by omega)) hC.2.2.1.n0) rfl hC.1 rfl rfl oX8_countZ rfl kL_13M nX8_countZ eX8_countZ (by unfold fRoom; decide) (Nat.le_of_ble_eq_true rfl) rfl (bc' := 0) (bs' := 0) rfl rfl ?_
    show fR _ _ _ 277 _ (.int (nI (n)) :: _) _ _ _ _
    refine r_icmp_geN (tgt := 328) dL_holds_277 (by decide) (by omega) (by omega) (fun c1 => ?_) (fun c1 => ?_)
    · skip
      have ej : k = n := by omega
      rw [ej]
      skip
      exact kk
    · exact absurd c1 (by omega)
  | succ N ih =>
    intro k hj
    refine r_iload dL_holds_270 rfl ?_
    refine r_aload_n dL_holds_272 rfl ?_
    refine r_iconst (v := nI 1) dL_holds_273 (by decide) ?_
    refine r_callV (As := [.int (nI (1))]) dL_holds_274 (fM_isI (v' := (nI (n))) (tZ_count hA hC (by omega)) hC.2.2.1.n0) rfl hC.1 rfl rfl oX8_countZ rfl kL_13M nX8_countZ eX8_countZ (by unfold fRoom; decide) (Nat.le_of_ble_eq_true rfl) rfl (bc' := 0) (bs' := 0) rfl rfl ?_
    show fR _ _ _ 277 _ (.int (nI (n)) :: _) _ _ _ _
    refine r_icmp_geN (tgt := 328) dL_holds_277 (by decide) (by omega) (by omega) (fun c1 => ?_) (fun c1 => ?_)
    · exact absurd c1 (by omega)
    · skip
      refine r_iload dL_holds_280 rfl ?_
      refine r_aload_n dL_holds_282 rfl ?_
      refine r_iload dL_holds_283 rfl ?_
      refine r_bipush (v := nI 6) dL_holds_285 (by decide) ?_
      refine r_callV (As := [.int (nI (k)), .int (nI (6))]) dL_holds_287 (fM_isI (v' := (pWhy g k)) (tZ_sampleOf hA hC (by omega) (by omega)) rfl) rfl hC.1 rfl rfl oX8_sampleOfZ rfl kL_23M nX8_sampleOfZ eX8_sampleOfZ (by unfold fRoom; decide) (Nat.le_of_ble_eq_true rfl) rfl (bc' := 0) (bs' := 0) rfl rfl ?_
      show fR _ _ _ 290 _ (.int (pWhy g k) :: _) _ _ _ _
      refine r_if_ne (tgt := 297) dL_holds_290 (by decide) (fun c2 => ?_) (fun c2 => ?_)
      · skip
        refine r_iconst (v := nI 0) dL_holds_297 (by decide) ?_
        refine r_iaddN dL_holds_298 ?_
        refine r_istore (lv' := [(5, .int (nI (((pPend g k) + 0)))), (7, .int (nI (k))), (6, .int (nI (1))), (4, .int (nI (x4))), (3, .int (nI (x3))), (2, .int (x2)), (1, .int (x1)), (0, .ref (ad 254))]) dL_holds_299 (by decide) rfl ?_
        refine r_iload dL_holds_301 rfl ?_
        refine r_if_eqN (tgt := 319) dL_holds_303 (by decide) (by omega) (fun c3 => absurd c3 (by omega)) (fun c3 => ?_)
        refine r_aload_n dL_holds_306 rfl ?_
        refine r_iload dL_holds_307 rfl ?_
        refine r_callS (As := [.ref (ad 254), .int (nI (k))]) dL_holds_309 (tL_isSample hA hC (by omega) hX3) rfl oL_isSample rfl kL_104M sL_isSample (by unfold fRoom; decide) (Nat.le_of_ble_eq_true rfl) rfl (bc' := 0) (bs' := 0) rfl rfl ?_
        show fR _ _ _ 312 _ (.int (nI (1)) :: _) _ _ _ _
        refine r_if_eqN (tgt := 319) dL_holds_312 (by decide) (by omega) (fun c4 => absurd c4 (by omega)) (fun c4 => ?_)
        refine r_iconst (v := nI 1) dL_holds_315 (by decide) ?_
        refine r_goto (tgt := 320) dL_holds_316 (by decide) ?_
        refine r_istore (lv' := [(6, .int (nI (1))), (5, .int (nI (((pPend g k) + 0)))), (7, .int (nI (k))), (4, .int (nI (x4))), (3, .int (nI (x3))), (2, .int (x2)), (1, .int (x1)), (0, .ref (ad 254))]) dL_holds_320 (by decide) rfl ?_
        refine r_iinc (v := (nI (k + 1))) (lv' := [(7, .int (nI (k + 1))), (6, .int (nI (1))), (5, .int (nI (((pPend g k) + 0)))), (4, .int (nI (x4))), (3, .int (nI (x3))), (2, .int (x2)), (1, .int (x1)), (0, .ref (ad 254))]) dL_holds_322 rfl (nI_inc _) (by decide) rfl ?_
        refine r_goto (tgt := 270) dL_holds_325 (by decide) ?_
        refine r_lv (lv' := [(7, .int (nI (k + 1))), (6, .int (nI (1))), (5, .int (nI (((pPend g k) + 0)))), (4, .int (nI (x4))), (3, .int (nI (x3))), (2, .int (x2)), (1, .int (x1)), (0, .ref (ad 254))]) (by simp) ?_
        rw [show (pPend g k + 0) = pPend g (k + 1) from pCnt_f (by assumption)]
        exact ih (k + 1) (by omega)
      · skip
        refine r_iconst (v := nI 1) dL_holds_293 (by decide) ?_
        refine r_goto (tgt := 298) dL_holds_294 (by decide) ?_
        refine r_iaddN dL_holds_298 ?_
        refine r_istore (lv' := [(5, .int (nI (((pPend g k) + 1)))), (7, .int (nI (k))), (6, .int (nI (1))), (4, .int (nI (x4))), (3, .int (nI (x3))), (2, .int (x2)), (1, .int (x1)), (0, .ref (ad 254))]) dL_holds_299 (by decide) rfl ?_
        refine r_iload dL_holds_301 rfl ?_
        refine r_if_eqN (tgt := 319) dL_holds_303 (by decide) (by omega) (fun c5 => absurd c5 (by omega)) (fun c5 => ?_)
        refine r_aload_n dL_holds_306 rfl ?_
        refine r_iload dL_holds_307 rfl ?_
        refine r_callS (As := [.ref (ad 254), .int (nI (k))]) dL_holds_309 (tL_isSample hA hC (by omega) hX3) rfl oL_isSample rfl kL_104M sL_isSample (by unfold fRoom; decide) (Nat.le_of_ble_eq_true rfl) rfl (bc' := 0) (bs' := 0) rfl rfl ?_
        show fR _ _ _ 312 _ (.int (nI (1)) :: _) _ _ _ _
        refine r_if_eqN (tgt := 319) dL_holds_312 (by decide) (by omega) (fun c6 => absurd c6 (by omega)) (fun c6 => ?_)
        refine r_iconst (v := nI 1) dL_holds_315 (by decide) ?_
        refine r_goto (tgt := 320) dL_holds_316 (by decide) ?_
        refine r_istore (lv' := [(6, .int (nI (1))), (5, .int (nI (((pPend g k) + 1)))), (7, .int (nI (k))), (4, .int (nI (x4))), (3, .int (nI (x3))), (2, .int (x2)), (1, .int (x1)), (0, .ref (ad 254))]) dL_holds_320 (by decide) rfl ?_
        refine r_iinc (v := (nI (k + 1))) (lv' := [(7, .int (nI (k + 1))), (6, .int (nI (1))), (5, .int (nI (((pPend g k) + 1)))), (4, .int (nI (x4))), (3, .int (nI (x3))), (2, .int (x2)), (1, .int (x1)), (0, .ref (ad 254))]) dL_holds_322 rfl (nI_inc _) (by decide) rfl ?_
        refine r_goto (tgt := 270) dL_holds_325 (by decide) ?_
        refine r_lv (lv' := [(7, .int (nI (k + 1))), (6, .int (nI (1))), (5, .int (nI (((pPend g k) + 1)))), (4, .int (nI (x4))), (3, .int (nI (x3))), (2, .int (x2)), (1, .int (x1)), (0, .ref (ad 254))]) (by simp) ?_
        rw [show (pPend g k + 1) = pPend g (k + 1) from pCnt_t (by assumption)]
        exact ih (k + 1) (by omega)
theorem lL_holds_E2 {l : Launch} {κ : KP} {M : Mem} {ad : Nat → Nat} {g tx : Nat → Int32} {dn n sn ln : Nat} {kp : Bool} (hA : aInj ad) (hC : ClsAt κ ad M ⟨g, sn, kp, tx, ln⟩ dn n) (hus : uS g 3 = g 2) (hbs : bS g 3 = g 32 + g 35 + g 38) (hin : sumN (fun b => pInBath g n (nI b)) 3 ≤ n) (hsm : sumN (fun d => pSamplesOf g d n) dn = n) : fR l κ mL_holds 352 [(7, .double ((shD (pPend g n) n))), (6, .int (nI (1))), (5, .int (nI ((pPend g n)))), (4, .int (nI ((sumN (fun d => pSamplesOf g d n) dn)))), (3, .int (nI ((sumN (fun b => pInBath g n (nI b)) 3)))), (2, .int ((bS g 3))), (1, .int ((uS g 3))), (0, .ref (ad 254))] [] M 0 0 (isI (nI 1) M) := by
  have hI : BI g dn n := hC.2.2.1
  have hdn := hI.dle
  have hn := hI.nle
  have hsn : sn ≤ 6 := hC.2.1.s6
  have hpp : pPend g n ≤ n := pPend_le
  refine r_iload dL_holds_352 rfl ?_
  refine r_if_eqN (tgt := 419) dL_holds_354 (by decide) (by omega) (fun c1 => absurd c1 (by omega)) (fun c1 => ?_)
  refine r_iload_n dL_holds_357 rfl ?_
  refine r_aload_n dL_holds_358 rfl ?_
  refine r_iconst (v := nI 2) dL_holds_359 (by decide) ?_
  refine r_callV (As := [.int (nI (2))]) dL_holds_360 (fM_isI (v' := (g 2)) (tZ_count hA hC (by omega)) rfl) rfl hC.1 rfl rfl oX8_countZ rfl kL_13M nX8_countZ eX8_countZ (by unfold fRoom; decide) (Nat.le_of_ble_eq_true rfl) rfl (bc' := 0) (bs' := 0) rfl rfl ?_
  show fR _ _ _ 363 _ (.int (g 2) :: _) _ _ _ _
  refine r_icmp_ne (tgt := 419) dL_holds_363 (by decide) (fun c2 => by exact absurd hus c2) (fun c2 => ?_)
  refine r_iload_n dL_holds_366 rfl ?_
  refine r_aload_n dL_holds_367 rfl ?_
  refine r_iconst (v := nI 3) dL_holds_368 (by decide) ?_
  refine r_callV (As := [.int (nI (3))]) dL_holds_369 (fM_isI (v' := (g 32 + g 35 + g 38)) (tZ_count hA hC (by omega)) rfl) rfl hC.1 rfl rfl oX8_countZ rfl kL_13M nX8_countZ eX8_countZ (by unfold fRoom; decide) (Nat.le_of_ble_eq_true rfl) rfl (bc' := 0) (bs' := 0) rfl rfl ?_
  show fR _ _ _ 372 _ (.int (g 32 + g 35 + g 38) :: _) _ _ _ _
  refine r_icmp_ne (tgt := 419) dL_holds_372 (by decide) (fun c3 => by exact absurd hbs c3) (fun c3 => ?_)
  refine r_iload_n dL_holds_375 rfl ?_
  refine r_aload_n dL_holds_376 rfl ?_
  refine r_iconst (v := nI 1) dL_holds_377 (by decide) ?_
  refine r_callV (As := [.int (nI (1))]) dL_holds_378 (fM_isI (v' := (nI (n))) (tZ_count hA hC (by omega)) hC.2.2.1.n0) rfl hC.1 rfl rfl oX8_countZ rfl kL_13M nX8_countZ eX8_countZ (by unfold fRoom; decide) (Nat.le_of_ble_eq_true rfl) rfl (bc' := 0) (bs' := 0) rfl rfl ?_
  show fR _ _ _ 381 _ (.int (nI (n)) :: _) _ _ _ _
  refine r_icmp_gtN (tgt := 419) dL_holds_381 (by decide) (by omega) (by omega) (fun c4 => by omega) (fun c4 => ?_)
  refine r_iload dL_holds_384 rfl ?_
  refine r_aload_n dL_holds_386 rfl ?_
  refine r_iconst (v := nI 1) dL_holds_387 (by decide) ?_
  refine r_callV (As := [.int (nI (1))]) dL_holds_388 (fM_isI (v' := (nI (n))) (tZ_count hA hC (by omega)) hC.2.2.1.n0) rfl hC.1 rfl rfl oX8_countZ rfl kL_13M nX8_countZ eX8_countZ (by unfold fRoom; decide) (Nat.le_of_ble_eq_true rfl) rfl (bc' := 0) (bs' := 0) rfl rfl ?_
  show fR _ _ _ 391 _ (.int (nI (n)) :: _) _ _ _ _
  refine r_icmp_neN (tgt := 419) dL_holds_391 (by decide) (by omega) (by omega) (fun c5 => by exact absurd hsm c5) (fun c5 => ?_)
  refine r_iload dL_holds_394 rfl ?_
  refine r_aload_n dL_holds_396 rfl ?_
  refine r_bipush (v := nI 6) dL_holds_397 (by decide) ?_
  refine r_callV (As := [.int (nI (6))]) dL_holds_399 (fM_isI (v' := (nI (pPend g n))) (tZ_count hA hC (by omega)) rfl) rfl hC.1 rfl rfl oX8_countZ rfl kL_13M nX8_countZ eX8_countZ (by unfold fRoom; decide) (Nat.le_of_ble_eq_true rfl) rfl (bc' := 0) (bs' := 0) rfl rfl ?_
  show fR _ _ _ 402 _ (.int (nI (pPend g n)) :: _) _ _ _ _
  refine r_icmp_neN (tgt := 419) dL_holds_402 (by decide) (by omega) (by omega) (fun c6 => by exact absurd rfl c6) (fun c6 => ?_)
  refine r_aload_n dL_holds_405 rfl ?_
  refine r_callV (As := []) dL_holds_406 (tX8_readShare hA hC) rfl hC.1 rfl rfl oX8_readShare rfl kL_107M nX8_readShare eX8_readShare (by unfold fRoom; decide) (Nat.le_of_ble_eq_true rfl) rfl (bc' := 0) (bs' := 0) rfl rfl ?_
  show fR _ _ _ 409 _ (.double ((shD (pPend g n) n)) :: _) _ _ _ _
  refine r_dload dL_holds_409 rfl ?_
  refine r_dcmp dL_holds_411 ?_
  refine r_if_ne (tgt := 419) dL_holds_412 (by decide) (fun c7 => by exact absurd (shOk_at pPend_le hI.nle).2.2.1 c7) (fun c7 => ?_)
  refine r_iconst (v := nI 1) dL_holds_415 (by decide) ?_
  refine r_goto (tgt := 420) dL_holds_416 (by decide) ?_
  exact fR_zret dL_holds_420 rfl rfl (isI_of (by rfl))
theorem lL_holds_E {l : Launch} {κ : KP} {M : Mem} {ad : Nat → Nat} {g tx : Nat → Int32} {dn n sn ln : Nat} {kp : Bool} (hA : aInj ad) (hC : ClsAt κ ad M ⟨g, sn, kp, tx, ln⟩ dn n) (hus : uS g 3 = g 2) (hbs : bS g 3 = g 32 + g 35 + g 38) (hin : sumN (fun b => pInBath g n (nI b)) 3 ≤ n) (hsm : sumN (fun d => pSamplesOf g d n) dn = n) : fR l κ mL_holds 328 [(7, .int (nI (n))), (6, .int (nI (1))), (5, .int (nI ((pPend g n)))), (4, .int (nI ((sumN (fun d => pSamplesOf g d n) dn)))), (3, .int (nI ((sumN (fun b => pInBath g n (nI b)) 3)))), (2, .int ((bS g 3))), (1, .int ((uS g 3))), (0, .ref (ad 254))] [] M 0 0 (isI (nI 1) M) := by
  have hI : BI g dn n := hC.2.2.1
  have hdn := hI.dle
  have hn := hI.nle
  have hsn : sn ≤ 6 := hC.2.1.s6
  have hpp : pPend g n ≤ n := pPend_le
  refine r_aload_n dL_holds_328 rfl ?_
  refine r_iconst (v := nI 1) dL_holds_329 (by decide) ?_
  refine r_callV (As := [.int (nI (1))]) dL_holds_330 (fM_isI (v' := (nI (n))) (tZ_count hA hC (by omega)) hC.2.2.1.n0) rfl hC.1 rfl rfl oX8_countZ rfl kL_13M nX8_countZ eX8_countZ (by unfold fRoom; decide) (Nat.le_of_ble_eq_true rfl) rfl (bc' := 0) (bs' := 0) rfl rfl ?_
  show fR _ _ _ 333 _ (.int (nI (n)) :: _) _ _ _ _
  refine r_if_neN (tgt := 340) dL_holds_333 (by decide) (by omega) (fun c1 => ?_) (fun c1 => ?_)
  · skip
    refine r_iload dL_holds_340 rfl ?_
    refine r_i2d dL_holds_342 ?_
    refine r_aload_n dL_holds_343 rfl ?_
    refine r_iconst (v := nI 1) dL_holds_344 (by decide) ?_
    refine r_callV (As := [.int (nI (1))]) dL_holds_345 (fM_isI (v' := (nI (n))) (tZ_count hA hC (by omega)) hC.2.2.1.n0) rfl hC.1 rfl rfl oX8_countZ rfl kL_13M nX8_countZ eX8_countZ (by unfold fRoom; decide) (Nat.le_of_ble_eq_true rfl) rfl (bc' := 0) (bs' := 0) rfl rfl ?_
    show fR _ _ _ 348 _ (.int (nI (n)) :: _) _ _ _ _
    refine r_i2d dL_holds_348 ?_
    refine r_ddiv dL_holds_349 (by rw [show FP.ddiv (FP.i2d (nI (pPend g n))) (FP.i2d (nI n)) = shD (pPend g n) n from by unfold shD; rw [if_neg (by omega)]]; exact n64_of (shOk_at pPend_le (by omega)).1) ?_
    refine r_topD (show FP.ddiv (FP.i2d (nI (pPend g n))) (FP.i2d (nI n)) = shD (pPend g n) n from by unfold shD; rw [if_neg (by omega)]) ?_
    refine r_dstore (lv' := (7, .double (shD (pPend g n) n)) :: [(6, .int (nI (1))), (5, .int (nI ((pPend g n)))), (4, .int (nI ((sumN (fun d => pSamplesOf g d n) dn)))), (3, .int (nI ((sumN (fun b => pInBath g n (nI b)) 3)))), (2, .int ((bS g 3))), (1, .int ((uS g 3))), (0, .ref (ad 254))]) dL_holds_350 (by decide) rfl ?_
    exact lL_holds_E2 hA hC hus hbs hin hsm
  · skip
    refine r_dconst1 dL_holds_336 ?_
    refine r_goto (tgt := 350) dL_holds_337 (by decide) ?_
    refine r_topD (show FP.dconst1 = shD (pPend g n) n from by unfold shD; rw [if_pos (by omega)]) ?_
    refine r_dstore (lv' := (7, .double (shD (pPend g n) n)) :: [(6, .int (nI (1))), (5, .int (nI ((pPend g n)))), (4, .int (nI ((sumN (fun d => pSamplesOf g d n) dn)))), (3, .int (nI ((sumN (fun b => pInBath g n (nI b)) 3)))), (2, .int ((bS g 3))), (1, .int ((uS g 3))), (0, .ref (ad 254))]) dL_holds_350 (by decide) rfl ?_
    exact lL_holds_E2 hA hC hus hbs hin hsm
theorem tL_holds {l : Launch} {κ : KP} {M : Mem} {ad : Nat → Nat} {g tx : Nat → Int32} {dn n sn ln : Nat} {kp : Bool} (hA : aInj ad) (hC : ClsAt κ ad M ⟨g, sn, kp, tx, ln⟩ dn n) (hX : XI g n) : fM l κ mL_holds [.ref (ad 254)] M (isI (nI 1) M) := by
  refine fM_of rfl (by decide +kernel) (Nat.le_of_ble_eq_true rfl) ?_
  have hI : BI g dn n := hC.2.2.1
  have hdn := hI.dle
  have hn := hI.nle
  have hsn : sn ≤ 6 := hC.2.1.s6
  obtain ⟨hX8, hX9, hX3⟩ := hX
  show fR l κ mL_holds 0 [(0, .ref (ad 254))] [] M 0 0 _
  refine r_iconst (v := nI 0) dL_holds_0 (by decide) ?_
  refine r_istore_n (lv' := [(1, .int (nI (0))), (0, .ref (ad 254))]) dL_holds_1 (by decide) rfl ?_
  refine r_iconst (v := nI 0) dL_holds_2 (by decide) ?_
  refine r_istore_n (lv' := [(2, .int (nI (0))), (1, .int (nI (0))), (0, .ref (ad 254))]) dL_holds_3 (by decide) rfl ?_
  refine r_iconst (v := nI 0) dL_holds_4 (by decide) ?_
  refine r_istore_n (lv' := [(3, .int (nI (0))), (2, .int (nI (0))), (1, .int (nI (0))), (0, .ref (ad 254))]) dL_holds_5 (by decide) rfl ?_
  refine r_iconst (v := nI 0) dL_holds_6 (by decide) ?_
  refine r_istore (lv' := [(4, .int (nI (0))), (3, .int (nI (0))), (2, .int (nI (0))), (1, .int (nI (0))), (0, .ref (ad 254))]) dL_holds_7 (by decide) rfl ?_
  refine r_iconst (v := nI 0) dL_holds_9 (by decide) ?_
  refine r_istore (lv' := [(5, .int (nI (0))), (4, .int (nI (0))), (3, .int (nI (0))), (2, .int (nI (0))), (1, .int (nI (0))), (0, .ref (ad 254))]) dL_holds_10 (by decide) rfl ?_
  refine r_aload_n dL_holds_12 rfl ?_
  refine r_iconst (v := nI 0) dL_holds_13 (by decide) ?_
  refine r_callV (As := [.int (nI (0))]) dL_holds_14 (fM_isI (v' := (g (8 + 0))) (tZ_stopped hA hC (by omega)) rfl) rfl hC.1 rfl rfl oX8_stoppedZ rfl kL_36M nX8_stoppedZ eX8_stoppedZ (by unfold fRoom; decide) (Nat.le_of_ble_eq_true rfl) rfl (bc' := 0) (bs' := 0) rfl rfl ?_
  show fR _ _ _ 17 _ (.int (g (8 + 0)) :: _) _ _ _ _
  refine r_iconst (v := (-1)) dL_holds_17 (by decide) ?_
  refine r_icmp_ne (tgt := 25) dL_holds_18 (by decide) (fun c1 => by exact absurd hX8 c1) (fun c1 => ?_)
  refine r_iconst (v := nI 1) dL_holds_21 (by decide) ?_
  refine r_goto (tgt := 26) dL_holds_22 (by decide) ?_
  refine r_aload_n dL_holds_26 rfl ?_
  refine r_iconst (v := nI 1) dL_holds_27 (by decide) ?_
  refine r_callV (As := [.int (nI (1))]) dL_holds_28 (fM_isI (v' := (g (8 + 1))) (tZ_stopped hA hC (by omega)) rfl) rfl hC.1 rfl rfl oX8_stoppedZ rfl kL_36M nX8_stoppedZ eX8_stoppedZ (by unfold fRoom; decide) (Nat.le_of_ble_eq_true rfl) rfl (bc' := 0) (bs' := 0) rfl rfl ?_
  show fR _ _ _ 31 _ (.int (g (8 + 1)) :: _) _ _ _ _
  refine r_iconst (v := (-1)) dL_holds_31 (by decide) ?_
  refine r_icmp_ne (tgt := 39) dL_holds_32 (by decide) (fun c2 => by exact absurd hX9 c2) (fun c2 => ?_)
  refine r_iconst (v := nI 1) dL_holds_35 (by decide) ?_
  refine r_goto (tgt := 40) dL_holds_36 (by decide) ?_
  refine r_icmp_neN (tgt := 47) dL_holds_40 (by decide) (by omega) (by omega) (fun c3 => absurd c3 (by omega)) (fun c3 => ?_)
  refine r_iconst (v := nI 1) dL_holds_43 (by decide) ?_
  refine r_goto (tgt := 48) dL_holds_44 (by decide) ?_
  refine r_istore (lv' := [(6, .int (nI (1))), (5, .int (nI (0))), (4, .int (nI (0))), (3, .int (nI (0))), (2, .int (nI (0))), (1, .int (nI (0))), (0, .ref (ad 254))]) dL_holds_48 (by decide) rfl ?_
  refine r_iconst (v := nI 0) dL_holds_50 (by decide) ?_
  refine r_istore (lv' := [(7, .int (nI (0))), (6, .int (nI (1))), (5, .int (nI (0))), (4, .int (nI (0))), (3, .int (nI (0))), (2, .int (nI (0))), (1, .int (nI (0))), (0, .ref (ad 254))]) dL_holds_51 (by decide) rfl ?_
  refine r_lv (lv' := [(7, .int (nI (0))), (6, .int (nI (1))), (5, .int (nI (0))), (4, .int (nI (0))), (3, .int (nI (0))), (2, .int (nI (0))), (1, .int (nI (0))), (0, .ref (ad 254))]) (by simp) ?_
  refine lL_holds1 hA hC hX3 ?_ 3 0 rfl
  refine r_iconst (v := nI 0) dL_holds_215 (by decide) ?_
  refine r_istore (lv' := [(7, .int (nI (0))), (6, .int (nI (1))), (5, .int (nI (0))), (4, .int (nI (0))), (3, .int (nI ((sumN (fun b => pInBath g n (nI b)) 3)))), (2, .int ((bS g 3))), (1, .int ((uS g 3))), (0, .ref (ad 254))]) dL_holds_216 (by decide) rfl ?_
  refine lL_holds2 hA hC ?_ dn 0 (by omega)
  refine r_iconst (v := nI 0) dL_holds_267 (by decide) ?_
  refine r_istore (lv' := [(7, .int (nI (0))), (6, .int (nI (1))), (5, .int (nI (0))), (4, .int (nI ((sumN (fun d => pSamplesOf g d n) dn)))), (3, .int (nI ((sumN (fun b => pInBath g n (nI b)) 3)))), (2, .int ((bS g 3))), (1, .int ((uS g 3))), (0, .ref (ad 254))]) dL_holds_268 (by decide) rfl ?_
  refine lL_holds3 hA hC hX3 ?_ n 0 (by omega)
  refine lL_holds_E hA hC ?_ ?_ ?_ (sum_samples hI)
  · rw [hI.us]; show nI 0 + g 33 + g 36 + g 39 = _; rw [nI_0, Int32.zero_add]
  · show nI 0 + g 32 + g 35 + g 38 = _; rw [nI_0, Int32.zero_add]
  · have := pCnt3 (f := g) n; show 0 + pInBath g n (nI 0) + pInBath g n (nI 1) + pInBath g n (nI 2) ≤ n; omega
