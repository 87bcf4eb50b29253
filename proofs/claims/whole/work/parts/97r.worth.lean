/-! WORTH: the class. -/
def zl_val (f : Nat → Int32) (C : List Nat) : Int32 := (zr_run f C []).headD (nI 0)
def zl_V : zl_K → (Nat → Int32) → Int32
  | [], _ => nI 0
  | (T, U) :: K, f => if T = [] then zl_val f U else if zl_val f T = nI 0 then zl_V K f else zl_val f U
theorem zh_val {b : Bool} {f : Nat → Int32} {C : List Nat} (h : zh b 30 C) (hf : zf_ok f) : zv b (zl_val f C) ∧ ∀ S : List Int32, S.length + 30 ≤ 60 → zr_oks f C S ∧ zr_run f C S = zl_val f C :: S := by
  obtain ⟨y, h1, h2⟩ := h f hf
  have e : zl_val f C = y := by rw [zl_val, (h2 [] (by decide)).2]; rfl
  rw [e]
  exact ⟨h1, h2⟩
theorem neg_ne {t c : Nat} (ht : t < 2 ^ 30) (h0 : 0 < c) (hc : c < 2 ^ 30) : ¬ -nI t = nI c := fun w => by
  have h : nI t + -nI t = nI (t + c) := by rw [w, nI_add]
  rw [← Int32.sub_eq_add_neg, Int32.sub_self, eq_comm, nI_eq0 (by omega)] at h
  omega
theorem neg_ngt {t : Nat} (ht : t < 2 ^ 30) : ¬ 0 < -nI t := by
  rw [Int32.lt_iff_toInt_lt, Int32.toInt_neg, nI_toInt (by omega), bm_32b (by omega) (by omega)]
  have : (0 : Int32).toInt = 0 := by decide
  omega
theorem neg_neg' (x : Int32) : - -x = x := Int32.neg_neg
theorem zl_cn {t : Nat} (ht : t < 10000) : zl_c t = nI t := by rw [zl_c, if_pos ht]
theorem zl_co (x : Nat) : zl_c (10000 + x) = -nI x := by rw [zl_c, if_neg (by omega), Nat.add_sub_cancel_left]
/-- what stands in a sum or a condition -/
theorem zr_kind {S : List Int32} {t : Nat} (h : zr_ok S t) : t < 10000 ∨ ∃ x, t = 10000 + x ∧ 0 < x ∧ x < 256 ∧ ¬ x = 59 ∧ ¬ x = 63 := by
  rcases h.2 with h | ⟨x, h1, h2, h3, h4⟩ | ⟨h, -⟩ | ⟨o, r, l, S', h1, h2, -⟩
  · exact Or.inl h
  · refine Or.inr ⟨x, h1, h2, h3, fun e => ?_, fun e => ?_⟩
    · rw [e] at h4; exact absurd h4 (by decide)
    · rw [e] at h4; exact absurd h4 (by decide)
  · exact Or.inr ⟨33, h, by decide⟩
  · exact Or.inr ⟨o, h1, by unfold zo_in at h2; omega⟩
theorem zr_kinds {f : Nat → Int32} : ∀ (C : List Nat) (S : List Int32), zr_oks f C S → ∀ t ∈ C, t < 10000 ∨ ∃ x, t = 10000 + x ∧ 0 < x ∧ x < 256 ∧ ¬ x = 59 ∧ ¬ x = 63 := by
  intro C
  induction C with
  | nil => intro S _ t ht; cases ht
  | cons s C ih =>
    intro S h t ht
    rcases List.mem_cons.mp ht with rfl | ht
    · exact zr_kind h.1
    · exact ih _ h.2 t ht
theorem find_0 {I : am_I} (hs : st_at I) {x : Nat} (hx : x < 256) : am_find (I 101 0) (nI x) 6 0 = if zl_t x < 6 then nI (zl_t x) else -nI 1 := by
  have s0 : I 101 0 0 = nI 112 := hs 0 0 (by decide) (by decide)
  have s1 : I 101 0 1 = nI 109 := hs 0 1 (by decide) (by decide)
  have s2 : I 101 0 2 = nI 116 := hs 0 2 (by decide) (by decide)
  have s3 : I 101 0 3 = nI 105 := hs 0 3 (by decide) (by decide)
  have s4 : I 101 0 4 = nI 100 := hs 0 4 (by decide) (by decide)
  have s5 : I 101 0 5 = nI 101 := hs 0 5 (by decide) (by decide)
  unfold am_find am_find am_find am_find am_find am_find am_find
  simp only [Nat.zero_add, Nat.reduceAdd, s0, s1, s2, s3, s4, s5]
  have nx : ∀ c, c < 2 ^ 31 → ¬ x = c → ¬ nI c = nI x := fun c hc h w => h (by rw [nI_eq2 hc (by omega)] at w; omega)
  unfold zl_t
  by_cases q1 : x = 112
  · subst q1; rfl
  · rw [if_neg (nx 112 (by decide) q1), if_neg q1]
    by_cases q2 : x = 109
    · subst q2; rfl
    · rw [if_neg (nx 109 (by decide) q2), if_neg q2]
      by_cases q3 : x = 116
      · subst q3; rfl
      · rw [if_neg (nx 116 (by decide) q3), if_neg q3]
        by_cases q4 : x = 105
        · subst q4; rfl
        · rw [if_neg (nx 105 (by decide) q4), if_neg q4]
          by_cases q5 : x = 100
          · subst q5; rfl
          · rw [if_neg (nx 100 (by decide) q5), if_neg q5]
            by_cases q6 : x = 101
            · subst q6; rfl
            · rw [if_neg (nx 101 (by decide) q6), if_neg q6]
              rfl
theorem w32_150 {d : Nat} {l0 l1 l2 l3 l4 l5 : Value} {st : List Value} {I : am_I} {R : am_R} {Q : am_Q} : am_ev d 32 150 [l0, l1, l2, l3, l4, l5] (.ref (am_mk 31 0) :: st) I R Q = am_ev d 32 151 [l0, l1, l2, l3, l4, l5] (.int (nI 6) :: st) I R Q := s32_150 (a := 31) ⟨by decide, by decide⟩
theorem w32_157 {d x : Nat} (hx : x < 6) {l0 l1 l2 l3 l4 l5 : Value} {st : List Value} {I : am_I} {R : am_R} {Q : am_Q} : am_ev d 32 157 [l0, l1, l2, l3, l4, l5] (.int (nI x) :: .ref (am_mk 31 0) :: st) I R Q = am_ev d 32 158 [l0, l1, l2, l3, l4, l5] (.int (I 31 0 x) :: st) I R Q := by
  have := s32_157 (d := d) (l0 := l0) (l1 := l1) (l2 := l2) (l3 := l3) (l4 := l4) (l5 := l5) (st := st) (a := 31) (k := 0) (i := nI x) (I := I) (R := R) (Q := Q) ⟨by decide, by decide⟩ ⟨nI_pos' (by omega), by rw [nI_clamp (by omega)]; exact hx⟩
  rw [nI_clamp (by omega)] at this
  exact this
section
variable {d v i : Nat} {I : am_I} {R : am_R} {Q : am_Q} {A : List Nat} {S : List Int32} {t : Nat}
/-- one token -/
theorem w_tok (hr : lw_R R v) (hw : lw_at I v (A.map zl_c)) (hA : A.length ≤ 240) (hs : st_at I) (hk : lk_at I v S.reverse) (hi : i < A.length) (ht : A[i] = t) (ho : zr_ok S t) (l4 l5 : Value) : ∃ (J : am_I) (l4' l5' : Value), am_ev (d + 1) 32 9 [.ref (am_mk 3 v), .ref (am_mk 31 0), .int (nI 0), .int (nI i), l4, l5] [] I R Q = am_ev (d + 1) 32 9 [.ref (am_mk 3 v), .ref (am_mk 31 0), .int (nI 0), .int (nI (i + 1)), l4', l5'] [] J R Q ∧ am_fr (lk_S v) I J ∧ lk_at J v (zr_f (I 31 0) S t).reverse := by
  have r0 := hr.1
  have hlen := hw.1
  rw [List.length_map] at hlen
  have hsg := hw.2 i (by rw [List.length_map]; exact hi)
  rw [List.getElem_map, ht] at hsg
  have e1 : ¬ A.length ≤ i := by omega
  have e2 : ¬ 240 ≤ i := by omega
  obtain ⟨hSl, ho⟩ := ho
  rcases ho with h1 | ⟨x, rfl, h1, h2, h3⟩ | ⟨rfl, x, S', rfl, hx⟩ | ⟨o, r, l, S', rfl, h1, rfl, h2, h3⟩
  · rw [zl_cn h1] at hsg
    obtain ⟨J, g, f, k⟩ := c_push (d := d) (R := R) (Q := Q) (x := nI t) hr hk (by rw [List.length_reverse]; omega)
    have n1 := neg_ne (t := t) (c := 59) (by omega) (by decide) (by decide)
    have n2 := neg_ne (t := t) (c := 63) (by omega) (by decide) (by decide)
    have n3 := neg_ne (t := t) (c := 33) (by omega) (by decide) (by decide)
    have n4 := neg_ngt (t := t) (by omega)
    refine ⟨J, .int (-nI t), l5, ?_, f, ?_⟩
    · rw [s32_9]
      simp (disch := first | omega | assumption) only [s32_0, s32_1, s32_2, s32_5, s32_6, s32_7, s32_8, s32_10, s32_11, s32_14, s32_17, s32_18, s32_19, s32_22, s32_23, s32_26, s32_27, s32_30, s32_31, s32_32, s32_33, s32_35, s32_36, s32_39, s32_41, s32_43, s32_46, s32_47, s32_50, s32_51, s32_52, s32_55, s32_57, s32_59, s32_62, s32_63, s32_66, s32_67, s32_69, s32_71, s32_74, s32_75, s32_78, s32_81, s32_82, s32_85, s32_86, s32_87, s32_90, s32_92, s32_94, s32_97, s32_98, s32_99, s32_102, s32_105, s32_106, s32_109, s32_110, s32_113, s32_116, s32_118, s32_121, s32_122, s32_124, s32_125, s32_128, s32_131, s32_133, s32_135, s32_136, s32_139, s32_141, s32_142, s32_144, s32_147, s32_149, s32_150, s32_151, s32_154, s32_155, s32_157, s32_158, s32_161, s32_163, s32_164, s32_167, s32_168, s32_171, s32_174, s32_177, s32_180, s32_183, s32_184, nI_le2, nI_lt2, nI_eq2, nI_lt0, nI_0le, nI_0lt, nI_le0, nI_eq0, nI_clamp, nI_add, bu_nI, bb_0, bb_1, rf_s, rf_n, tl_s, tl_n, am_th_some, if_true, if_false, sI_eq, uI_eq, and_self, true_and, and_true, not_false_eq_true, not_true_eq_false, Nat.reduceEqDiff, Nat.reduceLeDiff, Nat.reduceLT, Nat.reduceAdd, Nat.reduceMul, Nat.reduceSub, Nat.zero_add, r0, hlen, hsg, e1, e2, n1, n2, n3, n4, neg_neg', g]
    · rw [zr_f, if_pos h1, List.reverse_cons]; exact k
  · rw [zl_co] at hsg
    have hc := i2c_nI x h2
    have hf := find_0 hs h2
    rw [if_pos h3] at hf
    have hx := c_indexOf (d := d) (I := I) (R := R) (Q := Q) (j := 0) (by decide) (x := nI x)
    rw [show (am_strs.getD 0 []).length = 6 from rfl, hf] at hx
    obtain ⟨J, g, f, k⟩ := c_push (d := d) (R := R) (Q := Q) (x := I 31 0 (zl_t x)) hr hk (by rw [List.length_reverse]; omega)
    have n1 : ¬ x = 59 := fun w => by rw [w] at h3; exact absurd h3 (by decide)
    have n2 : ¬ x = 63 := fun w => by rw [w] at h3; exact absurd h3 (by decide)
    have n3 : ¬ x = 33 := fun w => by rw [w] at h3; exact absurd h3 (by decide)
    have n4 : ¬ 6 ≤ zl_t x := by omega
    refine ⟨J, .int (nI x), .int (nI (zl_t x)), ?_, f, ?_⟩
    · rw [s32_9]
      simp (disch := first | omega | assumption) only [s32_0, s32_1, s32_2, s32_5, s32_6, s32_7, s32_8, s32_10, s32_11, s32_14, s32_17, s32_18, s32_19, s32_22, s32_23, s32_26, s32_27, s32_30, s32_31, s32_32, s32_33, s32_35, s32_36, s32_39, s32_41, s32_43, s32_46, s32_47, s32_50, s32_51, s32_52, s32_55, s32_57, s32_59, s32_62, s32_63, s32_66, s32_67, s32_69, s32_71, s32_74, s32_75, s32_78, s32_81, s32_82, s32_85, s32_86, s32_87, s32_90, s32_92, s32_94, s32_97, s32_98, s32_99, s32_102, s32_105, s32_106, s32_109, s32_110, s32_113, s32_116, s32_118, s32_121, s32_122, s32_124, s32_125, s32_128, s32_131, s32_133, s32_135, s32_136, s32_139, s32_141, s32_142, s32_144, s32_147, s32_149, s32_150, s32_151, s32_154, s32_155, s32_157, s32_158, s32_161, s32_163, s32_164, s32_167, s32_168, s32_171, s32_174, s32_177, s32_180, s32_183, s32_184, nI_le2, nI_lt2, nI_eq2, nI_lt0, nI_0le, nI_0lt, nI_le0, nI_eq0, nI_clamp, nI_add, bu_nI, bb_0, bb_1, rf_s, rf_n, tl_s, tl_n, am_th_some, if_true, if_false, sI_eq, uI_eq, and_self, true_and, and_true, not_false_eq_true, not_true_eq_false, Nat.reduceEqDiff, Nat.reduceLeDiff, Nat.reduceLT, Nat.reduceAdd, Nat.reduceMul, Nat.reduceSub, Nat.zero_add, r0, hlen, hsg, e1, e2, n1, n2, n3, h1, neg_neg', hc, hx, h3, n4, w32_150, w32_157, g]
    · rw [zr_f, if_neg (by omega), Nat.add_sub_cancel_left, if_pos h3, List.reverse_cons]; exact k
  · rw [zl_33] at hsg
    rw [List.reverse_cons] at hk
    rw [List.length_cons] at hSl
    obtain ⟨J, g, f, k⟩ := c_pop (d := d) (R := R) (Q := Q) hr hk (by rw [List.length_reverse]; omega)
    obtain ⟨J2, g2, f2, k2⟩ := c_push (d := d) (R := R) (Q := Q) (x := if x = nI 0 then nI 1 else nI 0) hr k (by rw [List.length_reverse]; omega)
    refine ⟨J2, .int (nI 33), l5, ?_, fr_tr f f2, ?_⟩
    · have hne : ((nI 1 : Int32) = 0) = False := by decide
      rcases hx with rfl | rfl
      · rw [if_pos rfl] at g2
        rw [s32_9]
        simp (disch := first | omega | assumption) only [s32_0, s32_1, s32_2, s32_5, s32_6, s32_7, s32_8, s32_10, s32_11, s32_14, s32_17, s32_18, s32_19, s32_22, s32_23, s32_26, s32_27, s32_30, s32_31, s32_32, s32_33, s32_35, s32_36, s32_39, s32_41, s32_43, s32_46, s32_47, s32_50, s32_51, s32_52, s32_55, s32_57, s32_59, s32_62, s32_63, s32_66, s32_67, s32_69, s32_71, s32_74, s32_75, s32_78, s32_81, s32_82, s32_85, s32_86, s32_87, s32_90, s32_92, s32_94, s32_97, s32_98, s32_99, s32_102, s32_105, s32_106, s32_109, s32_110, s32_113, s32_116, s32_118, s32_121, s32_122, s32_124, s32_125, s32_128, s32_131, s32_133, s32_135, s32_136, s32_139, s32_141, s32_142, s32_144, s32_147, s32_149, s32_150, s32_151, s32_154, s32_155, s32_157, s32_158, s32_161, s32_163, s32_164, s32_167, s32_168, s32_171, s32_174, s32_177, s32_180, s32_183, s32_184, nI_le2, nI_lt2, nI_eq2, nI_lt0, nI_0le, nI_0lt, nI_le0, nI_eq0, nI_clamp, nI_add, bu_nI, bb_0, bb_1, rf_s, rf_n, tl_s, tl_n, am_th_some, if_true, if_false, sI_eq, uI_eq, and_self, true_and, and_true, not_false_eq_true, not_true_eq_false, Nat.reduceEqDiff, Nat.reduceLeDiff, Nat.reduceLT, Nat.reduceAdd, Nat.reduceMul, Nat.reduceSub, Nat.zero_add, r0, hlen, hsg, e1, e2, neg_neg', g, g2]
      · rw [if_neg (by decide)] at g2
        rw [s32_9]
        simp (disch := first | omega | assumption) only [s32_0, s32_1, s32_2, s32_5, s32_6, s32_7, s32_8, s32_10, s32_11, s32_14, s32_17, s32_18, s32_19, s32_22, s32_23, s32_26, s32_27, s32_30, s32_31, s32_32, s32_33, s32_35, s32_36, s32_39, s32_41, s32_43, s32_46, s32_47, s32_50, s32_51, s32_52, s32_55, s32_57, s32_59, s32_62, s32_63, s32_66, s32_67, s32_69, s32_71, s32_74, s32_75, s32_78, s32_81, s32_82, s32_85, s32_86, s32_87, s32_90, s32_92, s32_94, s32_97, s32_98, s32_99, s32_102, s32_105, s32_106, s32_109, s32_110, s32_113, s32_116, s32_118, s32_121, s32_122, s32_124, s32_125, s32_128, s32_131, s32_133, s32_135, s32_136, s32_139, s32_141, s32_142, s32_144, s32_147, s32_149, s32_150, s32_151, s32_154, s32_155, s32_157, s32_158, s32_161, s32_163, s32_164, s32_167, s32_168, s32_171, s32_174, s32_177, s32_180, s32_183, s32_184, nI_le2, nI_lt2, nI_eq2, nI_lt0, nI_0le, nI_0lt, nI_le0, nI_eq0, nI_clamp, nI_add, bu_nI, bb_0, bb_1, rf_s, rf_n, tl_s, tl_n, am_th_some, if_true, if_false, sI_eq, uI_eq, and_self, true_and, and_true, not_false_eq_true, not_true_eq_false, Nat.reduceEqDiff, Nat.reduceLeDiff, Nat.reduceLT, Nat.reduceAdd, Nat.reduceMul, Nat.reduceSub, Nat.zero_add, r0, hlen, hsg, e1, e2, neg_neg', g, hne, g2]
    · rw [zr_f, if_neg (by decide), if_neg (by decide), if_pos rfl, zr_n, List.reverse_cons]; exact k2
  · have ho2 : o < 256 := by unfold zo_in at h1; omega
    obtain ⟨t1, t2⟩ := zo_t o ho2 h1
    rw [zl_co] at hsg
    rw [List.reverse_cons] at hk
    rw [List.length_cons, List.length_cons] at hSl
    obtain ⟨J, g, f, k⟩ := c_pop (d := d) (R := R) (Q := Q) hr hk (by rw [List.length_reverse, List.length_cons]; omega)
    rw [List.reverse_cons] at k
    obtain ⟨J2, g2, f2, k2⟩ := c_pop (d := d) (R := R) (Q := Q) hr k (by rw [List.length_reverse]; omega)
    have g3 := c_reckon (d := d) (I := J2) (R := R) (Q := Q) (l := l) (r := r) h1
    obtain ⟨J4, g4, f4, k4⟩ := c_push (d := d) (R := R) (Q := Q) (x := sp_op o l r) hr k2 (by rw [List.length_reverse]; omega)
    have hc := i2c_nI o ho2
    have hf := find_0 hs ho2
    rw [if_neg t1] at hf
    have hx := c_indexOf (d := d) (I := I) (R := R) (Q := Q) (j := 0) (by decide) (x := nI o)
    rw [show (am_strs.getD 0 []).length = 6 from rfl, hf] at hx
    have n1 : ¬ o = 59 := by unfold zo_in at h1; omega
    have n2 : ¬ o = 63 := by unfold zo_in at h1; omega
    have n4 : 0 < o := by unfold zo_in at h1; omega
    have n5 : (-nI 1 : Int32) < 0 := by decide
    refine ⟨J4, .int (nI o), .int (-nI 1), ?_, fr_tr (fr_tr f f2) f4, ?_⟩
    · rw [s32_9]
      simp (disch := first | omega | assumption) only [s32_0, s32_1, s32_2, s32_5, s32_6, s32_7, s32_8, s32_10, s32_11, s32_14, s32_17, s32_18, s32_19, s32_22, s32_23, s32_26, s32_27, s32_30, s32_31, s32_32, s32_33, s32_35, s32_36, s32_39, s32_41, s32_43, s32_46, s32_47, s32_50, s32_51, s32_52, s32_55, s32_57, s32_59, s32_62, s32_63, s32_66, s32_67, s32_69, s32_71, s32_74, s32_75, s32_78, s32_81, s32_82, s32_85, s32_86, s32_87, s32_90, s32_92, s32_94, s32_97, s32_98, s32_99, s32_102, s32_105, s32_106, s32_109, s32_110, s32_113, s32_116, s32_118, s32_121, s32_122, s32_124, s32_125, s32_128, s32_131, s32_133, s32_135, s32_136, s32_139, s32_141, s32_142, s32_144, s32_147, s32_149, s32_150, s32_151, s32_154, s32_155, s32_157, s32_158, s32_161, s32_163, s32_164, s32_167, s32_168, s32_171, s32_174, s32_177, s32_180, s32_183, s32_184, nI_le2, nI_lt2, nI_eq2, nI_lt0, nI_0le, nI_0lt, nI_le0, nI_eq0, nI_clamp, nI_add, bu_nI, bb_0, bb_1, rf_s, rf_n, tl_s, tl_n, am_th_some, if_true, if_false, sI_eq, uI_eq, and_self, true_and, and_true, not_false_eq_true, not_true_eq_false, Nat.reduceEqDiff, Nat.reduceLeDiff, Nat.reduceLT, Nat.reduceAdd, Nat.reduceMul, Nat.reduceSub, Nat.zero_add, r0, hlen, hsg, e1, e2, n1, n2, t2, n4, neg_neg', hc, hx, n5, g, g2, g3, g4]
    · rw [zr_f, if_neg (by omega), Nat.add_sub_cancel_left, if_neg t1, if_neg (by omega), zr_2, List.reverse_cons]; exact k4
/-- tokens one behind another -/
theorem w_run (hr : lw_R R v) : ∀ (D : List Nat) (A : List Nat) (S : List Int32) (i : Nat) (I : am_I) (l4 l5 : Value), lw_at I v (A.map zl_c) → A.length ≤ 240 → st_at I → lk_at I v S.reverse → (∃ E F, A = E ++ D ++ F ∧ E.length = i) → zr_oks (I 31 0) D S → ∃ (J : am_I) (l4' l5' : Value), am_ev (d + 1) 32 9 [.ref (am_mk 3 v), .ref (am_mk 31 0), .int (nI 0), .int (nI i), l4, l5] [] I R Q = am_ev (d + 1) 32 9 [.ref (am_mk 3 v), .ref (am_mk 31 0), .int (nI 0), .int (nI (i + D.length)), l4', l5'] [] J R Q ∧ am_fr (lk_S v) I J ∧ lk_at J v (zr_run (I 31 0) D S).reverse := by
  intro D
  induction D with
  | nil => intro A S i I l4 l5 _ _ _ hk _ _; exact ⟨I, l4, l5, rfl, fr_rf, hk⟩
  | cons t D ih =>
    intro A S i I l4 l5 hw hA hs hk hE ho
    obtain ⟨E, F, e1, e2⟩ := hE
    have hi : i < A.length := by rw [e1, List.length_append, List.length_append, List.length_cons]; omega
    have ht : A[i] = t := by
      simp only [e1, List.append_assoc]
      rw [List.getElem_append_right (by omega)]
      simp [e2]
    obtain ⟨J, a4, a5, g, f, k⟩ := w_tok (d := d) (Q := Q) hr hw hA hs hk hi ht ho.1 l4 l5
    have hz : ∀ (a b j : Nat), lk_S v a b j → (a = 28 ∧ b = v) ∨ (a = 3 ∧ b = v ∧ j = 3) := fun a b j w => w
    have e31 : J 31 0 = I 31 0 := funext fun j => f _ _ _ (fun w => by have := hz _ _ _ w; omega)
    obtain ⟨J2, b4, b5, g2, f2, k2⟩ := ih A _ (i + 1) J a4 a5 (lw_fr hw f (fun w => by have := hz _ _ _ w; omega) (fun j w => by have := hz _ _ _ w; omega)) hA (st_fr hs f (fun a b w => by have := hz _ _ _ w; omega)) k ⟨E ++ [t], F, by rw [e1]; simp, by rw [List.length_append, List.length_singleton, e2]⟩ (by rw [e31]; exact ho.2)
    refine ⟨J2, b4, b5, ?_, fr_tr f f2, ?_⟩
    · rw [g, g2, List.length_cons, show i + 1 + D.length = i + (D.length + 1) by omega]
    · rw [e31] at k2
      exact k2
/-- tokens passed over, up to the end of the CLAUSE -/
theorem w_skip (hr : lw_R R v) : ∀ (D : List Nat) (A : List Nat) (i : Nat) (l4 l5 : Value), lw_at I v (A.map zl_c) → A.length ≤ 240 → (∃ E F, A = E ++ (D ++ [10059]) ++ F ∧ E.length = i) → (∀ t ∈ D, t < 10000 ∨ ∃ x, t = 10000 + x ∧ 0 < x ∧ x < 256 ∧ ¬ x = 59 ∧ ¬ x = 63) → ∃ (l4' l5' : Value), am_ev (d + 1) 32 9 [.ref (am_mk 3 v), .ref (am_mk 31 0), .int (nI 1), .int (nI i), l4, l5] [] I R Q = am_ev (d + 1) 32 9 [.ref (am_mk 3 v), .ref (am_mk 31 0), .int (nI 0), .int (nI (i + D.length + 1)), l4', l5'] [] I R Q := by
  intro D
  have r0 := hr.1
  have hne : ((nI 1 : Int32) = 0) = False := by decide
  induction D with
  | nil =>
    intro A i l4 l5 hw hA hE _
    obtain ⟨E, F, e1, e2⟩ := hE
    have hi : i < A.length := by rw [e1, List.length_append, List.length_append, List.length_append, List.length_singleton]; omega
    have ht : A[i] = 10059 := by
      simp only [e1, List.append_assoc]
      rw [List.getElem_append_right (by omega)]
      simp [e2]
    have hlen := hw.1
    rw [List.length_map] at hlen
    have hsg := hw.2 i (by rw [List.length_map]; exact hi)
    rw [List.getElem_map, ht, zl_59] at hsg
    have n1 : ¬ A.length ≤ i := by omega
    have n2 : ¬ 240 ≤ i := by omega
    refine ⟨.int (nI 59), l5, ?_⟩
    rw [s32_9]
    simp (disch := first | omega | assumption) only [s32_0, s32_1, s32_2, s32_5, s32_6, s32_7, s32_8, s32_10, s32_11, s32_14, s32_17, s32_18, s32_19, s32_22, s32_23, s32_26, s32_27, s32_30, s32_31, s32_32, s32_33, s32_35, s32_36, s32_39, s32_41, s32_43, s32_46, s32_47, s32_50, s32_51, s32_52, s32_55, s32_57, s32_59, s32_62, s32_63, s32_66, s32_67, s32_69, s32_71, s32_74, s32_75, s32_78, s32_81, s32_82, s32_85, s32_86, s32_87, s32_90, s32_92, s32_94, s32_97, s32_98, s32_99, s32_102, s32_105, s32_106, s32_109, s32_110, s32_113, s32_116, s32_118, s32_121, s32_122, s32_124, s32_125, s32_128, s32_131, s32_133, s32_135, s32_136, s32_139, s32_141, s32_142, s32_144, s32_147, s32_149, s32_150, s32_151, s32_154, s32_155, s32_157, s32_158, s32_161, s32_163, s32_164, s32_167, s32_168, s32_171, s32_174, s32_177, s32_180, s32_183, s32_184, nI_le2, nI_lt2, nI_eq2, nI_lt0, nI_0le, nI_0lt, nI_le0, nI_eq0, nI_clamp, nI_add, bu_nI, bb_0, bb_1, rf_s, rf_n, tl_s, tl_n, am_th_some, if_true, if_false, sI_eq, uI_eq, and_self, true_and, and_true, not_false_eq_true, not_true_eq_false, Nat.reduceEqDiff, Nat.reduceLeDiff, Nat.reduceLT, Nat.reduceAdd, Nat.reduceMul, Nat.reduceSub, Nat.zero_add, r0, hlen, hsg, n1, n2, neg_neg', hne, List.length_nil, Nat.add_zero]
  | cons t D ih =>
    intro A i l4 l5 hw hA hE hD
    obtain ⟨E, F, e1, e2⟩ := hE
    have hi : i < A.length := by rw [e1, List.length_append, List.length_append, List.length_append, List.length_cons]; omega
    have ht : A[i] = t := by
      simp only [e1, List.append_assoc]
      rw [List.getElem_append_right (by omega)]
      simp [e2]
    have hlen := hw.1
    rw [List.length_map] at hlen
    have hsg := hw.2 i (by rw [List.length_map]; exact hi)
    rw [List.getElem_map, ht] at hsg
    have n1 : ¬ A.length ≤ i := by omega
    have n2 : ¬ 240 ≤ i := by omega
    have nn : ¬ -(zl_c t) = nI 59 := by
      rcases hD t List.mem_cons_self with h | ⟨x, rfl, h1, h2, h3, -⟩
      · rw [zl_cn h]; exact neg_ne (by omega) (by decide) (by decide)
      · rw [zl_co, neg_neg', nI_eq2 (by omega) (by decide)]; exact h3
    obtain ⟨b4, b5, g⟩ := ih A (i + 1) (.int (-(zl_c t))) l5 hw hA ⟨E ++ [t], F, by rw [e1]; simp, by rw [List.length_append, List.length_singleton, e2]⟩ (fun t' ht' => hD t' (List.mem_cons_of_mem _ ht'))
    refine ⟨b4, b5, ?_⟩
    rw [List.length_cons, show i + (D.length + 1) + 1 = i + 1 + D.length + 1 by omega, ← g, s32_9]
    simp (disch := first | omega | assumption) only [s32_0, s32_1, s32_2, s32_5, s32_6, s32_7, s32_8, s32_10, s32_11, s32_14, s32_17, s32_18, s32_19, s32_22, s32_23, s32_26, s32_27, s32_30, s32_31, s32_32, s32_33, s32_35, s32_36, s32_39, s32_41, s32_43, s32_46, s32_47, s32_50, s32_51, s32_52, s32_55, s32_57, s32_59, s32_62, s32_63, s32_66, s32_67, s32_69, s32_71, s32_74, s32_75, s32_78, s32_81, s32_82, s32_85, s32_86, s32_87, s32_90, s32_92, s32_94, s32_97, s32_98, s32_99, s32_102, s32_105, s32_106, s32_109, s32_110, s32_113, s32_116, s32_118, s32_121, s32_122, s32_124, s32_125, s32_128, s32_131, s32_133, s32_135, s32_136, s32_139, s32_141, s32_142, s32_144, s32_147, s32_149, s32_150, s32_151, s32_154, s32_155, s32_157, s32_158, s32_161, s32_163, s32_164, s32_167, s32_168, s32_171, s32_174, s32_177, s32_180, s32_183, s32_184, nI_le2, nI_lt2, nI_eq2, nI_lt0, nI_0le, nI_0lt, nI_le0, nI_eq0, nI_clamp, nI_add, bu_nI, bb_0, bb_1, rf_s, rf_n, tl_s, tl_n, am_th_some, if_true, if_false, sI_eq, uI_eq, and_self, true_and, and_true, not_false_eq_true, not_true_eq_false, Nat.reduceEqDiff, Nat.reduceLeDiff, Nat.reduceLT, Nat.reduceAdd, Nat.reduceMul, Nat.reduceSub, Nat.zero_add, r0, hlen, hsg, n1, n2, nn, hne]
/-- CLAUSES one behind another -/
theorem w_cls (hr : lw_R R v) {f : Nat → Int32} (hf : zf_ok f) : ∀ (K : zl_K) (A : List Nat) (i : Nat) (I : am_I) (l4 l5 : Value), lw_at I v (A.map zl_c) → A.length ≤ 240 → st_at I → lk_at I v [] → I 31 0 = f → (∃ E, A = E ++ zl_cls K ∧ E.length = i) → zl_ok K → ∃ J : am_I, am_ev (d + 1) 32 9 [.ref (am_mk 3 v), .ref (am_mk 31 0), .int (nI 0), .int (nI i), l4, l5] [] I R Q = some (some (.int (zl_V K f)), J, R, Q) ∧ am_fr (lk_S v) I J := by
  intro K
  have r0 := hr.1
  have hne : ((nI 1 : Int32) = 0) = False := by decide
  have hz : ∀ (a b j : Nat), lk_S v a b j → (a = 28 ∧ b = v) ∨ (a = 3 ∧ b = v ∧ j = 3) := fun a b j w => w
  induction K with
  | nil =>
    intro A i I l4 l5 hw hA hs hk h31 hE _
    obtain ⟨E, e1, e2⟩ := hE
    have hlen := hw.1
    rw [List.length_map] at hlen
    have hi : A.length = i := by rw [e1, ← e2]; simp [zl_cls]
    have n1 : A.length ≤ i := by omega
    refine ⟨I, ?_, fr_rf⟩
    rw [s32_9, zl_V]
    simp (disch := first | omega | assumption) only [s32_0, s32_1, s32_2, s32_5, s32_6, s32_7, s32_8, s32_10, s32_11, s32_14, s32_17, s32_18, s32_19, s32_22, s32_23, s32_26, s32_27, s32_30, s32_31, s32_32, s32_33, s32_35, s32_36, s32_39, s32_41, s32_43, s32_46, s32_47, s32_50, s32_51, s32_52, s32_55, s32_57, s32_59, s32_62, s32_63, s32_66, s32_67, s32_69, s32_71, s32_74, s32_75, s32_78, s32_81, s32_82, s32_85, s32_86, s32_87, s32_90, s32_92, s32_94, s32_97, s32_98, s32_99, s32_102, s32_105, s32_106, s32_109, s32_110, s32_113, s32_116, s32_118, s32_121, s32_122, s32_124, s32_125, s32_128, s32_131, s32_133, s32_135, s32_136, s32_139, s32_141, s32_142, s32_144, s32_147, s32_149, s32_150, s32_151, s32_154, s32_155, s32_157, s32_158, s32_161, s32_163, s32_164, s32_167, s32_168, s32_171, s32_174, s32_177, s32_180, s32_183, s32_184, nI_le2, nI_lt2, nI_eq2, nI_lt0, nI_0le, nI_0lt, nI_le0, nI_eq0, nI_clamp, nI_add, bu_nI, bb_0, bb_1, rf_s, rf_n, tl_s, tl_n, am_th_some, if_true, if_false, sI_eq, uI_eq, and_self, true_and, and_true, not_false_eq_true, not_true_eq_false, Nat.reduceEqDiff, Nat.reduceLeDiff, Nat.reduceLT, Nat.reduceAdd, Nat.reduceMul, Nat.reduceSub, Nat.zero_add, r0, hlen, n1]
  | cons p K ih =>
    obtain ⟨T, U⟩ := p
    intro A i I l4 l5 hw hA hs hk h31 hE hok
    obtain ⟨E, e1, e2⟩ := hE
    obtain ⟨hT, hU⟩ := hok (T, U) List.mem_cons_self
    have hok2 : zl_ok K := fun p hp => hok p (List.mem_cons_of_mem _ hp)
    obtain ⟨u1, u2⟩ := zh_val hU hf
    -- the SUM, then ;
    have sum : ∀ (I1 : am_I) (i1 : Nat) (m4 m5 : Value), lw_at I1 v (A.map zl_c) → st_at I1 → lk_at I1 v [] → I1 31 0 = f → (∃ E F, A = E ++ (U ++ [10059]) ++ F ∧ E.length = i1) → ∃ J : am_I, am_ev (d + 1) 32 9 [.ref (am_mk 3 v), .ref (am_mk 31 0), .int (nI 0), .int (nI i1), m4, m5] [] I1 R Q = some (some (.int (zl_val f U)), J, R, Q) ∧ am_fr (lk_S v) I1 J := by
      intro I1 i1 m4 m5 hw1 hs1 hk1 h1 hE1
      obtain ⟨E1, F1, b1, b2⟩ := hE1
      obtain ⟨o1, o2⟩ := u2 [] (by decide)
      obtain ⟨J, a4, a5, g, fj, k⟩ := w_run (d := d) (Q := Q) hr U A [] i1 I1 m4 m5 hw1 hA hs1 hk1 ⟨E1, [10059] ++ F1, by rw [b1]; simp, b2⟩ (by rw [h1]; exact o1)
      rw [h1, o2, List.reverse_cons] at k
      have hwJ := lw_fr hw1 fj (fun w => by have := hz _ _ _ w; omega) (fun j w => by have := hz _ _ _ w; omega)
      have hi : i1 + U.length < A.length := by rw [b1, List.length_append, List.length_append, List.length_append, List.length_singleton]; omega
      have ht : A[i1 + U.length] = 10059 := by
        simp only [b1, List.append_assoc]
        rw [List.getElem_append_right (by omega), List.getElem_append_right (by omega)]
        simp [b2]
      have hlen := hwJ.1
      rw [List.length_map] at hlen
      have hsg := hwJ.2 (i1 + U.length) (by rw [List.length_map]; exact hi)
      rw [List.getElem_map, ht, zl_59] at hsg
      have n1 : ¬ A.length ≤ i1 + U.length := by omega
      have n2 : ¬ 240 ≤ i1 + U.length := by omega
      obtain ⟨J2, g2, f2, k2⟩ := c_pop (d := d) (R := R) (Q := Q) hr k (by simp)
      refine ⟨J2, ?_, fr_tr fj f2⟩
      rw [g, s32_9]
      simp (disch := first | omega | assumption) only [s32_0, s32_1, s32_2, s32_5, s32_6, s32_7, s32_8, s32_10, s32_11, s32_14, s32_17, s32_18, s32_19, s32_22, s32_23, s32_26, s32_27, s32_30, s32_31, s32_32, s32_33, s32_35, s32_36, s32_39, s32_41, s32_43, s32_46, s32_47, s32_50, s32_51, s32_52, s32_55, s32_57, s32_59, s32_62, s32_63, s32_66, s32_67, s32_69, s32_71, s32_74, s32_75, s32_78, s32_81, s32_82, s32_85, s32_86, s32_87, s32_90, s32_92, s32_94, s32_97, s32_98, s32_99, s32_102, s32_105, s32_106, s32_109, s32_110, s32_113, s32_116, s32_118, s32_121, s32_122, s32_124, s32_125, s32_128, s32_131, s32_133, s32_135, s32_136, s32_139, s32_141, s32_142, s32_144, s32_147, s32_149, s32_150, s32_151, s32_154, s32_155, s32_157, s32_158, s32_161, s32_163, s32_164, s32_167, s32_168, s32_171, s32_174, s32_177, s32_180, s32_183, s32_184, nI_le2, nI_lt2, nI_eq2, nI_lt0, nI_0le, nI_0lt, nI_le0, nI_eq0, nI_clamp, nI_add, bu_nI, bb_0, bb_1, rf_s, rf_n, tl_s, tl_n, am_th_some, if_true, if_false, sI_eq, uI_eq, and_self, true_and, and_true, not_false_eq_true, not_true_eq_false, Nat.reduceEqDiff, Nat.reduceLeDiff, Nat.reduceLT, Nat.reduceAdd, Nat.reduceMul, Nat.reduceSub, Nat.zero_add, r0, hlen, hsg, n1, n2, neg_neg', g2]
    rw [zl_V]
    by_cases hTe : T = []
    · rw [if_pos hTe]
      exact sum I i l4 l5 hw hs hk h31 ⟨E, zl_cls K, by rw [e1, cls_cons, zl_cl, if_pos hTe]; simp, e2⟩
    · rw [if_neg hTe]
      have hT := hT.resolve_left hTe
      obtain ⟨v1, v2⟩ := zh_val hT hf
      obtain ⟨o1, o2⟩ := v2 [] (by decide)
      have eA : A = E ++ T ++ ([10063] ++ (U ++ [10059]) ++ zl_cls K) := by rw [e1, cls_cons, zl_cl, if_neg hTe]; simp
      obtain ⟨J, a4, a5, g, fj, k⟩ := w_run (d := d) (Q := Q) hr T A [] i I l4 l5 hw hA hs hk ⟨E, _, eA, e2⟩ (by rw [h31]; exact o1)
      rw [h31, o2, List.reverse_cons] at k
      have hwJ := lw_fr hw fj (fun w => by have := hz _ _ _ w; omega) (fun j w => by have := hz _ _ _ w; omega)
      have hi : i + T.length < A.length := by rw [eA, List.length_append, List.length_append, List.length_append, List.length_append, List.length_singleton]; omega
      have ht : A[i + T.length] = 10063 := by
        simp only [eA, List.append_assoc]
        rw [List.getElem_append_right (by omega), List.getElem_append_right (by omega)]
        simp [e2]
      have hlen := hwJ.1
      rw [List.length_map] at hlen
      have hsg := hwJ.2 (i + T.length) (by rw [List.length_map]; exact hi)
      rw [List.getElem_map, ht, zl_63] at hsg
      have n1 : ¬ A.length ≤ i + T.length := by omega
      have n2 : ¬ 240 ≤ i + T.length := by omega
      obtain ⟨J2, g2, f2, k2⟩ := c_pop (d := d) (R := R) (Q := Q) hr k (by simp)
      have f02 := fr_tr fj f2
      have hw2 := lw_fr hw f02 (fun w => by have := hz _ _ _ w; omega) (fun j w => by have := hz _ _ _ w; omega)
      have hs2 := st_fr hs f02 (fun a b w => by have := hz _ _ _ w; omega)
      have e31 : J2 31 0 = f := (funext fun j => f02 _ _ _ (fun w => by have := hz _ _ _ w; omega)).trans h31
      by_cases y0 : zl_val f T = nI 0
      · rw [if_pos y0]
        rw [y0] at g2
        have hUk : ∀ t ∈ U, _ := zr_kinds U [] ((u2 [] (by decide)).1)
        obtain ⟨b4, b5, g3⟩ := w_skip (d := d) (I := J2) (Q := Q) hr U A (i + T.length + 1) (.int (nI 63)) a5 hw2 hA ⟨E ++ T ++ [10063], zl_cls K, by rw [eA]; simp, by rw [List.length_append, List.length_append, List.length_singleton, e2]⟩ hUk
        obtain ⟨J4, g4, f4⟩ := ih A (i + T.length + 1 + U.length + 1) J2 b4 b5 hw2 hA hs2 k2 e31 ⟨E ++ T ++ [10063] ++ (U ++ [10059]), by rw [eA]; simp, by simp; omega⟩ hok2
        refine ⟨J4, ?_, fr_tr f02 f4⟩
        rw [g, s32_9]
        simp (disch := first | omega | assumption) only [s32_0, s32_1, s32_2, s32_5, s32_6, s32_7, s32_8, s32_10, s32_11, s32_14, s32_17, s32_18, s32_19, s32_22, s32_23, s32_26, s32_27, s32_30, s32_31, s32_32, s32_33, s32_35, s32_36, s32_39, s32_41, s32_43, s32_46, s32_47, s32_50, s32_51, s32_52, s32_55, s32_57, s32_59, s32_62, s32_63, s32_66, s32_67, s32_69, s32_71, s32_74, s32_75, s32_78, s32_81, s32_82, s32_85, s32_86, s32_87, s32_90, s32_92, s32_94, s32_97, s32_98, s32_99, s32_102, s32_105, s32_106, s32_109, s32_110, s32_113, s32_116, s32_118, s32_121, s32_122, s32_124, s32_125, s32_128, s32_131, s32_133, s32_135, s32_136, s32_139, s32_141, s32_142, s32_144, s32_147, s32_149, s32_150, s32_151, s32_154, s32_155, s32_157, s32_158, s32_161, s32_163, s32_164, s32_167, s32_168, s32_171, s32_174, s32_177, s32_180, s32_183, s32_184, nI_le2, nI_lt2, nI_eq2, nI_lt0, nI_0le, nI_0lt, nI_le0, nI_eq0, nI_clamp, nI_add, bu_nI, bb_0, bb_1, rf_s, rf_n, tl_s, tl_n, am_th_some, if_true, if_false, sI_eq, uI_eq, and_self, true_and, and_true, not_false_eq_true, not_true_eq_false, Nat.reduceEqDiff, Nat.reduceLeDiff, Nat.reduceLT, Nat.reduceAdd, Nat.reduceMul, Nat.reduceSub, Nat.zero_add, r0, hlen, hsg, n1, n2, neg_neg', g2]
        rw [g3]
        exact g4
      · rw [if_neg y0]
        have y0' : ¬ zl_val f T = 0 := y0
        obtain ⟨J4, g4, f4⟩ := sum J2 (i + T.length + 1) (.int (nI 63)) a5 hw2 hs2 k2 e31 ⟨E ++ T ++ [10063], zl_cls K, by rw [eA]; simp, by rw [List.length_append, List.length_append, List.length_singleton, e2]⟩
        refine ⟨J4, ?_, fr_tr f02 f4⟩
        rw [g, s32_9]
        simp (disch := first | omega | assumption) only [s32_0, s32_1, s32_2, s32_5, s32_6, s32_7, s32_8, s32_10, s32_11, s32_14, s32_17, s32_18, s32_19, s32_22, s32_23, s32_26, s32_27, s32_30, s32_31, s32_32, s32_33, s32_35, s32_36, s32_39, s32_41, s32_43, s32_46, s32_47, s32_50, s32_51, s32_52, s32_55, s32_57, s32_59, s32_62, s32_63, s32_66, s32_67, s32_69, s32_71, s32_74, s32_75, s32_78, s32_81, s32_82, s32_85, s32_86, s32_87, s32_90, s32_92, s32_94, s32_97, s32_98, s32_99, s32_102, s32_105, s32_106, s32_109, s32_110, s32_113, s32_116, s32_118, s32_121, s32_122, s32_124, s32_125, s32_128, s32_131, s32_133, s32_135, s32_136, s32_139, s32_141, s32_142, s32_144, s32_147, s32_149, s32_150, s32_151, s32_154, s32_155, s32_157, s32_158, s32_161, s32_163, s32_164, s32_167, s32_168, s32_171, s32_174, s32_177, s32_180, s32_183, s32_184, nI_le2, nI_lt2, nI_eq2, nI_lt0, nI_0le, nI_0lt, nI_le0, nI_eq0, nI_clamp, nI_add, bu_nI, bb_0, bb_1, rf_s, rf_n, tl_s, tl_n, am_th_some, if_true, if_false, sI_eq, uI_eq, and_self, true_and, and_true, not_false_eq_true, not_true_eq_false, Nat.reduceEqDiff, Nat.reduceLeDiff, Nat.reduceLT, Nat.reduceAdd, Nat.reduceMul, Nat.reduceSub, Nat.zero_add, r0, hlen, hsg, n1, n2, neg_neg', g2, y0']
        exact g4
theorem c_worth (hr : lw_R R v) {K : zl_K} (hw : lw_at I v ((zl_cls K).map zl_c)) (hl : (zl_cls K).length ≤ 240) (hs : st_at I) (hok : zl_ok K) (hf : zf_ok (I 31 0)) : ∃ J : am_I, am_cal (d + 1) 32 [.ref (am_mk 3 v), .ref (am_mk 31 0)] I R Q = some (some (.int (zl_V K (I 31 0))), J, R, Q) ∧ am_fr (lk_S v) I J := by
  have hz : ∀ (a b j : Nat), lk_S v a b j → (a = 28 ∧ b = v) ∨ (a = 3 ∧ b = v ∧ j = 3) := fun a b j w => w
  obtain ⟨X, e, f1, h1⟩ : ∃ X, am_sI I 3 v (am_uI (I 3 v) 3 (nI 0)) = X ∧ am_fr (lk_S v) I X ∧ X 3 v 3 = nI 0 := ⟨_, rfl, fr_s fr_rf (Or.inr ⟨rfl, rfl, rfl⟩), by rw [sI_eq, uI_eq]⟩
  have e31 : X 31 0 = I 31 0 := funext fun j => f1 _ _ _ (fun w => by have := hz _ _ _ w; omega)
  obtain ⟨J, g, f2⟩ := w_cls (d := d) (Q := Q) hr hf K (zl_cls K) 0 X am_J am_J (lw_fr hw f1 (fun w => by have := hz _ _ _ w; omega) (fun j w => by have := hz _ _ _ w; omega)) hl (st_fr hs f1 (fun a b w => by have := hz _ _ _ w; omega)) ⟨h1, fun i hi => absurd hi (Nat.not_lt_zero _)⟩ e31 ⟨[], rfl, rfl⟩ hok
  refine ⟨J, ?_, fr_tr f1 f2⟩
  rw [s32]
  simp (disch := first | omega | assumption) only [s32_0, s32_1, s32_2, s32_5, s32_6, s32_7, s32_8, s32_10, s32_11, s32_14, s32_17, s32_18, s32_19, s32_22, s32_23, s32_26, s32_27, s32_30, s32_31, s32_32, s32_33, s32_35, s32_36, s32_39, s32_41, s32_43, s32_46, s32_47, s32_50, s32_51, s32_52, s32_55, s32_57, s32_59, s32_62, s32_63, s32_66, s32_67, s32_69, s32_71, s32_74, s32_75, s32_78, s32_81, s32_82, s32_85, s32_86, s32_87, s32_90, s32_92, s32_94, s32_97, s32_98, s32_99, s32_102, s32_105, s32_106, s32_109, s32_110, s32_113, s32_116, s32_118, s32_121, s32_122, s32_124, s32_125, s32_128, s32_131, s32_133, s32_135, s32_136, s32_139, s32_141, s32_142, s32_144, s32_147, s32_149, s32_150, s32_151, s32_154, s32_155, s32_157, s32_158, s32_161, s32_163, s32_164, s32_167, s32_168, s32_171, s32_174, s32_177, s32_180, s32_183, s32_184, nI_le2, nI_lt2, nI_eq2, nI_lt0, nI_0le, nI_0lt, nI_le0, nI_eq0, nI_clamp, nI_add, bu_nI, bb_0, bb_1, rf_s, rf_n, tl_s, tl_n, am_th_some, if_true, if_false, sI_eq, uI_eq, and_self, true_and, and_true, not_false_eq_true, not_true_eq_false, Nat.reduceEqDiff, Nat.reduceLeDiff, Nat.reduceLT, Nat.reduceAdd, Nat.reduceMul, Nat.reduceSub, Nat.zero_add, e]
  exact g
end
