/-! LUNCH texts: a CLAUSE; the class. -/
def ze_S (u : Nat) : Nat → Nat → Nat → Prop := fun a b j => zi_S a b j ∨ zt_S u a b j ∨ (a = 23 ∧ b = 0)
def zs_at (I : am_I) (L : Nat) (B : Nat → Nat) (a : Nat) : Prop := tc_at I L B ∧ st_at I ∧ sx_at I ∧ I 10 0 2 = nI a
section
variable {d u L a k : Nat} {I J : am_I} {R : am_R} {Q : am_Q} {B V : Nat → Nat} {E : zE} {F M D : List (Nat → Nat)} {Z : Nat → Nat → Nat → Prop}
theorem ov_fr (h : zd_ov I u V) (hf : am_fr Z I J) (h1 : ∀ j, ¬ Z 14 u j) : zd_ov J u V := fun j hj => (hf _ _ _ (h1 _)).trans (h j hj)
theorem f_fr (h : zd_f I u F) (hf : am_fr Z I J) (h1 : ∀ a j, (a = 19 ∨ a = 20 ∨ a = 21 ∨ a = 22) → ¬ Z a u j) : zd_f J u F := fun c hc => ⟨(hf _ _ _ (h1 _ _ (by omega))).trans (h c hc).1, (hf _ _ _ (h1 _ _ (by omega))).trans (h c hc).2.1, (hf _ _ _ (h1 _ _ (by omega))).trans (h c hc).2.2.1, (hf _ _ _ (h1 _ _ (by omega))).trans (h c hc).2.2.2⟩
theorem s_fr (h : zd_s I u M) (hf : am_fr Z I J) (h1 : ∀ j, ¬ Z 15 u j) (h2 : ∀ j, ¬ Z 26 0 j) : zd_s J u M := fun c hc => ⟨(hf _ _ _ (h1 _)).trans (h c hc).1, (hf _ _ _ (h2 _)).trans (h c hc).2⟩
theorem d_fr (h : zd_d I u D) (hf : am_fr Z I J) (h1 : ¬ Z 6 u 5) (h2 : ∀ a j, (a = 17 ∨ a = 18) → ¬ Z a u j) : zd_d J u D := ⟨(hf _ _ _ h1).trans h.1, fun i hi => ⟨(hf _ _ _ (h2 _ _ (by omega))).trans (h.2 i hi).1, (hf _ _ _ (h2 _ _ (by omega))).trans (h.2 i hi).2⟩⟩
theorem w_fr (h : zd_w I F M) (hf : am_fr Z I J) (h1 : ¬ Z 7 0 6) (h2 : ¬ Z 7 0 7) : zd_w J F M := ⟨(hf _ _ _ h1).trans h.1, by obtain ⟨x, e, r⟩ := h.2; exact ⟨x, (hf _ _ _ h2).trans e, r⟩⟩
theorem c_fr (h : zd_c I u E) (hf : am_fr Z I J) (h1 : ∀ a j, (14 ≤ a ∧ a ≤ 22 ∧ ¬ a = 16) → ¬ Z a u j) (h2 : ∀ j, ¬ Z 26 0 j) (h3 : ¬ Z 6 u 5) (h4 : ∀ j, (j = 6 ∨ j = 7) → ¬ Z 7 0 j) : zd_c J u E := ⟨ov_fr h.1 hf (fun j => h1 _ _ (by omega)), f_fr h.2.1 hf (fun a j w => h1 _ _ (by omega)), s_fr h.2.2.1 hf (fun j => h1 _ _ (by omega)) h2, d_fr h.2.2.2.1 hf h3 (fun a j w => h1 _ _ (by omega)), w_fr h.2.2.2.2 hf (h4 _ (by omega)) (h4 _ (by omega))⟩
theorem eV {α : Type} (l : List α) (x : α) (h : l.length < (l ++ [x]).length) : (l ++ [x])[l.length] = x := by simp
theorem c_take (hr : ze_R R u) (hk4 : k < 4) (hV : zd_in k V) (hE : zd_ok E) (hc : zd_c I u E) (hv : ∀ j, j < zM k → I 24 0 (zF k + j) = nI (V j)) (h3 : k = 3 → E.2.2.2.2.length < 6) : ∃ J, am_cal (d + 1) 64 [.ref (am_mk 7 0), .int (nI k)] I R Q = some (none, J, R, Q) ∧ am_fr (zt_S u) I J ∧ zd_c J u (zd_add E k V) := by
  have hr' := hr
  obtain ⟨-, r0, r1, r2, r3, r4, r5, q0, q1, q2, q3, q4, q6, p0, p1, p2, p3⟩ := hr
  obtain ⟨ca, cb, cc, cd, ce⟩ := hc
  rcases (show k = 0 ∨ k = 1 ∨ k = 2 ∨ k = 3 by omega) with rfl | rfl | rfl | rfl
  · have hv : ∀ j, j < 6 → I 24 0 (0 + j) = nI (V j) := hv
    have loop : ∃ J, am_ev (d + 1) 64 6 [.ref (am_mk 7 0), .int (nI 0), .int (nI 0)] [] I R Q = some (none, J, R, Q) ∧ am_fr (fun a b _ => a = 14 ∧ b = u) I J ∧ zd_ov J u V := by
      refine loop_inv (f := fun J c => am_ev (d + 1) 64 6 [.ref (am_mk 7 0), .int (nI 0), .int (nI c)] [] J R Q) (Inv := fun c J => am_fr (fun a b _ => a = 14 ∧ b = u) I J ∧ ∀ j, j < c → J 14 u j = nI (V j)) (Post := fun y => ∃ J, y = some (none, J, R, Q) ∧ am_fr (fun a b _ => a = 14 ∧ b = u) I J ∧ zd_ov J u V) (n := 6) ?_ ?_ (Nat.zero_le _) ⟨fr_rf, fun j hj => absurd hj (Nat.not_lt_zero _)⟩
      · intro c J hc ⟨f, g⟩
        left
        have e0 : I 24 0 c = nI (V c) := by
          have := hv c hc
          rwa [Nat.zero_add] at this
        have e : J 24 0 c = nI (V c) := (f 24 0 c (by omega)).trans e0
        have n1 : ¬ 6 ≤ c := by omega
        have n2 : ¬ 14 ≤ c := by omega
        obtain ⟨X, x, y, fx⟩ := wr J 14 u c (nI (V c))
        refine ⟨X, ?_, fr_tr f (fr_mo fx fun a b j w => ⟨w.1, w.2.1⟩), fun j hj => ?_⟩
        · rw [s64_6]
          simp (disch := first | omega | assumption) only [s64_0, s64_1, s64_4, s64_5, s64_7, s64_8, s64_11, s64_14, s64_15, s64_18, s64_19, s64_20, s64_23, s64_24, s64_27, s64_28, s64_31, s64_34, s64_35, s64_36, s64_39, s64_40, s64_41, s64_42, s64_45, s64_48, s64_51, s64_52, s64_53, s64_56, s64_57, s64_58, s64_61, s64_63, s64_64, s64_65, s64_68, s64_70, s64_71, s64_72, s64_75, s64_77, s64_78, s64_79, s64_82, s64_84, s64_85, s64_88, s64_91, s64_92, s64_93, s64_96, s64_97, s64_98, s64_101, s64_103, s64_104, s64_105, s64_108, s64_110, s64_111, s64_114, s64_117, s64_118, s64_121, s64_124, s64_127, s64_128, s64_131, s64_134, s64_136, s64_139, s64_140, s64_143, s64_146, s64_147, s64_150, s64_153, s64_154, s64_157, s64_159, s64_160, s64_161, s64_162, s64_165, s64_168, s64_169, s64_172, s64_175, s64_176, s64_179, s64_181, s64_182, s64_183, s64_184, s64_187, s64_188, s64_191, s64_192, s64_193, s64_196, nI_le2, nI_lt2, nI_eq2, nI_lt0, nI_0le, nI_0lt, nI_le0, nI_eq0, nI_clamp, nI_add, bu_nI, bb_0, bb_1, rf_s, rf_n, tl_s, tl_n, am_th_some, if_true, if_false, sI_eq, uI_eq, and_self, true_and, and_true, not_false_eq_true, not_true_eq_false, Nat.reduceEqDiff, Nat.reduceLeDiff, Nat.reduceLT, Nat.reduceAdd, Nat.reduceMul, Nat.reduceSub, Nat.zero_add, r1, r3, q0, n1, n2, e, x]
        · by_cases q : j = c
          · rw [q]; exact y
          · rw [fx _ _ _ (by omega)]; exact g j (by omega)
      · intro J ⟨f, g⟩
        refine ⟨J, ?_, f, g⟩
        have n1 : 6 ≤ 6 := Nat.le_refl _
        rw [s64_6]
        simp (disch := first | omega | assumption) only [s64_0, s64_1, s64_4, s64_5, s64_7, s64_8, s64_11, s64_14, s64_15, s64_18, s64_19, s64_20, s64_23, s64_24, s64_27, s64_28, s64_31, s64_34, s64_35, s64_36, s64_39, s64_40, s64_41, s64_42, s64_45, s64_48, s64_51, s64_52, s64_53, s64_56, s64_57, s64_58, s64_61, s64_63, s64_64, s64_65, s64_68, s64_70, s64_71, s64_72, s64_75, s64_77, s64_78, s64_79, s64_82, s64_84, s64_85, s64_88, s64_91, s64_92, s64_93, s64_96, s64_97, s64_98, s64_101, s64_103, s64_104, s64_105, s64_108, s64_110, s64_111, s64_114, s64_117, s64_118, s64_121, s64_124, s64_127, s64_128, s64_131, s64_134, s64_136, s64_139, s64_140, s64_143, s64_146, s64_147, s64_150, s64_153, s64_154, s64_157, s64_159, s64_160, s64_161, s64_162, s64_165, s64_168, s64_169, s64_172, s64_175, s64_176, s64_179, s64_181, s64_182, s64_183, s64_184, s64_187, s64_188, s64_191, s64_192, s64_193, s64_196, nI_le2, nI_lt2, nI_eq2, nI_lt0, nI_0le, nI_0lt, nI_le0, nI_eq0, nI_clamp, nI_add, bu_nI, bb_0, bb_1, rf_s, rf_n, tl_s, tl_n, am_th_some, if_true, if_false, sI_eq, uI_eq, and_self, true_and, and_true, not_false_eq_true, not_true_eq_false, Nat.reduceEqDiff, Nat.reduceLeDiff, Nat.reduceLT, Nat.reduceAdd, Nat.reduceMul, Nat.reduceSub, Nat.zero_add, r1, r3, q0, n1]
    obtain ⟨J, g, f, o⟩ := loop
    refine ⟨J, ?_, fr_mo f fun a b j w => by unfold zt_S; omega, o, f_fr cb f (fun a j _ w => by omega), s_fr cc f (fun j w => by omega) (fun j w => by omega), d_fr cd f (fun w => by omega) (fun a j _ w => by omega), w_fr ce f (fun w => by omega) (fun w => by omega)⟩
    rw [s64]
    simp (disch := first | omega | assumption) only [s64_0, s64_1, s64_4, s64_5, s64_7, s64_8, s64_11, s64_14, s64_15, s64_18, s64_19, s64_20, s64_23, s64_24, s64_27, s64_28, s64_31, s64_34, s64_35, s64_36, s64_39, s64_40, s64_41, s64_42, s64_45, s64_48, s64_51, s64_52, s64_53, s64_56, s64_57, s64_58, s64_61, s64_63, s64_64, s64_65, s64_68, s64_70, s64_71, s64_72, s64_75, s64_77, s64_78, s64_79, s64_82, s64_84, s64_85, s64_88, s64_91, s64_92, s64_93, s64_96, s64_97, s64_98, s64_101, s64_103, s64_104, s64_105, s64_108, s64_110, s64_111, s64_114, s64_117, s64_118, s64_121, s64_124, s64_127, s64_128, s64_131, s64_134, s64_136, s64_139, s64_140, s64_143, s64_146, s64_147, s64_150, s64_153, s64_154, s64_157, s64_159, s64_160, s64_161, s64_162, s64_165, s64_168, s64_169, s64_172, s64_175, s64_176, s64_179, s64_181, s64_182, s64_183, s64_184, s64_187, s64_188, s64_191, s64_192, s64_193, s64_196, nI_le2, nI_lt2, nI_eq2, nI_lt0, nI_0le, nI_0lt, nI_le0, nI_eq0, nI_clamp, nI_add, bu_nI, bb_0, bb_1, rf_s, rf_n, tl_s, tl_n, am_th_some, if_true, if_false, sI_eq, uI_eq, and_self, true_and, and_true, not_false_eq_true, not_true_eq_false, Nat.reduceEqDiff, Nat.reduceLeDiff, Nat.reduceLT, Nat.reduceAdd, Nat.reduceMul, Nat.reduceSub, Nat.zero_add]
    exact g
  · obtain ⟨J, g, f, o1, o2⟩ := c_takeFood (d := d) (Q := Q) hr' hV hE.2.1 cb ce
    refine ⟨J, ?_, fr_mo f fun a b j w => by unfold zt_S; omega, ov_fr ca f (fun j w => by omega), o1, s_fr cc f (fun j w => by omega) (fun j w => by omega), d_fr cd f (fun w => by omega) (fun a j _ w => by omega), o2⟩
    have v0 : I 24 0 6 = nI (V 0) := hv 0 (by decide)
    have v1 : I 24 0 7 = nI (V 1) := hv 1 (by decide)
    have v2 : I 24 0 8 = nI (V 2) := hv 2 (by decide)
    have v3 : I 24 0 9 = nI (V 3) := hv 3 (by decide)
    have hne : ((nI 1 : Int32) = 0) = False := by decide
    rw [s64]
    simp (disch := first | omega | assumption) only [s64_0, s64_1, s64_4, s64_5, s64_6, s64_7, s64_8, s64_11, s64_14, s64_15, s64_18, s64_19, s64_20, s64_23, s64_24, s64_27, s64_28, s64_31, s64_34, s64_35, s64_36, s64_39, s64_40, s64_41, s64_42, s64_45, s64_48, s64_51, s64_52, s64_53, s64_56, s64_57, s64_58, s64_61, s64_63, s64_64, s64_65, s64_68, s64_70, s64_71, s64_72, s64_75, s64_77, s64_78, s64_79, s64_82, s64_84, s64_85, s64_88, s64_91, s64_92, s64_93, s64_96, s64_97, s64_98, s64_101, s64_103, s64_104, s64_105, s64_108, s64_110, s64_111, s64_114, s64_117, s64_118, s64_121, s64_124, s64_127, s64_128, s64_131, s64_134, s64_136, s64_139, s64_140, s64_143, s64_146, s64_147, s64_150, s64_153, s64_154, s64_157, s64_159, s64_160, s64_161, s64_162, s64_165, s64_168, s64_169, s64_172, s64_175, s64_176, s64_179, s64_181, s64_182, s64_183, s64_184, s64_187, s64_188, s64_191, s64_192, s64_193, s64_196, nI_le2, nI_lt2, nI_eq2, nI_lt0, nI_0le, nI_0lt, nI_le0, nI_eq0, nI_clamp, nI_add, bu_nI, bb_0, bb_1, rf_s, rf_n, tl_s, tl_n, am_th_some, if_true, if_false, sI_eq, uI_eq, and_self, true_and, and_true, not_false_eq_true, not_true_eq_false, Nat.reduceEqDiff, Nat.reduceLeDiff, Nat.reduceLT, Nat.reduceAdd, Nat.reduceMul, Nat.reduceSub, Nat.zero_add, r3, v0, v1, v2, v3, hne, g]
  · obtain ⟨J, g, f, o1, o2⟩ := c_takePlace (d := d) (Q := Q) hr' hV cc ce
    refine ⟨J, ?_, fr_mo f fun a b j w => by unfold zt_S; omega, ov_fr ca f (fun j w => by omega), f_fr cb f (fun a j _ w => by omega), o1, d_fr cd f (fun w => by omega) (fun a j _ w => by omega), o2⟩
    have v0 : I 24 0 10 = nI (V 0) := hv 0 (by decide)
    have v1 : I 24 0 11 = nI (V 1) := hv 1 (by decide)
    have hne : ((nI 2 : Int32) = 0) = False := by decide
    rw [s64]
    simp (disch := first | omega | assumption) only [s64_0, s64_1, s64_4, s64_5, s64_6, s64_7, s64_8, s64_11, s64_14, s64_15, s64_18, s64_19, s64_20, s64_23, s64_24, s64_27, s64_28, s64_31, s64_34, s64_35, s64_36, s64_39, s64_40, s64_41, s64_42, s64_45, s64_48, s64_51, s64_52, s64_53, s64_56, s64_57, s64_58, s64_61, s64_63, s64_64, s64_65, s64_68, s64_70, s64_71, s64_72, s64_75, s64_77, s64_78, s64_79, s64_82, s64_84, s64_85, s64_88, s64_91, s64_92, s64_93, s64_96, s64_97, s64_98, s64_101, s64_103, s64_104, s64_105, s64_108, s64_110, s64_111, s64_114, s64_117, s64_118, s64_121, s64_124, s64_127, s64_128, s64_131, s64_134, s64_136, s64_139, s64_140, s64_143, s64_146, s64_147, s64_150, s64_153, s64_154, s64_157, s64_159, s64_160, s64_161, s64_162, s64_165, s64_168, s64_169, s64_172, s64_175, s64_176, s64_179, s64_181, s64_182, s64_183, s64_184, s64_187, s64_188, s64_191, s64_192, s64_193, s64_196, nI_le2, nI_lt2, nI_eq2, nI_lt0, nI_0le, nI_0lt, nI_le0, nI_eq0, nI_clamp, nI_add, bu_nI, bb_0, bb_1, rf_s, rf_n, tl_s, tl_n, am_th_some, if_true, if_false, sI_eq, uI_eq, and_self, true_and, and_true, not_false_eq_true, not_true_eq_false, Nat.reduceEqDiff, Nat.reduceLeDiff, Nat.reduceLT, Nat.reduceAdd, Nat.reduceMul, Nat.reduceSub, Nat.zero_add, r3, v0, v1, hne, g]
  · have v0 : I 24 0 12 = nI (V 0) := hv 0 (by decide)
    have v1 : I 24 0 13 = nI (V 1) := hv 1 (by decide)
    have hne : ((nI 3 : Int32) = 0) = False := by decide
    have h3 := h3 rfl
    obtain ⟨d5, dd⟩ := cd
    have n1 : ¬ 6 ≤ E.2.2.2.2.length := by omega
    obtain ⟨X1, x1, y1, f1⟩ := wr I 17 u E.2.2.2.2.length (nI (V 0))
    have s1 : X1 6 u 5 = nI E.2.2.2.2.length := (f1 _ _ _ (by omega)).trans d5
    have t1 : X1 24 0 13 = nI (V 1) := (f1 _ _ _ (by omega)).trans v1
    obtain ⟨X2, x2, y2, f2⟩ := wr X1 18 u E.2.2.2.2.length (nI (V 1))
    have s2 : X2 6 u 5 = nI E.2.2.2.2.length := (f2 _ _ _ (by omega)).trans s1
    obtain ⟨X3, x3, y3, f3⟩ := wr X2 6 u 5 (nI (E.2.2.2.2.length + 1))
    have f : am_fr (fun a b j => ((a = 17 ∨ a = 18) ∧ b = u) ∨ (a = 6 ∧ b = u ∧ j = 5)) I X3 := fr_tr (fr_tr (fr_mo f1 fun a b j w => by omega) (fr_mo f2 fun a b j w => by omega)) (fr_mo f3 fun a b j w => by omega)
    refine ⟨X3, ?_, fr_mo f fun a b j w => by unfold zt_S; omega, ov_fr ca f (fun j w => by omega), f_fr cb f (fun a j _ w => by omega), s_fr cc f (fun j w => by omega) (fun j w => by omega), ⟨?_, fun i hi => ?_⟩, w_fr ce f (fun w => by omega) (fun w => by omega)⟩
    · rw [s64]
      simp (disch := first | omega | assumption) only [s64_0, s64_1, s64_4, s64_5, s64_6, s64_7, s64_8, s64_11, s64_14, s64_15, s64_18, s64_19, s64_20, s64_23, s64_24, s64_27, s64_28, s64_31, s64_34, s64_35, s64_36, s64_39, s64_40, s64_41, s64_42, s64_45, s64_48, s64_51, s64_52, s64_53, s64_56, s64_57, s64_58, s64_61, s64_63, s64_64, s64_65, s64_68, s64_70, s64_71, s64_72, s64_75, s64_77, s64_78, s64_79, s64_82, s64_84, s64_85, s64_88, s64_91, s64_92, s64_93, s64_96, s64_97, s64_98, s64_101, s64_103, s64_104, s64_105, s64_108, s64_110, s64_111, s64_114, s64_117, s64_118, s64_121, s64_124, s64_127, s64_128, s64_131, s64_134, s64_136, s64_139, s64_140, s64_143, s64_146, s64_147, s64_150, s64_153, s64_154, s64_157, s64_159, s64_160, s64_161, s64_162, s64_165, s64_168, s64_169, s64_172, s64_175, s64_176, s64_179, s64_181, s64_182, s64_183, s64_184, s64_187, s64_188, s64_191, s64_192, s64_193, s64_196, nI_le2, nI_lt2, nI_eq2, nI_lt0, nI_0le, nI_0lt, nI_le0, nI_eq0, nI_clamp, nI_add, bu_nI, bb_0, bb_1, rf_s, rf_n, tl_s, tl_n, am_th_some, if_true, if_false, sI_eq, uI_eq, and_self, true_and, and_true, not_false_eq_true, not_true_eq_false, Nat.reduceEqDiff, Nat.reduceLeDiff, Nat.reduceLT, Nat.reduceAdd, Nat.reduceMul, Nat.reduceSub, Nat.zero_add, r1, r3, q3, q4, v0, t1, d5, s1, s2, hne, n1, h3, x1, x2, x3]
    · show X3 6 u 5 = nI (E.2.2.2.2 ++ [V]).length
      rw [List.length_append, List.length_singleton]; exact y3
    · have hi : i < (E.2.2.2.2 ++ [V]).length := hi
      have hi2 : i < E.2.2.2.2.length + 1 := by rw [List.length_append, List.length_singleton] at hi; exact hi
      show X3 17 u i = nI ((E.2.2.2.2 ++ [V])[i] 0) ∧ X3 18 u i = nI ((E.2.2.2.2 ++ [V])[i] 1)
      by_cases q : i = E.2.2.2.2.length
      · subst q
        rw [eV]
        exact ⟨by rw [f3 _ _ _ (by omega), f2 _ _ _ (by omega)]; exact y1, by rw [f3 _ _ _ (by omega)]; exact y2⟩
      · rw [List.getElem_append_left (show i < E.2.2.2.2.length by omega), f3 _ _ _ (by omega), f2 _ _ _ (by omega), f1 _ _ _ (by omega), f3 _ _ _ (by omega), f2 _ _ _ (by omega), f1 _ _ _ (by omega)]
        exact dd i (by omega)
end
