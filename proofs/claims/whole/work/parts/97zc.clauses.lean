/-! LUNCH texts: CLAUSES alike. -/
def zu_C (L : Nat) (B : Nat → Nat) (a : Nat) (E : zE) (ok : Bool) (a' : Nat) (E' : zE) : Prop := ∀ (d : Nat) (I : am_I) (R : am_R) (Q : am_Q) (u : Nat), 12 ≤ d → ze_R R u → zs_at I L B a → zd_o I E → zd_c I u E → ∃ J, am_cal d 61 [.ref (am_mk 7 0)] I R Q = some (some (.int (if ok = true then nI 1 else nI 0)), J, R, Q) ∧ am_fr (ze_S u) I J ∧ (ok = true → zs_at J L B a' ∧ zd_o J E' ∧ zd_c J u E') ∧ (ok = false → J 10 0 2 = nI a')
abbrev zov (E : zE) : Int32 := if E.1 = true then nI 1 else nI 0
def zu_M (L : Nat) (B : Nat → Nat) (a : Nat) (E : zE) (ok : Bool) (a' : Nat) (E' : zE) : Prop := ∀ (d : Nat) (I : am_I) (R : am_R) (Q : am_Q) (l3 l4 : Value), 14 ≤ d → mm_R R → tm_at I L B → I 12 0 3 = nI a → I 12 0 4 = -nI 1 → zd_m I E → ∃ (J : am_I) (l3' l4' : Value) (b : Int32), am_ev d 197 67 [.ref (am_mk 12 0), .int (zov E), .int (nI 1), l3, l4] [] I R Q = am_ev d 197 167 [.ref (am_mk 12 0), .int b, .int (nI 1), l3', l4'] [] J R Q ∧ am_fr zct_S I J ∧ (ok = true → tm_at J L B ∧ J 12 0 3 = nI a' ∧ J 12 0 4 = -nI 1 ∧ zd_m J E' ∧ b = zov E') ∧ (ok = false → zui_bad L B J a' ∧ zd_k J)
theorem add_ok {E : zE} {k : Nat} {V : Nat → Nat} (hE : zd_ok E) (hk : k < 4) (hn : zd_n E k < zX k) (hV : zd_in k V) : zd_ok (zd_add E k V) := by
  obtain ⟨o, ov, F, M, D⟩ := E
  obtain ⟨e0, e1, e2, e3, e4, e5, e6⟩ := hE
  have mem : ∀ {l : List (Nat → Nat)} {k}, (∀ f ∈ l, zd_in k f) → zd_in k V → ∀ f ∈ l ++ [V], zd_in k f := fun h1 h2 f hf => by
    rcases List.mem_append.mp hf with hf | hf
    · exact h1 f hf
    · rw [List.mem_singleton.mp hf]; exact h2
  rcases (show k = 0 ∨ k = 1 ∨ k = 2 ∨ k = 3 by omega) with rfl | rfl | rfl | rfl
  · exact ⟨hV, e1, e2, e3, e4, e5, e6⟩
  · have hn : F.length < 12 := hn
    exact ⟨e0, mem e1 hV, e2, e3, by show (F ++ [V]).length ≤ 12; rw [List.length_append, List.length_singleton]; omega, e5, e6⟩
  · have hn : M.length < 6 := hn
    exact ⟨e0, e1, mem e2 hV, e3, e4, by show (M ++ [V]).length ≤ 6; rw [List.length_append, List.length_singleton]; omega, e6⟩
  · have hn : D.length < 6 := hn
    exact ⟨e0, e1, e2, mem e3 hV, e4, e5, by show (D ++ [V]).length ≤ 6; rw [List.length_append, List.length_singleton]; omega⟩
section
variable {L a : Nat} {B : Nat → Nat} {E : zE}
theorem m_bodyNo (hk : tp_ok L B) (haL : a ≤ L) (hE : zd_ok E) (e : zkd (sp_hr L B (sp_sk L B a)) < 4 → zX (zkd (sp_hr L B (sp_sk L B a))) ≤ zd_n E (zkd (sp_hr L B (sp_sk L B a)))) : zu_M L B a E false (sp_sk L B a) E := by
  intro d I R Q l3 l4 hd hr ht ha hw hm
  obtain ⟨d, rfl⟩ : ∃ q, d = q + 4 := ⟨d - 4, by omega⟩
  have hx := hr_le (a := sp_sk L B a) hk
  have hs := sk_L (B := B) haL
  obtain ⟨J1, g1, f1, a1⟩ := m_look (d := d + 2) (Q := Q) hr hk ht ha haL
  have tS : ∀ (a b j : Nat), tm_S a b j → a = 12 ∧ j = 3 := fun a b j w => w
  have w1 : J1 12 0 4 = -nI 1 := (f1 _ _ _ (fun w => by have := tS _ _ _ w; omega)).trans hw
  have hm1 := zd_m_fr hm f1 (fun j _ w => by have := tS _ _ _ w; omega) (fun a j _ _ w => by have := tS _ _ _ w; omega)
  obtain ⟨J2, g2, f2, b2⟩ := m_bad (d := d + 3) (R := R) (Q := Q) a1 w1
  rw [sp_bad, if_pos rfl] at b2
  have hm2 := zd_m_fr hm1 f2 (fun j _ => by omega) (fun a j _ _ => by omega)
  have e115 := hm_eq (a := sp_sk L B a) (x := 115) hk (by decide) (by decide)
  have e102 := hm_eq (a := sp_sk L B a) (x := 102) hk (by decide) (by decide)
  have e109 := hm_eq (a := sp_sk L B a) (x := 109) hk (by decide) (by decide)
  have e100 := hm_eq (a := sp_sk L B a) (x := 100) hk (by decide) (by decide)
  obtain ⟨m21, m22, m23, -⟩ := hm1
  have hkk := zd_k_of hm2 hE
  obtain ⟨o, ov, F, M, D⟩ := E
  obtain ⟨-, -, -, -, k1, k2, k3⟩ := hE
  have k1 : F.length ≤ 12 := k1
  have k2 : M.length ≤ 6 := k2
  have k3 : D.length ≤ 6 := k3
  have m21 : J1 12 0 21 = nI F.length := m21
  have m22 : J1 12 0 22 = nI M.length := m22
  have m23 : J1 12 0 23 = nI D.length := m23
  have hne : ((nI 1 : Int32) = 0) = False := by decide
  refine ⟨J2, .int (sp_hm L B (sp_sk L B a)), .int (nI 0), zov (o, ov, F, M, D), ?_, fr_tr (fr_mo f1 fun a b j w => by have := tS _ _ _ w; unfold zct_S; omega) (fr_mo f2 fun a b j w => by unfold zct_S; omega), fa_f, fun _ => ⟨Or.inl b2, hkk⟩⟩
  generalize sp_hr L B (sp_sk L B a) = x at *
  by_cases q1 : x = 115
  · have : 1 ≤ zd_n (o, ov, F, M, D) 0 := by have := e (by rw [q1]; decide); rw [q1] at this; exact this
    cases o
    · exact absurd this (Nat.not_succ_le_zero 0)
    · have hz : zov (true, ov, F, M, D) = nI 1 := rfl
      rw [hz]
      have q2 : ¬ x = 102 := by omega
      have q3 : ¬ x = 109 := by omega
      have q4 : ¬ x = 100 := by omega
      simp (disch := first | omega | assumption) only [s197_0, s197_1, s197_2, s197_5, s197_6, s197_7, s197_10, s197_11, s197_12, s197_15, s197_16, s197_17, s197_20, s197_21, s197_22, s197_25, s197_26, s197_27, s197_28, s197_30, s197_32, s197_35, s197_36, s197_39, s197_40, s197_42, s197_43, s197_46, s197_47, s197_50, s197_53, s197_54, s197_56, s197_59, s197_60, s197_63, s197_64, s197_67, s197_68, s197_71, s197_72, s197_73, s197_75, s197_78, s197_79, s197_82, s197_83, s197_85, s197_88, s197_89, s197_92, s197_94, s197_97, s197_98, s197_100, s197_103, s197_104, s197_107, s197_109, s197_112, s197_113, s197_115, s197_118, s197_119, s197_122, s197_124, s197_127, s197_128, s197_131, s197_132, s197_134, s197_136, s197_139, s197_140, s197_143, s197_144, s197_146, s197_149, s197_150, s197_153, s197_154, s197_155, s197_156, s197_157, s197_160, s197_163, s197_164, s197_168, s197_171, s197_172, s197_175, s197_176, s197_179, s197_181, s197_184, s197_185, s197_188, s197_189, s197_190, s197_191, s197_192, s197_195, s197_196, s197_199, s197_200, s197_203, s197_204, s197_205, s197_208, s197_211, s197_212, s197_215, s197_216, s197_217, s197_218, s197_221, s197_222, s197_223, s197_224, s197_225, s197_226, s197_229, s197_232, s197_233, s197_236, s197_237, s197_240, s197_241, s197_242, s197_245, s197_248, s197_249, s197_252, s197_253, s197_256, s197_257, s197_258, s197_261, s197_264, s197_265, s197_268, s197_269, s197_271, s197_272, s197_275, s197_276, s197_279, s197_280, s197_283, s197_284, s197_287, s197_289, s197_292, s197_293, s197_296, s197_297, s197_300, nI_le2, nI_lt2, nI_eq2, nI_lt0, nI_0le, nI_0lt, nI_le0, nI_eq0, nI_clamp, nI_add, bu_nI, bb_0, bb_1, rf_s, rf_n, tl_s, tl_n, am_th_some, if_true, if_false, sI_eq, uI_eq, and_self, true_and, and_true, not_false_eq_true, not_true_eq_false, Nat.reduceEqDiff, Nat.reduceLeDiff, Nat.reduceLT, Nat.reduceAdd, Nat.reduceMul, Nat.reduceSub, Nat.zero_add, g1, e115, e102, e109, e100, q1, q2, q3, q4, hne, g2]
  · by_cases q2 : x = 102
    · have : 12 ≤ F.length := by have := e (by rw [q2]; decide); rw [q2] at this; exact this
      have n1 : ¬ F.length < 12 := by omega
      have q3 : ¬ x = 109 := by omega
      have q4 : ¬ x = 100 := by omega
      simp (disch := first | omega | assumption) only [s197_0, s197_1, s197_2, s197_5, s197_6, s197_7, s197_10, s197_11, s197_12, s197_15, s197_16, s197_17, s197_20, s197_21, s197_22, s197_25, s197_26, s197_27, s197_28, s197_30, s197_32, s197_35, s197_36, s197_39, s197_40, s197_42, s197_43, s197_46, s197_47, s197_50, s197_53, s197_54, s197_56, s197_59, s197_60, s197_63, s197_64, s197_67, s197_68, s197_71, s197_72, s197_73, s197_75, s197_78, s197_79, s197_82, s197_83, s197_85, s197_88, s197_89, s197_92, s197_94, s197_97, s197_98, s197_100, s197_103, s197_104, s197_107, s197_109, s197_112, s197_113, s197_115, s197_118, s197_119, s197_122, s197_124, s197_127, s197_128, s197_131, s197_132, s197_134, s197_136, s197_139, s197_140, s197_143, s197_144, s197_146, s197_149, s197_150, s197_153, s197_154, s197_155, s197_156, s197_157, s197_160, s197_163, s197_164, s197_168, s197_171, s197_172, s197_175, s197_176, s197_179, s197_181, s197_184, s197_185, s197_188, s197_189, s197_190, s197_191, s197_192, s197_195, s197_196, s197_199, s197_200, s197_203, s197_204, s197_205, s197_208, s197_211, s197_212, s197_215, s197_216, s197_217, s197_218, s197_221, s197_222, s197_223, s197_224, s197_225, s197_226, s197_229, s197_232, s197_233, s197_236, s197_237, s197_240, s197_241, s197_242, s197_245, s197_248, s197_249, s197_252, s197_253, s197_256, s197_257, s197_258, s197_261, s197_264, s197_265, s197_268, s197_269, s197_271, s197_272, s197_275, s197_276, s197_279, s197_280, s197_283, s197_284, s197_287, s197_289, s197_292, s197_293, s197_296, s197_297, s197_300, nI_le2, nI_lt2, nI_eq2, nI_lt0, nI_0le, nI_0lt, nI_le0, nI_eq0, nI_clamp, nI_add, bu_nI, bb_0, bb_1, rf_s, rf_n, tl_s, tl_n, am_th_some, if_true, if_false, sI_eq, uI_eq, and_self, true_and, and_true, not_false_eq_true, not_true_eq_false, Nat.reduceEqDiff, Nat.reduceLeDiff, Nat.reduceLT, Nat.reduceAdd, Nat.reduceMul, Nat.reduceSub, Nat.zero_add, g1, e115, e102, e109, e100, q1, q2, q3, q4, hne, m21, n1, g2]
    · by_cases q3 : x = 109
      · have : 6 ≤ M.length := by have := e (by rw [q3]; decide); rw [q3] at this; exact this
        have n1 : ¬ M.length < 6 := by omega
        have q4 : ¬ x = 100 := by omega
        simp (disch := first | omega | assumption) only [s197_0, s197_1, s197_2, s197_5, s197_6, s197_7, s197_10, s197_11, s197_12, s197_15, s197_16, s197_17, s197_20, s197_21, s197_22, s197_25, s197_26, s197_27, s197_28, s197_30, s197_32, s197_35, s197_36, s197_39, s197_40, s197_42, s197_43, s197_46, s197_47, s197_50, s197_53, s197_54, s197_56, s197_59, s197_60, s197_63, s197_64, s197_67, s197_68, s197_71, s197_72, s197_73, s197_75, s197_78, s197_79, s197_82, s197_83, s197_85, s197_88, s197_89, s197_92, s197_94, s197_97, s197_98, s197_100, s197_103, s197_104, s197_107, s197_109, s197_112, s197_113, s197_115, s197_118, s197_119, s197_122, s197_124, s197_127, s197_128, s197_131, s197_132, s197_134, s197_136, s197_139, s197_140, s197_143, s197_144, s197_146, s197_149, s197_150, s197_153, s197_154, s197_155, s197_156, s197_157, s197_160, s197_163, s197_164, s197_168, s197_171, s197_172, s197_175, s197_176, s197_179, s197_181, s197_184, s197_185, s197_188, s197_189, s197_190, s197_191, s197_192, s197_195, s197_196, s197_199, s197_200, s197_203, s197_204, s197_205, s197_208, s197_211, s197_212, s197_215, s197_216, s197_217, s197_218, s197_221, s197_222, s197_223, s197_224, s197_225, s197_226, s197_229, s197_232, s197_233, s197_236, s197_237, s197_240, s197_241, s197_242, s197_245, s197_248, s197_249, s197_252, s197_253, s197_256, s197_257, s197_258, s197_261, s197_264, s197_265, s197_268, s197_269, s197_271, s197_272, s197_275, s197_276, s197_279, s197_280, s197_283, s197_284, s197_287, s197_289, s197_292, s197_293, s197_296, s197_297, s197_300, nI_le2, nI_lt2, nI_eq2, nI_lt0, nI_0le, nI_0lt, nI_le0, nI_eq0, nI_clamp, nI_add, bu_nI, bb_0, bb_1, rf_s, rf_n, tl_s, tl_n, am_th_some, if_true, if_false, sI_eq, uI_eq, and_self, true_and, and_true, not_false_eq_true, not_true_eq_false, Nat.reduceEqDiff, Nat.reduceLeDiff, Nat.reduceLT, Nat.reduceAdd, Nat.reduceMul, Nat.reduceSub, Nat.zero_add, g1, e115, e102, e109, e100, q1, q2, q3, q4, hne, m22, n1, g2]
      · by_cases q4 : x = 100
        · have : 6 ≤ D.length := by have := e (by rw [q4]; decide); rw [q4] at this; exact this
          have n1 : 6 ≤ D.length := by omega
          simp (disch := first | omega | assumption) only [s197_0, s197_1, s197_2, s197_5, s197_6, s197_7, s197_10, s197_11, s197_12, s197_15, s197_16, s197_17, s197_20, s197_21, s197_22, s197_25, s197_26, s197_27, s197_28, s197_30, s197_32, s197_35, s197_36, s197_39, s197_40, s197_42, s197_43, s197_46, s197_47, s197_50, s197_53, s197_54, s197_56, s197_59, s197_60, s197_63, s197_64, s197_67, s197_68, s197_71, s197_72, s197_73, s197_75, s197_78, s197_79, s197_82, s197_83, s197_85, s197_88, s197_89, s197_92, s197_94, s197_97, s197_98, s197_100, s197_103, s197_104, s197_107, s197_109, s197_112, s197_113, s197_115, s197_118, s197_119, s197_122, s197_124, s197_127, s197_128, s197_131, s197_132, s197_134, s197_136, s197_139, s197_140, s197_143, s197_144, s197_146, s197_149, s197_150, s197_153, s197_154, s197_155, s197_156, s197_157, s197_160, s197_163, s197_164, s197_168, s197_171, s197_172, s197_175, s197_176, s197_179, s197_181, s197_184, s197_185, s197_188, s197_189, s197_190, s197_191, s197_192, s197_195, s197_196, s197_199, s197_200, s197_203, s197_204, s197_205, s197_208, s197_211, s197_212, s197_215, s197_216, s197_217, s197_218, s197_221, s197_222, s197_223, s197_224, s197_225, s197_226, s197_229, s197_232, s197_233, s197_236, s197_237, s197_240, s197_241, s197_242, s197_245, s197_248, s197_249, s197_252, s197_253, s197_256, s197_257, s197_258, s197_261, s197_264, s197_265, s197_268, s197_269, s197_271, s197_272, s197_275, s197_276, s197_279, s197_280, s197_283, s197_284, s197_287, s197_289, s197_292, s197_293, s197_296, s197_297, s197_300, nI_le2, nI_lt2, nI_eq2, nI_lt0, nI_0le, nI_0lt, nI_le0, nI_eq0, nI_clamp, nI_add, bu_nI, bb_0, bb_1, rf_s, rf_n, tl_s, tl_n, am_th_some, if_true, if_false, sI_eq, uI_eq, and_self, true_and, and_true, not_false_eq_true, not_true_eq_false, Nat.reduceEqDiff, Nat.reduceLeDiff, Nat.reduceLT, Nat.reduceAdd, Nat.reduceMul, Nat.reduceSub, Nat.zero_add, g1, e115, e102, e109, e100, q1, q2, q3, q4, hne, m23, n1, g2]
        · simp (disch := first | omega | assumption) only [s197_0, s197_1, s197_2, s197_5, s197_6, s197_7, s197_10, s197_11, s197_12, s197_15, s197_16, s197_17, s197_20, s197_21, s197_22, s197_25, s197_26, s197_27, s197_28, s197_30, s197_32, s197_35, s197_36, s197_39, s197_40, s197_42, s197_43, s197_46, s197_47, s197_50, s197_53, s197_54, s197_56, s197_59, s197_60, s197_63, s197_64, s197_67, s197_68, s197_71, s197_72, s197_73, s197_75, s197_78, s197_79, s197_82, s197_83, s197_85, s197_88, s197_89, s197_92, s197_94, s197_97, s197_98, s197_100, s197_103, s197_104, s197_107, s197_109, s197_112, s197_113, s197_115, s197_118, s197_119, s197_122, s197_124, s197_127, s197_128, s197_131, s197_132, s197_134, s197_136, s197_139, s197_140, s197_143, s197_144, s197_146, s197_149, s197_150, s197_153, s197_154, s197_155, s197_156, s197_157, s197_160, s197_163, s197_164, s197_168, s197_171, s197_172, s197_175, s197_176, s197_179, s197_181, s197_184, s197_185, s197_188, s197_189, s197_190, s197_191, s197_192, s197_195, s197_196, s197_199, s197_200, s197_203, s197_204, s197_205, s197_208, s197_211, s197_212, s197_215, s197_216, s197_217, s197_218, s197_221, s197_222, s197_223, s197_224, s197_225, s197_226, s197_229, s197_232, s197_233, s197_236, s197_237, s197_240, s197_241, s197_242, s197_245, s197_248, s197_249, s197_252, s197_253, s197_256, s197_257, s197_258, s197_261, s197_264, s197_265, s197_268, s197_269, s197_271, s197_272, s197_275, s197_276, s197_279, s197_280, s197_283, s197_284, s197_287, s197_289, s197_292, s197_293, s197_296, s197_297, s197_300, nI_le2, nI_lt2, nI_eq2, nI_lt0, nI_0le, nI_0lt, nI_le0, nI_eq0, nI_clamp, nI_add, bu_nI, bb_0, bb_1, rf_s, rf_n, tl_s, tl_n, am_th_some, if_true, if_false, sI_eq, uI_eq, and_self, true_and, and_true, not_false_eq_true, not_true_eq_false, Nat.reduceEqDiff, Nat.reduceLeDiff, Nat.reduceLT, Nat.reduceAdd, Nat.reduceMul, Nat.reduceSub, Nat.zero_add, g1, e115, e102, e109, e100, q1, q2, q3, q4, hne, g2]
theorem m_bodyGo {k a' : Nat} {ok : Bool} {V' : Nat → Nat} (hk : tp_ok L B) (haL : a ≤ L) (hE : zd_ok E) (e : zkd (sp_hr L B (sp_sk L B a)) = k) (hk4 : k < 4) (hn : zd_n E k < zX k) (hu : zui_m L B k (sp_sk L B a + 1) 0 (zu0 k) ok a' V') : zu_M L B a E ok a' (zd_add E k V') := by
  intro d I R Q l3 l4 hd hr ht ha hw hm
  obtain ⟨d, rfl⟩ : ∃ q, d = q + 6 := ⟨d - 6, by omega⟩
  have hx := hr_le (a := sp_sk L B a) hk
  have hs := sk_L (B := B) haL
  obtain ⟨J1, g1, f1, a1⟩ := m_look (d := d + 4) (Q := Q) hr hk ht ha haL
  have tS : ∀ (a b j : Nat), tm_S a b j → a = 12 ∧ j = 3 := fun a b j w => w
  have w1 : J1 12 0 4 = -nI 1 := (f1 _ _ _ (fun w => by have := tS _ _ _ w; omega)).trans hw
  have t1 := tm_fr ht f1 (fun w => by have := tS _ _ _ w; omega) (fun j w => by have := tS _ _ _ w; omega)
  have hm1 := zd_m_fr hm f1 (fun j _ w => by have := tS _ _ _ w; omega) (fun a j _ _ w => by have := tS _ _ _ w; omega)
  have hxe : sp_hr L B (sp_sk L B a) = zC k := (zkd_c k hk4 _ (by omega)).mp e
  have hC0 : 0 < zC k := (show ∀ k, k < 4 → 0 < zC k by decide) k hk4
  have hlt : sp_sk L B a < L := hr_ltx hxe hC0
  have hhm : sp_hm L B (sp_sk L B a) = nI (zC k) := by
    rw [sp_hr, if_pos hlt] at hxe
    rw [sp_hm, if_pos hlt, hxe]
  rw [hhm] at g1
  obtain ⟨J2, g2, f2, o1, o2⟩ := m_clauseText (d := d) (Q := Q) hr hk hk4 hlt hn hE t1 a1 w1 hm1 hu (by omega)
  obtain ⟨m21, m22, m23, -⟩ := hm1
  have hne : ((nI 1 : Int32) = 0) = False := by decide
  have fS : am_fr zct_S I J2 := fr_tr (fr_mo f1 fun a b j w => by have := tS _ _ _ w; unfold zct_S; omega) f2
  obtain ⟨o, ov, F, M, D⟩ := E
  obtain ⟨-, -, -, -, l1, l2, l3'⟩ := hE
  have l1 : F.length ≤ 12 := l1
  have l2 : M.length ≤ 6 := l2
  have l3' : D.length ≤ 6 := l3'
  have m21 : J1 12 0 21 = nI F.length := m21
  have m22 : J1 12 0 22 = nI M.length := m22
  have m23 : J1 12 0 23 = nI D.length := m23
  refine ⟨J2, .int (nI (zC k)), .int (nI 1), zov (zd_add (o, ov, F, M, D) k V'), ?_, fS, fun w => ?_, o2⟩
  · rcases (show k = 0 ∨ k = 1 ∨ k = 2 ∨ k = 3 by omega) with rfl | rfl | rfl | rfl
    · have g1 : am_cal (d + 5) 164 [.ref (am_mk 12 0)] I R Q = some (some (.int (nI 115)), J1, R, Q) := g1
      have g2 : am_cal (d + 5) 196 [.ref (am_mk 12 0), .int (nI 115)] J1 R Q = some (none, J2, R, Q) := g2
      cases o
      · have hz : zov (false, ov, F, M, D) = nI 0 := rfl
        have hz2 : zov (zd_add (false, ov, F, M, D) 0 V') = nI 1 := rfl
        rw [hz, hz2, show zC 0 = 115 from rfl]
        simp (disch := first | omega | assumption) only [s197_0, s197_1, s197_2, s197_5, s197_6, s197_7, s197_10, s197_11, s197_12, s197_15, s197_16, s197_17, s197_20, s197_21, s197_22, s197_25, s197_26, s197_27, s197_28, s197_30, s197_32, s197_35, s197_36, s197_39, s197_40, s197_42, s197_43, s197_46, s197_47, s197_50, s197_53, s197_54, s197_56, s197_59, s197_60, s197_63, s197_64, s197_67, s197_68, s197_71, s197_72, s197_73, s197_75, s197_78, s197_79, s197_82, s197_83, s197_85, s197_88, s197_89, s197_92, s197_94, s197_97, s197_98, s197_100, s197_103, s197_104, s197_107, s197_109, s197_112, s197_113, s197_115, s197_118, s197_119, s197_122, s197_124, s197_127, s197_128, s197_131, s197_132, s197_134, s197_136, s197_139, s197_140, s197_143, s197_144, s197_146, s197_149, s197_150, s197_153, s197_154, s197_155, s197_156, s197_157, s197_160, s197_163, s197_164, s197_168, s197_171, s197_172, s197_175, s197_176, s197_179, s197_181, s197_184, s197_185, s197_188, s197_189, s197_190, s197_191, s197_192, s197_195, s197_196, s197_199, s197_200, s197_203, s197_204, s197_205, s197_208, s197_211, s197_212, s197_215, s197_216, s197_217, s197_218, s197_221, s197_222, s197_223, s197_224, s197_225, s197_226, s197_229, s197_232, s197_233, s197_236, s197_237, s197_240, s197_241, s197_242, s197_245, s197_248, s197_249, s197_252, s197_253, s197_256, s197_257, s197_258, s197_261, s197_264, s197_265, s197_268, s197_269, s197_271, s197_272, s197_275, s197_276, s197_279, s197_280, s197_283, s197_284, s197_287, s197_289, s197_292, s197_293, s197_296, s197_297, s197_300, nI_le2, nI_lt2, nI_eq2, nI_lt0, nI_0le, nI_0lt, nI_le0, nI_eq0, nI_clamp, nI_add, bu_nI, bb_0, bb_1, rf_s, rf_n, tl_s, tl_n, am_th_some, if_true, if_false, sI_eq, uI_eq, and_self, true_and, and_true, not_false_eq_true, not_true_eq_false, Nat.reduceEqDiff, Nat.reduceLeDiff, Nat.reduceLT, Nat.reduceAdd, Nat.reduceMul, Nat.reduceSub, Nat.zero_add, g1, hne, g2]
      · exact absurd hn (Nat.lt_irrefl 1)
    · have g1 : am_cal (d + 5) 164 [.ref (am_mk 12 0)] I R Q = some (some (.int (nI 102)), J1, R, Q) := g1
      have g2 : am_cal (d + 5) 196 [.ref (am_mk 12 0), .int (nI 102)] J1 R Q = some (none, J2, R, Q) := g2
      have hn' : F.length < 12 := hn
      have hz2 : zov (zd_add (o, ov, F, M, D) 1 V') = zov (o, ov, F, M, D) := rfl
      rw [hz2, show zC 1 = 102 from rfl]
      cases o
      · rw [show zov (false, ov, F, M, D) = nI 0 from rfl]
        simp (disch := first | omega | assumption) only [s197_0, s197_1, s197_2, s197_5, s197_6, s197_7, s197_10, s197_11, s197_12, s197_15, s197_16, s197_17, s197_20, s197_21, s197_22, s197_25, s197_26, s197_27, s197_28, s197_30, s197_32, s197_35, s197_36, s197_39, s197_40, s197_42, s197_43, s197_46, s197_47, s197_50, s197_53, s197_54, s197_56, s197_59, s197_60, s197_63, s197_64, s197_67, s197_68, s197_71, s197_72, s197_73, s197_75, s197_78, s197_79, s197_82, s197_83, s197_85, s197_88, s197_89, s197_92, s197_94, s197_97, s197_98, s197_100, s197_103, s197_104, s197_107, s197_109, s197_112, s197_113, s197_115, s197_118, s197_119, s197_122, s197_124, s197_127, s197_128, s197_131, s197_132, s197_134, s197_136, s197_139, s197_140, s197_143, s197_144, s197_146, s197_149, s197_150, s197_153, s197_154, s197_155, s197_156, s197_157, s197_160, s197_163, s197_164, s197_168, s197_171, s197_172, s197_175, s197_176, s197_179, s197_181, s197_184, s197_185, s197_188, s197_189, s197_190, s197_191, s197_192, s197_195, s197_196, s197_199, s197_200, s197_203, s197_204, s197_205, s197_208, s197_211, s197_212, s197_215, s197_216, s197_217, s197_218, s197_221, s197_222, s197_223, s197_224, s197_225, s197_226, s197_229, s197_232, s197_233, s197_236, s197_237, s197_240, s197_241, s197_242, s197_245, s197_248, s197_249, s197_252, s197_253, s197_256, s197_257, s197_258, s197_261, s197_264, s197_265, s197_268, s197_269, s197_271, s197_272, s197_275, s197_276, s197_279, s197_280, s197_283, s197_284, s197_287, s197_289, s197_292, s197_293, s197_296, s197_297, s197_300, nI_le2, nI_lt2, nI_eq2, nI_lt0, nI_0le, nI_0lt, nI_le0, nI_eq0, nI_clamp, nI_add, bu_nI, bb_0, bb_1, rf_s, rf_n, tl_s, tl_n, am_th_some, if_true, if_false, sI_eq, uI_eq, and_self, true_and, and_true, not_false_eq_true, not_true_eq_false, Nat.reduceEqDiff, Nat.reduceLeDiff, Nat.reduceLT, Nat.reduceAdd, Nat.reduceMul, Nat.reduceSub, Nat.zero_add, g1, hne, m21, hn', g2]
      · rw [show zov (true, ov, F, M, D) = nI 1 from rfl]
        simp (disch := first | omega | assumption) only [s197_0, s197_1, s197_2, s197_5, s197_6, s197_7, s197_10, s197_11, s197_12, s197_15, s197_16, s197_17, s197_20, s197_21, s197_22, s197_25, s197_26, s197_27, s197_28, s197_30, s197_32, s197_35, s197_36, s197_39, s197_40, s197_42, s197_43, s197_46, s197_47, s197_50, s197_53, s197_54, s197_56, s197_59, s197_60, s197_63, s197_64, s197_67, s197_68, s197_71, s197_72, s197_73, s197_75, s197_78, s197_79, s197_82, s197_83, s197_85, s197_88, s197_89, s197_92, s197_94, s197_97, s197_98, s197_100, s197_103, s197_104, s197_107, s197_109, s197_112, s197_113, s197_115, s197_118, s197_119, s197_122, s197_124, s197_127, s197_128, s197_131, s197_132, s197_134, s197_136, s197_139, s197_140, s197_143, s197_144, s197_146, s197_149, s197_150, s197_153, s197_154, s197_155, s197_156, s197_157, s197_160, s197_163, s197_164, s197_168, s197_171, s197_172, s197_175, s197_176, s197_179, s197_181, s197_184, s197_185, s197_188, s197_189, s197_190, s197_191, s197_192, s197_195, s197_196, s197_199, s197_200, s197_203, s197_204, s197_205, s197_208, s197_211, s197_212, s197_215, s197_216, s197_217, s197_218, s197_221, s197_222, s197_223, s197_224, s197_225, s197_226, s197_229, s197_232, s197_233, s197_236, s197_237, s197_240, s197_241, s197_242, s197_245, s197_248, s197_249, s197_252, s197_253, s197_256, s197_257, s197_258, s197_261, s197_264, s197_265, s197_268, s197_269, s197_271, s197_272, s197_275, s197_276, s197_279, s197_280, s197_283, s197_284, s197_287, s197_289, s197_292, s197_293, s197_296, s197_297, s197_300, nI_le2, nI_lt2, nI_eq2, nI_lt0, nI_0le, nI_0lt, nI_le0, nI_eq0, nI_clamp, nI_add, bu_nI, bb_0, bb_1, rf_s, rf_n, tl_s, tl_n, am_th_some, if_true, if_false, sI_eq, uI_eq, and_self, true_and, and_true, not_false_eq_true, not_true_eq_false, Nat.reduceEqDiff, Nat.reduceLeDiff, Nat.reduceLT, Nat.reduceAdd, Nat.reduceMul, Nat.reduceSub, Nat.zero_add, g1, hne, m21, hn', g2]
    · have g1 : am_cal (d + 5) 164 [.ref (am_mk 12 0)] I R Q = some (some (.int (nI 109)), J1, R, Q) := g1
      have g2 : am_cal (d + 5) 196 [.ref (am_mk 12 0), .int (nI 109)] J1 R Q = some (none, J2, R, Q) := g2
      have hn' : M.length < 6 := hn
      have hz2 : zov (zd_add (o, ov, F, M, D) 2 V') = zov (o, ov, F, M, D) := rfl
      rw [hz2, show zC 2 = 109 from rfl]
      cases o
      · rw [show zov (false, ov, F, M, D) = nI 0 from rfl]
        simp (disch := first | omega | assumption) only [s197_0, s197_1, s197_2, s197_5, s197_6, s197_7, s197_10, s197_11, s197_12, s197_15, s197_16, s197_17, s197_20, s197_21, s197_22, s197_25, s197_26, s197_27, s197_28, s197_30, s197_32, s197_35, s197_36, s197_39, s197_40, s197_42, s197_43, s197_46, s197_47, s197_50, s197_53, s197_54, s197_56, s197_59, s197_60, s197_63, s197_64, s197_67, s197_68, s197_71, s197_72, s197_73, s197_75, s197_78, s197_79, s197_82, s197_83, s197_85, s197_88, s197_89, s197_92, s197_94, s197_97, s197_98, s197_100, s197_103, s197_104, s197_107, s197_109, s197_112, s197_113, s197_115, s197_118, s197_119, s197_122, s197_124, s197_127, s197_128, s197_131, s197_132, s197_134, s197_136, s197_139, s197_140, s197_143, s197_144, s197_146, s197_149, s197_150, s197_153, s197_154, s197_155, s197_156, s197_157, s197_160, s197_163, s197_164, s197_168, s197_171, s197_172, s197_175, s197_176, s197_179, s197_181, s197_184, s197_185, s197_188, s197_189, s197_190, s197_191, s197_192, s197_195, s197_196, s197_199, s197_200, s197_203, s197_204, s197_205, s197_208, s197_211, s197_212, s197_215, s197_216, s197_217, s197_218, s197_221, s197_222, s197_223, s197_224, s197_225, s197_226, s197_229, s197_232, s197_233, s197_236, s197_237, s197_240, s197_241, s197_242, s197_245, s197_248, s197_249, s197_252, s197_253, s197_256, s197_257, s197_258, s197_261, s197_264, s197_265, s197_268, s197_269, s197_271, s197_272, s197_275, s197_276, s197_279, s197_280, s197_283, s197_284, s197_287, s197_289, s197_292, s197_293, s197_296, s197_297, s197_300, nI_le2, nI_lt2, nI_eq2, nI_lt0, nI_0le, nI_0lt, nI_le0, nI_eq0, nI_clamp, nI_add, bu_nI, bb_0, bb_1, rf_s, rf_n, tl_s, tl_n, am_th_some, if_true, if_false, sI_eq, uI_eq, and_self, true_and, and_true, not_false_eq_true, not_true_eq_false, Nat.reduceEqDiff, Nat.reduceLeDiff, Nat.reduceLT, Nat.reduceAdd, Nat.reduceMul, Nat.reduceSub, Nat.zero_add, g1, hne, m22, hn', g2]
      · rw [show zov (true, ov, F, M, D) = nI 1 from rfl]
        simp (disch := first | omega | assumption) only [s197_0, s197_1, s197_2, s197_5, s197_6, s197_7, s197_10, s197_11, s197_12, s197_15, s197_16, s197_17, s197_20, s197_21, s197_22, s197_25, s197_26, s197_27, s197_28, s197_30, s197_32, s197_35, s197_36, s197_39, s197_40, s197_42, s197_43, s197_46, s197_47, s197_50, s197_53, s197_54, s197_56, s197_59, s197_60, s197_63, s197_64, s197_67, s197_68, s197_71, s197_72, s197_73, s197_75, s197_78, s197_79, s197_82, s197_83, s197_85, s197_88, s197_89, s197_92, s197_94, s197_97, s197_98, s197_100, s197_103, s197_104, s197_107, s197_109, s197_112, s197_113, s197_115, s197_118, s197_119, s197_122, s197_124, s197_127, s197_128, s197_131, s197_132, s197_134, s197_136, s197_139, s197_140, s197_143, s197_144, s197_146, s197_149, s197_150, s197_153, s197_154, s197_155, s197_156, s197_157, s197_160, s197_163, s197_164, s197_168, s197_171, s197_172, s197_175, s197_176, s197_179, s197_181, s197_184, s197_185, s197_188, s197_189, s197_190, s197_191, s197_192, s197_195, s197_196, s197_199, s197_200, s197_203, s197_204, s197_205, s197_208, s197_211, s197_212, s197_215, s197_216, s197_217, s197_218, s197_221, s197_222, s197_223, s197_224, s197_225, s197_226, s197_229, s197_232, s197_233, s197_236, s197_237, s197_240, s197_241, s197_242, s197_245, s197_248, s197_249, s197_252, s197_253, s197_256, s197_257, s197_258, s197_261, s197_264, s197_265, s197_268, s197_269, s197_271, s197_272, s197_275, s197_276, s197_279, s197_280, s197_283, s197_284, s197_287, s197_289, s197_292, s197_293, s197_296, s197_297, s197_300, nI_le2, nI_lt2, nI_eq2, nI_lt0, nI_0le, nI_0lt, nI_le0, nI_eq0, nI_clamp, nI_add, bu_nI, bb_0, bb_1, rf_s, rf_n, tl_s, tl_n, am_th_some, if_true, if_false, sI_eq, uI_eq, and_self, true_and, and_true, not_false_eq_true, not_true_eq_false, Nat.reduceEqDiff, Nat.reduceLeDiff, Nat.reduceLT, Nat.reduceAdd, Nat.reduceMul, Nat.reduceSub, Nat.zero_add, g1, hne, m22, hn', g2]
    · have g1 : am_cal (d + 5) 164 [.ref (am_mk 12 0)] I R Q = some (some (.int (nI 100)), J1, R, Q) := g1
      have g2 : am_cal (d + 5) 196 [.ref (am_mk 12 0), .int (nI 100)] J1 R Q = some (none, J2, R, Q) := g2
      have hn' : ¬ 6 ≤ D.length := by have hn : D.length < 6 := hn; omega
      have hz2 : zov (zd_add (o, ov, F, M, D) 3 V') = zov (o, ov, F, M, D) := rfl
      rw [hz2, show zC 3 = 100 from rfl]
      cases o
      · rw [show zov (false, ov, F, M, D) = nI 0 from rfl]
        simp (disch := first | omega | assumption) only [s197_0, s197_1, s197_2, s197_5, s197_6, s197_7, s197_10, s197_11, s197_12, s197_15, s197_16, s197_17, s197_20, s197_21, s197_22, s197_25, s197_26, s197_27, s197_28, s197_30, s197_32, s197_35, s197_36, s197_39, s197_40, s197_42, s197_43, s197_46, s197_47, s197_50, s197_53, s197_54, s197_56, s197_59, s197_60, s197_63, s197_64, s197_67, s197_68, s197_71, s197_72, s197_73, s197_75, s197_78, s197_79, s197_82, s197_83, s197_85, s197_88, s197_89, s197_92, s197_94, s197_97, s197_98, s197_100, s197_103, s197_104, s197_107, s197_109, s197_112, s197_113, s197_115, s197_118, s197_119, s197_122, s197_124, s197_127, s197_128, s197_131, s197_132, s197_134, s197_136, s197_139, s197_140, s197_143, s197_144, s197_146, s197_149, s197_150, s197_153, s197_154, s197_155, s197_156, s197_157, s197_160, s197_163, s197_164, s197_168, s197_171, s197_172, s197_175, s197_176, s197_179, s197_181, s197_184, s197_185, s197_188, s197_189, s197_190, s197_191, s197_192, s197_195, s197_196, s197_199, s197_200, s197_203, s197_204, s197_205, s197_208, s197_211, s197_212, s197_215, s197_216, s197_217, s197_218, s197_221, s197_222, s197_223, s197_224, s197_225, s197_226, s197_229, s197_232, s197_233, s197_236, s197_237, s197_240, s197_241, s197_242, s197_245, s197_248, s197_249, s197_252, s197_253, s197_256, s197_257, s197_258, s197_261, s197_264, s197_265, s197_268, s197_269, s197_271, s197_272, s197_275, s197_276, s197_279, s197_280, s197_283, s197_284, s197_287, s197_289, s197_292, s197_293, s197_296, s197_297, s197_300, nI_le2, nI_lt2, nI_eq2, nI_lt0, nI_0le, nI_0lt, nI_le0, nI_eq0, nI_clamp, nI_add, bu_nI, bb_0, bb_1, rf_s, rf_n, tl_s, tl_n, am_th_some, if_true, if_false, sI_eq, uI_eq, and_self, true_and, and_true, not_false_eq_true, not_true_eq_false, Nat.reduceEqDiff, Nat.reduceLeDiff, Nat.reduceLT, Nat.reduceAdd, Nat.reduceMul, Nat.reduceSub, Nat.zero_add, g1, hne, m23, hn', g2]
      · rw [show zov (true, ov, F, M, D) = nI 1 from rfl]
        simp (disch := first | omega | assumption) only [s197_0, s197_1, s197_2, s197_5, s197_6, s197_7, s197_10, s197_11, s197_12, s197_15, s197_16, s197_17, s197_20, s197_21, s197_22, s197_25, s197_26, s197_27, s197_28, s197_30, s197_32, s197_35, s197_36, s197_39, s197_40, s197_42, s197_43, s197_46, s197_47, s197_50, s197_53, s197_54, s197_56, s197_59, s197_60, s197_63, s197_64, s197_67, s197_68, s197_71, s197_72, s197_73, s197_75, s197_78, s197_79, s197_82, s197_83, s197_85, s197_88, s197_89, s197_92, s197_94, s197_97, s197_98, s197_100, s197_103, s197_104, s197_107, s197_109, s197_112, s197_113, s197_115, s197_118, s197_119, s197_122, s197_124, s197_127, s197_128, s197_131, s197_132, s197_134, s197_136, s197_139, s197_140, s197_143, s197_144, s197_146, s197_149, s197_150, s197_153, s197_154, s197_155, s197_156, s197_157, s197_160, s197_163, s197_164, s197_168, s197_171, s197_172, s197_175, s197_176, s197_179, s197_181, s197_184, s197_185, s197_188, s197_189, s197_190, s197_191, s197_192, s197_195, s197_196, s197_199, s197_200, s197_203, s197_204, s197_205, s197_208, s197_211, s197_212, s197_215, s197_216, s197_217, s197_218, s197_221, s197_222, s197_223, s197_224, s197_225, s197_226, s197_229, s197_232, s197_233, s197_236, s197_237, s197_240, s197_241, s197_242, s197_245, s197_248, s197_249, s197_252, s197_253, s197_256, s197_257, s197_258, s197_261, s197_264, s197_265, s197_268, s197_269, s197_271, s197_272, s197_275, s197_276, s197_279, s197_280, s197_283, s197_284, s197_287, s197_289, s197_292, s197_293, s197_296, s197_297, s197_300, nI_le2, nI_lt2, nI_eq2, nI_lt0, nI_0le, nI_0lt, nI_le0, nI_eq0, nI_clamp, nI_add, bu_nI, bb_0, bb_1, rf_s, rf_n, tl_s, tl_n, am_th_some, if_true, if_false, sI_eq, uI_eq, and_self, true_and, and_true, not_false_eq_true, not_true_eq_false, Nat.reduceEqDiff, Nat.reduceLeDiff, Nat.reduceLT, Nat.reduceAdd, Nat.reduceMul, Nat.reduceSub, Nat.zero_add, g1, hne, m23, hn', g2]
  · obtain ⟨z1, z2, z3, z4⟩ := o1 w
    exact ⟨z1, z2, z3, z4, rfl⟩
theorem c_clNo' (hk : tp_ok L B) (haL : a ≤ L) (hE : zd_ok E) (e : zkd (sp_hr L B (sp_sk L B a)) < 4 → zX (zkd (sp_hr L B (sp_sk L B a))) ≤ zd_n E (zkd (sp_hr L B (sp_sk L B a)))) : zu_C L B a E false (sp_sk L B a) E := by
  intro d I R Q u hd hr h ho hc
  obtain ⟨d, rfl⟩ : ∃ q, d = q + 4 := ⟨d - 4, by omega⟩
  have hb : zd_n E (zkd (sp_hr L B (sp_sk L B a))) < 1000 := by
    obtain ⟨-, -, -, -, k1, k2, k3⟩ := hE
    unfold zd_n
    split
    · split <;> omega
    · split
      · omega
      · split <;> omega
  obtain ⟨J, g, f, a1⟩ := c_clNo (d := d) (Q := Q) hr hk h haL ho e hb
  exact ⟨J, g, f, fa_f, fun _ => a1⟩
theorem c_clGo' {k a' : Nat} {ok : Bool} {V' : Nat → Nat} (hk : tp_ok L B) (haL : a ≤ L) (hE : zd_ok E) (e : zkd (sp_hr L B (sp_sk L B a)) = k) (hk4 : k < 4) (hn : zd_n E k < zX k) (hu : zui_c L B k (sp_sk L B a + 1) 0 (zu0 k) ok a' V') (hV : ok = true → zd_in k V') : zu_C L B a E ok a' (zd_add E k V') := by
  intro d I R Q u hd hr h ho hc
  obtain ⟨d, rfl⟩ : ∃ q, d = q + 4 := ⟨d - 4, by omega⟩
  obtain ⟨J1, g1, f1, h1, o1⟩ := c_clGo (d := d) (Q := Q) hr hk h haL ho e hk4 hn
  obtain ⟨J2, f2, k2, m2⟩ := hu (d + 4) J1 R Q u (by omega) hr h1
  have f12 : am_fr (fun a b j => zi_S a b j ∨ (a = 23 ∧ b = 0)) I J2 := fr_tr f1 (fr_mo f2 fun a b j w => Or.inl w)
  have zS : ∀ (a b j : Nat), (zi_S a b j ∨ (a = 23 ∧ b = 0)) → (a = 10 ∧ j = 2) ∨ a = 24 ∨ a = 25 ∨ (a = 23 ∧ b = 0) := fun a b j w => by unfold zi_S at w; omega
  have hc2 := c_fr hc f12 (fun a j _ w => by have := zS _ _ _ w; omega) (fun j w => by have := zS _ _ _ w; omega) (fun w => by have := zS _ _ _ w; omega) (fun j _ w => by have := zS _ _ _ w; omega)
  have fe : am_fr (ze_S u) I J2 := fr_mo f12 fun a b j w => by
    rcases w with w | w
    · exact Or.inl w
    · exact Or.inr (Or.inr w)
  cases ok
  · obtain ⟨w1, w2⟩ := m2 rfl
    exact ⟨J2, by rw [g1, w1]; rfl, fe, fa_f, fun _ => w2⟩
  · obtain ⟨l4, G', w1, h2⟩ := k2 rfl
    obtain ⟨J3, g3, f3, hc3⟩ := c_take (d := d + 2) (Q := Q) (V := V') hr hk4 (hV rfl) hE hc2 (fun j hj => (h2.2.2.2.2 j hj).1) (fun w => by subst w; exact hn)
    have tS : ∀ (a b j : Nat), zt_S u a b j → ¬ a = 10 ∧ ¬ a = 13 ∧ ¬ a = 101 ∧ ¬ a = 23 ∧ ¬ 110 ≤ a := fun a b j w => by unfold zt_S at w; omega
    refine ⟨J3, ?_, fr_tr fe (fr_mo f3 fun a b j w => Or.inr (Or.inl w)), fun _ => ⟨⟨tc_fr h2.1 f3 (fun w => by have := tS _ _ _ w; omega) (fun j w => by have := tS _ _ _ w; omega), st_fr h2.2.1 f3 (fun a b w => by have := tS _ _ _ w; omega), sx_fr h2.2.2.1 f3 (fun a j _ _ w => by have := tS _ _ _ w; omega), (f3 _ _ _ (fun w => by have := tS _ _ _ w; omega)).trans h2.2.2.2.1⟩, fun i hi => ?_, hc3⟩, fa_t⟩
    · rw [g1, w1, if_pos rfl]
      simp (disch := first | omega | assumption) only [s61_0, s61_1, s61_4, s61_6, s61_9, s61_12, s61_14, s61_15, s61_18, s61_21, s61_22, s61_25, s61_28, s61_29, s61_30, s61_31, s61_34, s61_35, s61_36, s61_39, s61_40, s61_43, s61_44, s61_47, s61_48, s61_49, s61_52, s61_53, s61_54, s61_57, s61_58, s61_59, s61_60, s61_63, s61_66, s61_67, s61_70, s61_71, s61_72, s61_73, s61_74, s61_75, s61_76, s61_79, s61_80, s61_81, s61_82, s61_85, s61_86, s61_87, s61_88, s61_89, s61_90, s61_91, s61_93, s61_95, s61_96, s61_99, s61_100, s61_103, s61_105, s61_108, s61_110, s61_111, s61_112, s61_113, s61_116, s61_118, s61_119, s61_120, s61_123, s61_126, s61_127, s61_131, s61_132, s61_135, s61_136, s61_139, s61_142, s61_144, s61_147, s61_148, s61_151, s61_154, s61_157, s61_158, s61_159, s61_162, s61_163, s61_164, s61_165, s61_166, s61_167, s61_170, s61_173, s61_174, s61_175, s61_178, s61_181, s61_182, nI_le2, nI_lt2, nI_eq2, nI_lt0, nI_0le, nI_0lt, nI_le0, nI_eq0, nI_clamp, nI_add, bu_nI, bb_0, bb_1, rf_s, rf_n, tl_s, tl_n, am_th_some, if_true, if_false, sI_eq, uI_eq, and_self, true_and, and_true, not_false_eq_true, not_true_eq_false, Nat.reduceEqDiff, Nat.reduceLeDiff, Nat.reduceLT, Nat.reduceAdd, Nat.reduceMul, Nat.reduceSub, Nat.zero_add, g3]
    · rw [f3 _ _ _ (fun w => by have := tS _ _ _ w; omega), f2 _ _ _ (fun w => by unfold zi_S at w; omega), o1 i hi, zn_add hk4 hn i hi]
theorem zj_lclause (hk : tp_ok L B) (haL : a ≤ L) (hE : zd_ok E) : ∃ (ok : Bool) (a' : Nat) (E' : zE), zu_C L B a E ok a' E' ∧ zu_M L B a E ok a' E' ∧ a ≤ a' ∧ a' ≤ L ∧ (ok = true → a + 1 ≤ a' ∧ (sp_hr L B a' = 59 ∨ ¬ a' < L) ∧ sp_sk L B a' = a' ∧ zd_ok E') := by
  have hs := sk_L (B := B) haL
  have hx := hr_le (a := sp_sk L B a) hk
  by_cases e : zkd (sp_hr L B (sp_sk L B a)) < 4 ∧ zd_n E (zkd (sp_hr L B (sp_sk L B a))) < zX (zkd (sp_hr L B (sp_sk L B a)))
  · obtain ⟨hk4, hn⟩ := e
    have hxe := (zkd_c _ hk4 _ (by omega)).mp rfl
    have hC0 := (show ∀ k, k < 4 → 0 < zC k by decide) _ hk4
    have hlt := hr_ltx hxe hC0
    obtain ⟨ok, a', V', c, m, p1, p2, p3⟩ := zui_all hk hk4 _ (sp_sk L B a + 1) 0 (zu0 _) (Nat.le_refl _) hlt (by decide) (zu0_in hk4)
    refine ⟨ok, a', zd_add E _ V', c_clGo' hk haL hE rfl hk4 hn c (fun w => (p3 w).2.2), m_bodyGo hk haL hE rfl hk4 hn m, by omega, p2, fun w => ?_⟩
    obtain ⟨q1, q2, q3⟩ := p3 w
    exact ⟨by omega, q1, q2, add_ok hE hk4 hn q3⟩
  · have e' : zkd (sp_hr L B (sp_sk L B a)) < 4 → zX (zkd (sp_hr L B (sp_sk L B a))) ≤ zd_n E (zkd (sp_hr L B (sp_sk L B a))) := fun w => Classical.byContradiction fun v => e ⟨w, by omega⟩
    exact ⟨false, sp_sk L B a, E, c_clNo' hk haL hE e', m_bodyNo hk haL hE e', hs.1, hs.2, fa_f⟩
end
