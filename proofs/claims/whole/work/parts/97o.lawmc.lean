/-! LAW texts: CLAUSES; the model. -/
def zn_S (n k : Nat) : Nat → Nat → Nat → Prop := fun a b j => zm_S n a b j ∨ (a = 46 ∧ j = n) ∨ ((a = 47 ∨ a = 48 ∨ a = 49) ∧ j = k)
def zn_4 (n k : Nat) : Nat → Nat → Nat → Prop := fun a _ j => (a = 46 ∧ j = n) ∨ ((a = 47 ∨ a = 48 ∨ a = 49) ∧ j = k)
def zm_Q (L : Nat) (B : Nat → Nat) (il : Int32) (a : Nat) (ok : Bool) (a' : Nat) (U : List Nat) : Prop := ∀ (d : Nat) (I : am_I) (R : am_R) (Q : am_Q) (n kk t0 : Nat) (C0 : List Nat), 64 ≤ d → mm_R R → n < 5 → kk < 140 → zm_at I L B n a 0 C0 → C0.length ≤ a → I 46 0 n = nI kk → I 47 0 (140 * n + kk) = nI t0 → ∃ J : am_I, am_ev d 181 184 [.ref (am_mk 12 0), .int (nI (140 * n + kk)), .int il] [] I R Q = some (none, J, R, Q) ∧ am_fr (zn_S n (140 * n + kk)) I J ∧ (ok = true → zm_at J L B n a' 0 (C0 ++ U) ∧ J 46 0 n = nI (kk + 1) ∧ J 47 0 (140 * n + kk) = nI t0 ∧ J 48 0 (140 * n + kk) = nI (if il = nI 0 then t0 else C0.length) ∧ J 49 0 (140 * n + kk) = nI (C0.length + U.length)) ∧ (ok = false → J 12 0 4 = nI a')
def zm_E (L : Nat) (B : Nat → Nat) (a : Nat) (ok : Bool) (a' : Nat) (T U : List Nat) : Prop := ∀ (d : Nat) (I : am_I) (R : am_R) (Q : am_Q) (n kk : Nat) (C0 : List Nat), 64 ≤ d → mm_R R → n < 5 → kk < 140 → zm_at I L B n a 0 C0 → C0.length ≤ a → I 46 0 n = nI kk → ∃ J : am_I, am_ev d 181 90 [.ref (am_mk 12 0), .int (nI (140 * n + kk)), am_J] [] I R Q = some (none, J, R, Q) ∧ am_fr (zn_S n (140 * n + kk)) I J ∧ (ok = true → zm_at J L B n a' 0 (C0 ++ (T ++ U)) ∧ J 46 0 n = nI (kk + 1) ∧ J 47 0 (140 * n + kk) = nI C0.length ∧ J 48 0 (140 * n + kk) = nI (C0.length + T.length) ∧ J 49 0 (140 * n + kk) = nI (C0.length + T.length + U.length)) ∧ (ok = false → J 12 0 4 = nI a')
def zm_C (L : Nat) (B : Nat → Nat) (a : Nat) (ok : Bool) (a' : Nat) (T U : List Nat) : Prop := ∀ (d : Nat) (I : am_I) (R : am_R) (Q : am_Q) (n kk : Nat) (C0 : List Nat), 64 ≤ d → mm_R R → n < 5 → kk < 140 → zm_at I L B n a 0 C0 → C0.length ≤ a → I 46 0 n = nI kk → ∃ J : am_I, am_cal d 181 [.ref (am_mk 12 0)] I R Q = some (none, J, R, Q) ∧ am_fr (zn_S n (140 * n + kk)) I J ∧ (ok = true → zm_at J L B n a' 0 (C0 ++ (T ++ U)) ∧ J 46 0 n = nI (kk + 1) ∧ J 47 0 (140 * n + kk) = nI C0.length ∧ J 48 0 (140 * n + kk) = nI (C0.length + T.length) ∧ J 49 0 (140 * n + kk) = nI (C0.length + T.length + U.length)) ∧ (ok = false → J 12 0 4 = nI a')
theorem zn_m {n k : Nat} {I J : am_I} (h : am_fr (zm_S n) I J) : am_fr (zn_S n k) I J := fr_mo h fun _ _ _ w => Or.inl w
theorem zn_4m {n k : Nat} {I J : am_I} (h : am_fr (zn_4 n k) I J) : am_fr (zn_S n k) I J := fr_mo h fun _ _ _ w => Or.inr w
theorem zf_fr0 {n m k : Nat} {C : List Nat} {I J : am_I} (h : zf_at I n C) (hf : am_fr (zn_4 m k) I J) : zf_at J n C := zf_fr h hf (fun w => by unfold zn_4 at w; omega) (fun w => by unfold zn_4 at w; omega) (fun j w => by unfold zn_4 at w; omega) (fun j w => by unfold zn_4 at w; omega)
theorem zm_fr0 {L n m k a dp : Nat} {B : Nat → Nat} {C : List Nat} {I J : am_I} (h : zm_at I L B n a dp C) (hf : am_fr (zn_4 m k) I J) : zm_at J L B n a dp C := by
  obtain ⟨h1, h2, h3, h4, h5⟩ := h
  exact ⟨tm_fr h1 hf (fun w => by unfold zn_4 at w; omega) (fun j w => by unfold zn_4 at w; omega), (hf _ _ _ (fun w => by unfold zn_4 at w; omega)).trans h2, (hf _ _ _ (fun w => by unfold zn_4 at w; omega)).trans h3, (hf _ _ _ (fun w => by unfold zn_4 at w; omega)).trans h4, zf_fr0 h5 hf⟩
theorem zm_4e {n : Nat} {I J : am_I} (h : am_fr (zm_S n) I J) (x j : Nat) (hx : x = 46 ∨ x = 47 ∨ x = 48 ∨ x = 49) : J x 0 j = I x 0 j := h _ _ _ (fun w => by unfold zm_S at w; omega)
/-- one place of the CLAUSES' arrays is written -/
theorem zs_4 (I : am_I) (x k : Nat) (v : Int32) (n kk : Nat) (hx : (x = 46 ∧ k = n) ∨ ((x = 47 ∨ x = 48 ∨ x = 49) ∧ k = kk)) : ∃ X, am_sI I x 0 (am_uI (I x 0) k v) = X ∧ am_fr (zn_4 n kk) I X ∧ X x 0 k = v ∧ (∀ y j, ¬ y = x → X y 0 j = I y 0 j) := ⟨_, rfl, fr_s fr_rf hx, by rw [sI_eq, uI_eq], fun y j h => by rw [sI_na h]⟩
theorem zs_3 {L n a dp : Nat} {B : Nat → Nat} {C : List Nat} {I : am_I} (h : zm_at I L B n a dp C) (a' : Nat) : ∃ X, am_sI I 12 0 (am_uI (I 12 0) 3 (nI a')) = X ∧ am_fr (zm_S n) I X ∧ zm_at X L B n a' dp C := ⟨_, rfl, zm_3 h⟩
section
variable {L a a1 a2 a' : Nat} {B : Nat → Nat} {C1 C2 C' D T U : List Nat} {ok1 ok2 ok' : Bool}
/-- the end of a CLAUSE, when wrong is set -/
theorem zm_w0 {d n k w : Nat} {I : am_I} {R : am_R} {Q : am_Q} {il : Int32} (hr : mm_R R) (hn : n < 5) (hk : k < 700) (ht : I 12 0 14 = nI n) (hw : I 12 0 4 = nI w) (hwl : w < 2 ^ 31) : ∃ J : am_I, am_ev d 181 184 [.ref (am_mk 12 0), .int (nI k), .int il] [] I R Q = some (none, J, R, Q) ∧ am_fr (zn_4 n k) I J ∧ J 12 0 4 = nI w := by
  have q : ¬ nI w = -nI 1 := m1_ne hwl
  have r8 := mr8 hr
  have r9 := mr9 hr
  have r10 := mr10 hr
  have r11 := mr11 hr
  have r12 := mr12 hr
  obtain ⟨X1, e1, f1, v1, o1⟩ := zs_4 I 48 k (I 47 0 k) n k (by omega)
  have hw1 : X1 12 0 4 = nI w := (o1 12 4 (by decide)).trans hw
  have ht1 : X1 12 0 14 = nI n := (o1 12 14 (by decide)).trans ht
  obtain ⟨X2, e2, f2, v2, o2⟩ := zs_4 X1 49 k (X1 45 0 n) n k (by omega)
  have ht2 : X2 12 0 14 = nI n := (o2 12 14 (by decide)).trans ht1
  obtain ⟨X3, e3, f3, v3, o3⟩ := zs_4 X2 46 n (X2 46 0 n + nI 1) n k (by omega)
  refine ⟨X3, ?_, fr_tr (fr_tr f1 f2) f3, (o3 12 4 (by decide)).trans ((o2 12 4 (by decide)).trans hw1)⟩
  by_cases e : il = 0
  · simp (disch := first | omega | assumption) only [s181_0, s181_3, s181_4, s181_7, s181_8, s181_9, s181_12, s181_13, s181_16, s181_17, s181_18, s181_19, s181_20, s181_23, s181_24, s181_27, s181_28, s181_31, s181_33, s181_36, s181_37, s181_40, s181_41, s181_42, s181_45, s181_46, s181_47, s181_50, s181_51, s181_54, s181_55, s181_58, s181_59, s181_62, s181_64, s181_67, s181_68, s181_71, s181_72, s181_73, s181_76, s181_77, s181_78, s181_81, s181_82, s181_85, s181_86, s181_89, s181_90, s181_91, s181_94, s181_95, s181_96, s181_99, s181_100, s181_103, s181_104, s181_105, s181_106, s181_109, s181_111, s181_114, s181_115, s181_118, s181_120, s181_123, s181_124, s181_127, s181_128, s181_129, s181_130, s181_133, s181_134, s181_137, s181_140, s181_141, s181_144, s181_145, s181_148, s181_149, s181_152, s181_153, s181_156, s181_159, s181_162, s181_163, s181_166, s181_167, s181_168, s181_169, s181_172, s181_173, s181_176, s181_177, s181_180, s181_181, s181_184, s181_185, s181_188, s181_189, s181_190, s181_193, s181_194, s181_195, s181_196, s181_197, s181_200, s181_201, s181_204, s181_205, s181_208, s181_209, s181_212, s181_214, s181_217, s181_218, s181_221, s181_222, s181_223, s181_224, s181_227, s181_228, s181_229, s181_232, s181_233, s181_236, s181_237, s181_238, s181_241, s181_242, s181_245, s181_246, s181_247, s181_248, s181_251, s181_252, s181_255, s181_256, s181_257, s181_260, s181_261, s181_264, s181_265, s181_266, s181_267, s181_270, s181_271, s181_274, s181_275, s181_276, s181_277, s181_278, s181_279, nI_le2, nI_lt2, nI_eq2, nI_lt0, nI_0le, nI_0lt, nI_le0, nI_eq0, nI_clamp, nI_add, bu_nI, bb_0, bb_1, rf_s, rf_n, tl_s, tl_n, am_th_some, if_true, if_false, sI_eq, uI_eq, and_self, true_and, and_true, not_false_eq_true, not_true_eq_false, Nat.reduceEqDiff, Nat.reduceLeDiff, Nat.reduceLT, Nat.reduceAdd, Nat.reduceMul, Nat.reduceSub, Nat.zero_add, r8, r9, r10, r11, r12, e1, e2, e3, ht1, ht2, e]
  · simp (disch := first | omega | assumption) only [s181_0, s181_3, s181_4, s181_7, s181_8, s181_9, s181_12, s181_13, s181_16, s181_17, s181_18, s181_19, s181_20, s181_23, s181_24, s181_27, s181_28, s181_31, s181_33, s181_36, s181_37, s181_40, s181_41, s181_42, s181_45, s181_46, s181_47, s181_50, s181_51, s181_54, s181_55, s181_58, s181_59, s181_62, s181_64, s181_67, s181_68, s181_71, s181_72, s181_73, s181_76, s181_77, s181_78, s181_81, s181_82, s181_85, s181_86, s181_89, s181_90, s181_91, s181_94, s181_95, s181_96, s181_99, s181_100, s181_103, s181_104, s181_105, s181_106, s181_109, s181_111, s181_114, s181_115, s181_118, s181_120, s181_123, s181_124, s181_127, s181_128, s181_129, s181_130, s181_133, s181_134, s181_137, s181_140, s181_141, s181_144, s181_145, s181_148, s181_149, s181_152, s181_153, s181_156, s181_159, s181_162, s181_163, s181_166, s181_167, s181_168, s181_169, s181_172, s181_173, s181_176, s181_177, s181_180, s181_181, s181_184, s181_185, s181_188, s181_189, s181_190, s181_193, s181_194, s181_195, s181_196, s181_197, s181_200, s181_201, s181_204, s181_205, s181_208, s181_209, s181_212, s181_214, s181_217, s181_218, s181_221, s181_222, s181_223, s181_224, s181_227, s181_228, s181_229, s181_232, s181_233, s181_236, s181_237, s181_238, s181_241, s181_242, s181_245, s181_246, s181_247, s181_248, s181_251, s181_252, s181_255, s181_256, s181_257, s181_260, s181_261, s181_264, s181_265, s181_266, s181_267, s181_270, s181_271, s181_274, s181_275, s181_276, s181_277, s181_278, s181_279, nI_le2, nI_lt2, nI_eq2, nI_lt0, nI_0le, nI_0lt, nI_le0, nI_eq0, nI_clamp, nI_add, bu_nI, bb_0, bb_1, rf_s, rf_n, tl_s, tl_n, am_th_some, if_true, if_false, sI_eq, uI_eq, and_self, true_and, and_true, not_false_eq_true, not_true_eq_false, Nat.reduceEqDiff, Nat.reduceLeDiff, Nat.reduceLT, Nat.reduceAdd, Nat.reduceMul, Nat.reduceSub, Nat.zero_add, r8, r9, r10, r11, r12, e1, e2, e3, ht1, ht2, hw1, q, e]
theorem zm_q5 : zm_Q L B (nI 0) a true a [] := by
  intro d I R Q n kk t0 C0 hN hr hn hkk h hl h46 h47
  have r8 := mr8 hr
  have r9 := mr9 hr
  have r10 := mr10 hr
  have r11 := mr11 hr
  have r12 := mr12 hr
  have hk : 140 * n + kk < 700 := by omega
  obtain ⟨X1, e1, f1, v1, o1⟩ := zs_4 I 48 (140 * n + kk) (nI t0) n (140 * n + kk) (by omega)
  have h1 := zm_fr0 h f1
  have ht1 := h1.2.2.2.2.1
  have h451 := h1.2.2.2.2.2.1
  obtain ⟨X2, e2, f2, v2, o2⟩ := zs_4 X1 49 (140 * n + kk) (nI C0.length) n (140 * n + kk) (by omega)
  have h2 := zm_fr0 h1 f2
  have ht2 := h2.2.2.2.2.1
  have h462 : X2 46 0 n = nI kk := (o2 46 n (by decide)).trans ((o1 46 n (by decide)).trans h46)
  obtain ⟨X3, e3, f3, v3, o3⟩ := zs_4 X2 46 n (nI (kk + 1)) n (140 * n + kk) (by omega)
  refine ⟨X3, ?_, zn_4m (fr_tr (fr_tr f1 f2) f3), fun _ => ⟨by rw [List.append_nil]; exact zm_fr0 h2 f3, v3, ?_, ?_, ?_⟩, fa_t⟩
  · simp (disch := first | omega | assumption) only [s181_0, s181_3, s181_4, s181_7, s181_8, s181_9, s181_12, s181_13, s181_16, s181_17, s181_18, s181_19, s181_20, s181_23, s181_24, s181_27, s181_28, s181_31, s181_33, s181_36, s181_37, s181_40, s181_41, s181_42, s181_45, s181_46, s181_47, s181_50, s181_51, s181_54, s181_55, s181_58, s181_59, s181_62, s181_64, s181_67, s181_68, s181_71, s181_72, s181_73, s181_76, s181_77, s181_78, s181_81, s181_82, s181_85, s181_86, s181_89, s181_90, s181_91, s181_94, s181_95, s181_96, s181_99, s181_100, s181_103, s181_104, s181_105, s181_106, s181_109, s181_111, s181_114, s181_115, s181_118, s181_120, s181_123, s181_124, s181_127, s181_128, s181_129, s181_130, s181_133, s181_134, s181_137, s181_140, s181_141, s181_144, s181_145, s181_148, s181_149, s181_152, s181_153, s181_156, s181_159, s181_162, s181_163, s181_166, s181_167, s181_168, s181_169, s181_172, s181_173, s181_176, s181_177, s181_180, s181_181, s181_184, s181_185, s181_188, s181_189, s181_190, s181_193, s181_194, s181_195, s181_196, s181_197, s181_200, s181_201, s181_204, s181_205, s181_208, s181_209, s181_212, s181_214, s181_217, s181_218, s181_221, s181_222, s181_223, s181_224, s181_227, s181_228, s181_229, s181_232, s181_233, s181_236, s181_237, s181_238, s181_241, s181_242, s181_245, s181_246, s181_247, s181_248, s181_251, s181_252, s181_255, s181_256, s181_257, s181_260, s181_261, s181_264, s181_265, s181_266, s181_267, s181_270, s181_271, s181_274, s181_275, s181_276, s181_277, s181_278, s181_279, nI_le2, nI_lt2, nI_eq2, nI_lt0, nI_0le, nI_0lt, nI_le0, nI_eq0, nI_clamp, nI_add, bu_nI, bb_0, bb_1, rf_s, rf_n, tl_s, tl_n, am_th_some, if_true, if_false, sI_eq, uI_eq, and_self, true_and, and_true, not_false_eq_true, not_true_eq_false, Nat.reduceEqDiff, Nat.reduceLeDiff, Nat.reduceLT, Nat.reduceAdd, Nat.reduceMul, Nat.reduceSub, Nat.zero_add, r8, r9, r10, r11, r12, h47, e1, e2, e3, ht1, ht2, h451, h462, hk]
  · exact (o3 47 _ (by decide)).trans ((o2 47 _ (by decide)).trans ((o1 47 _ (by decide)).trans h47))
  · rw [if_pos rfl]; exact (o3 48 _ (by decide)).trans ((o2 48 _ (by decide)).trans v1)
  · exact (o3 49 _ (by decide)).trans v2
theorem zm_qNo (hk : tp_ok L B) (haL : a ≤ L) (e : ¬ sp_hr L B (sp_sk L B a) = 63) : zm_Q L B (nI 1) a false (sp_sk L B a) [] := by
  intro d I R Q n kk t0 C0 hN hr hn hkk h hl h46 h47
  obtain ⟨d, rfl⟩ : ∃ q, d = q + 4 := ⟨d - 4, by omega⟩
  have r10 := mr10 hr
  have r11 := mr11 hr
  have hk' : 140 * n + kk < 700 := by omega
  have hne : ((nI 1 : Int32) = 0) = False := by decide
  obtain ⟨X1, e1, f0, v1, o1⟩ := zs_4 I 48 (140 * n + kk) (nI t0) n (140 * n + kk) (by omega)
  have h0 := zm_fr0 h f0
  have hw0 := h0.2.2.1
  obtain ⟨J1, g1, f1, h1⟩ := zm_look (d := d + 2) (Q := Q) hr hk h0 haL
  obtain ⟨J2, g2, f2, h2, w2⟩ := zm_bad (d := d + 3) (R := R) (Q := Q) h1
  have q := (hm_eq (a := sp_sk L B a) (x := 63) hk (by decide) (by decide)).trans (eq_false e)
  refine ⟨J2, ?_, fr_tr (fr_tr (zn_4m f0) (zn_m f1)) (zn_m f2), fa_f, fun _ => w2⟩
  simp (disch := first | omega | assumption) only [s181_0, s181_3, s181_4, s181_7, s181_8, s181_9, s181_12, s181_13, s181_16, s181_17, s181_18, s181_19, s181_20, s181_23, s181_24, s181_27, s181_28, s181_31, s181_33, s181_36, s181_37, s181_40, s181_41, s181_42, s181_45, s181_46, s181_47, s181_50, s181_51, s181_54, s181_55, s181_58, s181_59, s181_62, s181_64, s181_67, s181_68, s181_71, s181_72, s181_73, s181_76, s181_77, s181_78, s181_81, s181_82, s181_85, s181_86, s181_89, s181_90, s181_91, s181_94, s181_95, s181_96, s181_99, s181_100, s181_103, s181_104, s181_105, s181_106, s181_109, s181_111, s181_114, s181_115, s181_118, s181_120, s181_123, s181_124, s181_127, s181_128, s181_129, s181_130, s181_133, s181_134, s181_137, s181_140, s181_141, s181_144, s181_145, s181_148, s181_149, s181_152, s181_153, s181_156, s181_159, s181_162, s181_163, s181_166, s181_167, s181_168, s181_169, s181_172, s181_173, s181_176, s181_177, s181_180, s181_181, s181_184, s181_185, s181_188, s181_189, s181_190, s181_193, s181_194, s181_195, s181_196, s181_197, s181_200, s181_201, s181_204, s181_205, s181_208, s181_209, s181_212, s181_214, s181_217, s181_218, s181_221, s181_222, s181_223, s181_224, s181_227, s181_228, s181_229, s181_232, s181_233, s181_236, s181_237, s181_238, s181_241, s181_242, s181_245, s181_246, s181_247, s181_248, s181_251, s181_252, s181_255, s181_256, s181_257, s181_260, s181_261, s181_264, s181_265, s181_266, s181_267, s181_270, s181_271, s181_274, s181_275, s181_276, s181_277, s181_278, s181_279, nI_le2, nI_lt2, nI_eq2, nI_lt0, nI_0le, nI_0lt, nI_le0, nI_eq0, nI_clamp, nI_add, bu_nI, bb_0, bb_1, rf_s, rf_n, tl_s, tl_n, am_th_some, if_true, if_false, sI_eq, uI_eq, and_self, true_and, and_true, not_false_eq_true, not_true_eq_false, Nat.reduceEqDiff, Nat.reduceLeDiff, Nat.reduceLT, Nat.reduceAdd, Nat.reduceMul, Nat.reduceSub, Nat.zero_add, r10, r11, h47, e1, hw0, g1, q, g2, hk', hne]
theorem zm_qAll (hk : tp_ok L B) (haL : a ≤ L) (ha1 : a1 ≤ L) (hc : sp_sk L B a + 1 ≤ a1) (e : sp_hr L B (sp_sk L B a) = 63) (hi : zm_K L B 60 174 0 (sp_sk L B a + 1) ok1 a1 U) : zm_Q L B (nI 1) a ok1 a1 U := by
  intro d I R Q n kk t0 C0 hN hr hn hkk h hl h46 h47
  obtain ⟨d, rfl⟩ : ∃ q, d = q + 4 := ⟨d - 4, by omega⟩
  have hs := sk_L (B := B) haL
  have hL := hk.1
  have r8 := mr8 hr
  have r9 := mr9 hr
  have r10 := mr10 hr
  have r11 := mr11 hr
  have r12 := mr12 hr
  have hk' : 140 * n + kk < 700 := by omega
  have hne : ((nI 1 : Int32) = 0) = False := by decide
  obtain ⟨X0, e0, f0, v0, o0⟩ := zs_4 I 48 (140 * n + kk) (nI t0) n (140 * n + kk) (by omega)
  have h0 := zm_fr0 h f0
  have hw0 := h0.2.2.1
  obtain ⟨J1, g1, f1, h1⟩ := zm_look (d := d + 2) (Q := Q) hr hk h0 haL
  have h12 := h1.2.1
  have q := (hm_eq (a := sp_sk L B a) (x := 63) hk (by decide) (by decide)).trans (eq_true e)
  obtain ⟨X2, e2, f2, h2⟩ := zs_3 h1 (sp_sk L B a + 1)
  have ht2 := h2.2.2.2.2.1
  have h452 := h2.2.2.2.2.2.1
  obtain ⟨X3, e3, f3, v3, o3⟩ := zs_4 X2 48 (140 * n + kk) (nI C0.length) n (140 * n + kk) (by omega)
  have h3 := zm_fr0 h2 f3
  obtain ⟨J4, C4, g4, f4, k4, m4⟩ := hi (d + 3) X3 R Q n C0 (by omega) hr hn h3 (by omega)
  have ht4 : J4 12 0 14 = nI n := (f4 _ _ _ (fun w => by unfold zm_S at w; omega)).trans h3.2.2.2.2.1
  have h464 : J4 46 0 n = nI kk := (zm_4e f4 46 n (by decide)).trans ((o3 46 n (by decide)).trans ((zm_4e f2 46 n (by decide)).trans ((zm_4e f1 46 n (by decide)).trans ((o0 46 n (by decide)).trans h46))))
  have h474 : J4 47 0 (140 * n + kk) = nI t0 := (zm_4e f4 47 _ (by decide)).trans ((o3 47 _ (by decide)).trans ((zm_4e f2 47 _ (by decide)).trans ((zm_4e f1 47 _ (by decide)).trans ((o0 47 _ (by decide)).trans h47))))
  have h484 : J4 48 0 (140 * n + kk) = nI C0.length := (zm_4e f4 48 _ (by decide)).trans v3
  obtain ⟨X5, e5, f5, v5, o5⟩ := zs_4 J4 49 (140 * n + kk) (J4 45 0 n) n (140 * n + kk) (by omega)
  have ht5 : X5 12 0 14 = nI n := (o5 12 14 (by decide)).trans ht4
  have h465 : X5 46 0 n = nI kk := (o5 46 n (by decide)).trans h464
  obtain ⟨X6, e6, f6, v6, o6⟩ := zs_4 X5 46 n (nI (kk + 1)) n (140 * n + kk) (by omega)
  refine ⟨X6, ?_, fr_tr (fr_tr (fr_tr (fr_tr (fr_tr (fr_tr (zn_4m f0) (zn_m f1)) (zn_m f2)) (zn_4m f3)) (zn_m f4)) (zn_4m f5)) (zn_4m f6), fun w => ?_, fun w => ?_⟩
  · simp (disch := first | omega | assumption) only [s181_0, s181_3, s181_4, s181_7, s181_8, s181_9, s181_12, s181_13, s181_16, s181_17, s181_18, s181_19, s181_20, s181_23, s181_24, s181_27, s181_28, s181_31, s181_33, s181_36, s181_37, s181_40, s181_41, s181_42, s181_45, s181_46, s181_47, s181_50, s181_51, s181_54, s181_55, s181_58, s181_59, s181_62, s181_64, s181_67, s181_68, s181_71, s181_72, s181_73, s181_76, s181_77, s181_78, s181_81, s181_82, s181_85, s181_86, s181_89, s181_90, s181_91, s181_94, s181_95, s181_96, s181_99, s181_100, s181_103, s181_104, s181_105, s181_106, s181_109, s181_111, s181_114, s181_115, s181_118, s181_120, s181_123, s181_124, s181_127, s181_128, s181_129, s181_130, s181_133, s181_134, s181_137, s181_140, s181_141, s181_144, s181_145, s181_148, s181_149, s181_152, s181_153, s181_156, s181_159, s181_162, s181_163, s181_166, s181_167, s181_168, s181_169, s181_172, s181_173, s181_176, s181_177, s181_180, s181_181, s181_184, s181_185, s181_188, s181_189, s181_190, s181_193, s181_194, s181_195, s181_196, s181_197, s181_200, s181_201, s181_204, s181_205, s181_208, s181_209, s181_212, s181_214, s181_217, s181_218, s181_221, s181_222, s181_223, s181_224, s181_227, s181_228, s181_229, s181_232, s181_233, s181_236, s181_237, s181_238, s181_241, s181_242, s181_245, s181_246, s181_247, s181_248, s181_251, s181_252, s181_255, s181_256, s181_257, s181_260, s181_261, s181_264, s181_265, s181_266, s181_267, s181_270, s181_271, s181_274, s181_275, s181_276, s181_277, s181_278, s181_279, nI_le2, nI_lt2, nI_eq2, nI_lt0, nI_0le, nI_0lt, nI_le0, nI_eq0, nI_clamp, nI_add, bu_nI, bb_0, bb_1, rf_s, rf_n, tl_s, tl_n, am_th_some, if_true, if_false, sI_eq, uI_eq, and_self, true_and, and_true, not_false_eq_true, not_true_eq_false, Nat.reduceEqDiff, Nat.reduceLeDiff, Nat.reduceLT, Nat.reduceAdd, Nat.reduceMul, Nat.reduceSub, Nat.zero_add, r8, r9, r10, r11, r12, h47, e0, hw0, g1, q, h12, e2, ht2, h452, e3, g4, ht4, e5, ht5, h465, e6, hk', hne]
  · have h4 := k4 w
    refine ⟨zm_fr0 (zm_fr0 h4 f5) f6, v6, (o6 47 _ (by decide)).trans ((o5 47 _ (by decide)).trans h474), ?_, ?_⟩
    · rw [if_neg (by decide)]; exact (o6 48 _ (by decide)).trans ((o5 48 _ (by decide)).trans h484)
    · rw [(o6 49 _ (by decide)).trans v5, h4.2.2.2.2.2.1, List.length_append]
  · exact (o6 12 4 (by decide)).trans ((o5 12 4 (by decide)).trans (m4 w).2.1)
/-- from the first sign behind : on -/
theorem zm_eCond (hk : tp_ok L B) (haL : a ≤ L) (ha1 : a1 ≤ L) (haa : sp_sk L B a ≤ a1) (hlC : ok1 = true → T.length + sp_sk L B a ≤ a1) (e : sp_in 1 (sp_hr L B (sp_sk L B a))) (hi : zm_K L B 60 180 0 (sp_sk L B a) ok1 a1 T) (hq : ok1 = true → zm_Q L B (nI 1) a1 ok' a' U) (hf : ok1 = false → ok' = false ∧ a' = a1) : zm_E L B a ok' a' T U := by
  intro d I R Q n kk C0 hN hr hn hkk h hl h46
  obtain ⟨d, rfl⟩ : ∃ q, d = q + 4 := ⟨d - 4, by omega⟩
  have hs := sk_L (B := B) haL
  have hL := hk.1
  have r8 := mr8 hr
  have r10 := mr10 hr
  have hk' : 140 * n + kk < 700 := by omega
  have hne : ((nI 1 : Int32) = 0) = False := by decide
  have ht := h.2.2.2.2.1
  have h45 := h.2.2.2.2.2.1
  obtain ⟨X0, e0, f0, v0, o0⟩ := zs_4 I 47 (140 * n + kk) (nI C0.length) n (140 * n + kk) (by omega)
  have h0 := zm_fr0 h f0
  obtain ⟨J1, g1, f1, h1⟩ := zm_look (d := d + 2) (Q := Q) hr hk h0 haL
  obtain ⟨J2, g2, f2, h2⟩ := zm_look (d := d + 2) (Q := Q) hr hk h1 hs.2
  rw [sk_sk] at g2 h2
  have key : ∀ K : am_I, am_fr (zm_S n) X0 K → zm_at K L B n (sp_sk L B a) 0 C0 → ∃ J : am_I, am_ev (d + 4) 181 129 [.ref (am_mk 12 0), .int (nI (140 * n + kk)), .int (nI 1)] [] K R Q = some (none, J, R, Q) ∧ am_fr (zn_S n (140 * n + kk)) I J ∧ (ok' = true → zm_at J L B n a' 0 (C0 ++ (T ++ U)) ∧ J 46 0 n = nI (kk + 1) ∧ J 47 0 (140 * n + kk) = nI C0.length ∧ J 48 0 (140 * n + kk) = nI (C0.length + T.length) ∧ J 49 0 (140 * n + kk) = nI (C0.length + T.length + U.length)) ∧ (ok' = false → J 12 0 4 = nI a') := by
    intro K fK hK
    obtain ⟨J4, C4, g4, f4, k4, m4⟩ := hi (d + 3) K R Q n C0 (by omega) hr hn hK (by omega)
    have f04 : am_fr (zn_S n (140 * n + kk)) I J4 := fr_tr (fr_tr (zn_4m f0) (zn_m fK)) (zn_m f4)
    have h464 : J4 46 0 n = nI kk := (zm_4e f4 46 n (by decide)).trans ((zm_4e fK 46 n (by decide)).trans ((o0 46 n (by decide)).trans h46))
    have h474 : J4 47 0 (140 * n + kk) = nI C0.length := (zm_4e f4 47 _ (by decide)).trans ((zm_4e fK 47 _ (by decide)).trans v0)
    cases ok1
    · obtain ⟨rfl, rfl⟩ := hf rfl
      obtain ⟨z1, z2, z3⟩ := m4 rfl
      obtain ⟨J5, g5, f5, w5⟩ := zm_w0 (d := d + 4) (Q := Q) (il := nI 1) hr hn hk' z1.1 z2 (by omega)
      refine ⟨J5, ?_, fr_tr f04 (zn_4m f5), fa_f, fun _ => w5⟩
      simp (disch := first | omega | assumption) only [s181_0, s181_3, s181_4, s181_7, s181_8, s181_9, s181_12, s181_13, s181_16, s181_17, s181_18, s181_19, s181_20, s181_23, s181_24, s181_27, s181_28, s181_31, s181_33, s181_36, s181_37, s181_40, s181_41, s181_42, s181_45, s181_46, s181_47, s181_50, s181_51, s181_54, s181_55, s181_58, s181_59, s181_62, s181_64, s181_67, s181_68, s181_71, s181_72, s181_73, s181_76, s181_77, s181_78, s181_81, s181_82, s181_85, s181_86, s181_89, s181_90, s181_91, s181_94, s181_95, s181_96, s181_99, s181_100, s181_103, s181_104, s181_105, s181_106, s181_109, s181_111, s181_114, s181_115, s181_118, s181_120, s181_123, s181_124, s181_127, s181_128, s181_129, s181_130, s181_133, s181_134, s181_137, s181_140, s181_141, s181_144, s181_145, s181_148, s181_149, s181_152, s181_153, s181_156, s181_159, s181_162, s181_163, s181_166, s181_167, s181_168, s181_169, s181_172, s181_173, s181_176, s181_177, s181_180, s181_181, s181_185, s181_188, s181_189, s181_190, s181_193, s181_194, s181_195, s181_196, s181_197, s181_200, s181_201, s181_204, s181_205, s181_208, s181_209, s181_212, s181_214, s181_217, s181_218, s181_221, s181_222, s181_223, s181_224, s181_227, s181_228, s181_229, s181_232, s181_233, s181_236, s181_237, s181_238, s181_241, s181_242, s181_245, s181_246, s181_247, s181_248, s181_251, s181_252, s181_255, s181_256, s181_257, s181_260, s181_261, s181_264, s181_265, s181_266, s181_267, s181_270, s181_271, s181_274, s181_275, s181_276, s181_277, s181_278, s181_279, nI_le2, nI_lt2, nI_eq2, nI_lt0, nI_0le, nI_0lt, nI_le0, nI_eq0, nI_clamp, nI_add, bu_nI, bb_0, bb_1, rf_s, rf_n, tl_s, tl_n, am_th_some, if_true, if_false, sI_eq, uI_eq, and_self, true_and, and_true, not_false_eq_true, not_true_eq_false, Nat.reduceEqDiff, Nat.reduceLeDiff, Nat.reduceLT, Nat.reduceAdd, Nat.reduceMul, Nat.reduceSub, Nat.zero_add, g4, hne]
      exact g5
    · have h4 := k4 rfl
      have hlT := hlC rfl
      obtain ⟨J5, g5, f5, k5, m5⟩ := hq rfl (d + 4) J4 R Q n kk C0.length (C0 ++ T) (by omega) hr hn hkk h4 (by rw [List.length_append]; omega) h464 h474
      refine ⟨J5, ?_, fr_tr f04 f5, fun w => ?_, m5⟩
      · simp (disch := first | omega | assumption) only [s181_0, s181_3, s181_4, s181_7, s181_8, s181_9, s181_12, s181_13, s181_16, s181_17, s181_18, s181_19, s181_20, s181_23, s181_24, s181_27, s181_28, s181_31, s181_33, s181_36, s181_37, s181_40, s181_41, s181_42, s181_45, s181_46, s181_47, s181_50, s181_51, s181_54, s181_55, s181_58, s181_59, s181_62, s181_64, s181_67, s181_68, s181_71, s181_72, s181_73, s181_76, s181_77, s181_78, s181_81, s181_82, s181_85, s181_86, s181_89, s181_90, s181_91, s181_94, s181_95, s181_96, s181_99, s181_100, s181_103, s181_104, s181_105, s181_106, s181_109, s181_111, s181_114, s181_115, s181_118, s181_120, s181_123, s181_124, s181_127, s181_128, s181_129, s181_130, s181_133, s181_134, s181_137, s181_140, s181_141, s181_144, s181_145, s181_148, s181_149, s181_152, s181_153, s181_156, s181_159, s181_162, s181_163, s181_166, s181_167, s181_168, s181_169, s181_172, s181_173, s181_176, s181_177, s181_180, s181_181, s181_185, s181_188, s181_189, s181_190, s181_193, s181_194, s181_195, s181_196, s181_197, s181_200, s181_201, s181_204, s181_205, s181_208, s181_209, s181_212, s181_214, s181_217, s181_218, s181_221, s181_222, s181_223, s181_224, s181_227, s181_228, s181_229, s181_232, s181_233, s181_236, s181_237, s181_238, s181_241, s181_242, s181_245, s181_246, s181_247, s181_248, s181_251, s181_252, s181_255, s181_256, s181_257, s181_260, s181_261, s181_264, s181_265, s181_266, s181_267, s181_270, s181_271, s181_274, s181_275, s181_276, s181_277, s181_278, s181_279, nI_le2, nI_lt2, nI_eq2, nI_lt0, nI_0le, nI_0lt, nI_le0, nI_eq0, nI_clamp, nI_add, bu_nI, bb_0, bb_1, rf_s, rf_n, tl_s, tl_n, am_th_some, if_true, if_false, sI_eq, uI_eq, and_self, true_and, and_true, not_false_eq_true, not_true_eq_false, Nat.reduceEqDiff, Nat.reduceLeDiff, Nat.reduceLT, Nat.reduceAdd, Nat.reduceMul, Nat.reduceSub, Nat.zero_add, g4, hne]
        exact g5
      · obtain ⟨p1, p2, p3, p4, p5⟩ := k5 w
        rw [if_neg (by decide), List.length_append] at p4
        rw [List.length_append] at p5
        rw [List.append_assoc] at p1
        exact ⟨p1, p2, p3, p4, p5⟩
  rcases zi_1.mp e with e1 | e1
  · have q1 := (hm_eq (a := sp_sk L B a) (x := 33) hk (by decide) (by decide)).trans (eq_true e1)
    obtain ⟨J, g, r⟩ := key J1 f1 h1
    refine ⟨J, ?_, r⟩
    simp (disch := first | omega | assumption) only [s181_0, s181_3, s181_4, s181_7, s181_8, s181_9, s181_12, s181_13, s181_16, s181_17, s181_18, s181_19, s181_20, s181_23, s181_24, s181_27, s181_28, s181_31, s181_33, s181_36, s181_37, s181_40, s181_41, s181_42, s181_45, s181_46, s181_47, s181_50, s181_51, s181_54, s181_55, s181_58, s181_59, s181_62, s181_64, s181_67, s181_68, s181_71, s181_72, s181_73, s181_76, s181_77, s181_78, s181_81, s181_82, s181_85, s181_86, s181_89, s181_90, s181_91, s181_94, s181_95, s181_96, s181_99, s181_100, s181_103, s181_104, s181_105, s181_106, s181_109, s181_111, s181_114, s181_115, s181_118, s181_120, s181_123, s181_124, s181_127, s181_128, s181_130, s181_133, s181_134, s181_137, s181_140, s181_141, s181_144, s181_145, s181_148, s181_149, s181_152, s181_153, s181_156, s181_159, s181_162, s181_163, s181_166, s181_167, s181_168, s181_169, s181_172, s181_173, s181_176, s181_177, s181_180, s181_181, s181_184, s181_185, s181_188, s181_189, s181_190, s181_193, s181_194, s181_195, s181_196, s181_197, s181_200, s181_201, s181_204, s181_205, s181_208, s181_209, s181_212, s181_214, s181_217, s181_218, s181_221, s181_222, s181_223, s181_224, s181_227, s181_228, s181_229, s181_232, s181_233, s181_236, s181_237, s181_238, s181_241, s181_242, s181_245, s181_246, s181_247, s181_248, s181_251, s181_252, s181_255, s181_256, s181_257, s181_260, s181_261, s181_264, s181_265, s181_266, s181_267, s181_270, s181_271, s181_274, s181_275, s181_276, s181_277, s181_278, s181_279, nI_le2, nI_lt2, nI_eq2, nI_lt0, nI_0le, nI_0lt, nI_le0, nI_eq0, nI_clamp, nI_add, bu_nI, bb_0, bb_1, rf_s, rf_n, tl_s, tl_n, am_th_some, if_true, if_false, sI_eq, uI_eq, and_self, true_and, and_true, not_false_eq_true, not_true_eq_false, Nat.reduceEqDiff, Nat.reduceLeDiff, Nat.reduceLT, Nat.reduceAdd, Nat.reduceMul, Nat.reduceSub, Nat.zero_add, r8, r10, ht, h45, e0, g1, q1, hk']
    exact g
  · have q1 := (hm_eq (a := sp_sk L B a) (x := 33) hk (by decide) (by decide)).trans (eq_false (by rw [e1]; decide))
    have q2 := (hm_eq (a := sp_sk L B a) (x := 40) hk (by decide) (by decide)).trans (eq_true e1)
    obtain ⟨J, g, r⟩ := key J2 (fr_tr f1 f2) h2
    refine ⟨J, ?_, r⟩
    simp (disch := first | omega | assumption) only [s181_0, s181_3, s181_4, s181_7, s181_8, s181_9, s181_12, s181_13, s181_16, s181_17, s181_18, s181_19, s181_20, s181_23, s181_24, s181_27, s181_28, s181_31, s181_33, s181_36, s181_37, s181_40, s181_41, s181_42, s181_45, s181_46, s181_47, s181_50, s181_51, s181_54, s181_55, s181_58, s181_59, s181_62, s181_64, s181_67, s181_68, s181_71, s181_72, s181_73, s181_76, s181_77, s181_78, s181_81, s181_82, s181_85, s181_86, s181_89, s181_90, s181_91, s181_94, s181_95, s181_96, s181_99, s181_100, s181_103, s181_104, s181_105, s181_106, s181_109, s181_111, s181_114, s181_115, s181_118, s181_120, s181_123, s181_124, s181_127, s181_128, s181_130, s181_133, s181_134, s181_137, s181_140, s181_141, s181_144, s181_145, s181_148, s181_149, s181_152, s181_153, s181_156, s181_159, s181_162, s181_163, s181_166, s181_167, s181_168, s181_169, s181_172, s181_173, s181_176, s181_177, s181_180, s181_181, s181_184, s181_185, s181_188, s181_189, s181_190, s181_193, s181_194, s181_195, s181_196, s181_197, s181_200, s181_201, s181_204, s181_205, s181_208, s181_209, s181_212, s181_214, s181_217, s181_218, s181_221, s181_222, s181_223, s181_224, s181_227, s181_228, s181_229, s181_232, s181_233, s181_236, s181_237, s181_238, s181_241, s181_242, s181_245, s181_246, s181_247, s181_248, s181_251, s181_252, s181_255, s181_256, s181_257, s181_260, s181_261, s181_264, s181_265, s181_266, s181_267, s181_270, s181_271, s181_274, s181_275, s181_276, s181_277, s181_278, s181_279, nI_le2, nI_lt2, nI_eq2, nI_lt0, nI_0le, nI_0lt, nI_le0, nI_eq0, nI_clamp, nI_add, bu_nI, bb_0, bb_1, rf_s, rf_n, tl_s, tl_n, am_th_some, if_true, if_false, sI_eq, uI_eq, and_self, true_and, and_true, not_false_eq_true, not_true_eq_false, Nat.reduceEqDiff, Nat.reduceLeDiff, Nat.reduceLT, Nat.reduceAdd, Nat.reduceMul, Nat.reduceSub, Nat.zero_add, r8, r10, ht, h45, e0, g1, g2, q1, q2, hk']
    exact g
/-- the same, where a SUM comes first: up to the SUM's end -/
theorem zm_eS {d n kk : Nat} {I : am_I} {R : am_R} {Q : am_Q} {C0 : List Nat} (hk : tp_ok L B) (haL : a ≤ L) (e : ¬ sp_in 1 (sp_hr L B (sp_sk L B a))) (hi : zm_K L B 60 174 0 (sp_sk L B a) ok1 a1 C1) (hN : 64 ≤ d + 4) (hr : mm_R R) (hn : n < 5) (hkk : kk < 140) (h : zm_at I L B n a 0 C0) (hl : C0.length ≤ a) (h46 : I 46 0 n = nI kk) : ∃ (J4 : am_I) (C4 : List Nat), am_ev (d + 4) 181 90 [.ref (am_mk 12 0), .int (nI (140 * n + kk)), am_J] [] I R Q = am_ev (d + 4) 181 144 [.ref (am_mk 12 0), .int (nI (140 * n + kk)), .int (nI 0)] [] J4 R Q ∧ am_fr (zn_S n (140 * n + kk)) I J4 ∧ J4 46 0 n = nI kk ∧ J4 47 0 (140 * n + kk) = nI C0.length ∧ (ok1 = true → zm_at J4 L B n a1 0 (C0 ++ C1)) ∧ (ok1 = false → zf_at J4 n C4 ∧ J4 12 0 4 = nI a1) := by
  have hs := sk_L (B := B) haL
  have hL := hk.1
  have r8 := mr8 hr
  have r10 := mr10 hr
  have hk' : 140 * n + kk < 700 := by omega
  have hne : ((nI 1 : Int32) = 0) = False := by decide
  have ht := h.2.2.2.2.1
  have h45 := h.2.2.2.2.2.1
  obtain ⟨X0, e0, f0, v0, o0⟩ := zs_4 I 47 (140 * n + kk) (nI C0.length) n (140 * n + kk) (by omega)
  have h0 := zm_fr0 h f0
  obtain ⟨J1, g1, f1, h1⟩ := zm_look (d := d + 2) (Q := Q) hr hk h0 haL
  obtain ⟨J2, g2, f2, h2⟩ := zm_look (d := d + 2) (Q := Q) hr hk h1 hs.2
  rw [sk_sk] at g2 h2
  have fK := fr_tr f1 f2
  obtain ⟨J4, C4, g4, f4, k4, m4⟩ := hi (d + 3) J2 R Q n C0 (by omega) hr hn h2 (by omega)
  have q1 := (hm_eq (a := sp_sk L B a) (x := 33) hk (by decide) (by decide)).trans (eq_false (fun w => e (zi_1.mpr (Or.inl w))))
  have q2 := (hm_eq (a := sp_sk L B a) (x := 40) hk (by decide) (by decide)).trans (eq_false (fun w => e (zi_1.mpr (Or.inr w))))
  refine ⟨J4, C4, ?_, fr_tr (fr_tr (zn_4m f0) (zn_m fK)) (zn_m f4), (zm_4e f4 46 n (by decide)).trans ((zm_4e fK 46 n (by decide)).trans ((o0 46 n (by decide)).trans h46)), (zm_4e f4 47 _ (by decide)).trans ((zm_4e fK 47 _ (by decide)).trans v0), k4, fun w => ⟨(m4 w).1, (m4 w).2.1⟩⟩
  simp (disch := first | omega | assumption) only [s181_0, s181_3, s181_4, s181_7, s181_8, s181_9, s181_12, s181_13, s181_16, s181_17, s181_18, s181_19, s181_20, s181_23, s181_24, s181_27, s181_28, s181_31, s181_33, s181_36, s181_37, s181_40, s181_41, s181_42, s181_45, s181_46, s181_47, s181_50, s181_51, s181_54, s181_55, s181_58, s181_59, s181_62, s181_64, s181_67, s181_68, s181_71, s181_72, s181_73, s181_76, s181_77, s181_78, s181_81, s181_82, s181_85, s181_86, s181_89, s181_90, s181_91, s181_94, s181_95, s181_96, s181_99, s181_100, s181_103, s181_104, s181_105, s181_106, s181_109, s181_111, s181_114, s181_115, s181_118, s181_120, s181_123, s181_124, s181_127, s181_128, s181_129, s181_130, s181_133, s181_134, s181_137, s181_140, s181_141, s181_145, s181_148, s181_149, s181_152, s181_153, s181_156, s181_159, s181_162, s181_163, s181_166, s181_167, s181_168, s181_169, s181_172, s181_173, s181_176, s181_177, s181_180, s181_181, s181_184, s181_185, s181_188, s181_189, s181_190, s181_193, s181_194, s181_195, s181_196, s181_197, s181_200, s181_201, s181_204, s181_205, s181_208, s181_209, s181_212, s181_214, s181_217, s181_218, s181_221, s181_222, s181_223, s181_224, s181_227, s181_228, s181_229, s181_232, s181_233, s181_236, s181_237, s181_238, s181_241, s181_242, s181_245, s181_246, s181_247, s181_248, s181_251, s181_252, s181_255, s181_256, s181_257, s181_260, s181_261, s181_264, s181_265, s181_266, s181_267, s181_270, s181_271, s181_274, s181_275, s181_276, s181_277, s181_278, s181_279, nI_le2, nI_lt2, nI_eq2, nI_lt0, nI_0le, nI_0lt, nI_le0, nI_eq0, nI_clamp, nI_add, bu_nI, bb_0, bb_1, rf_s, rf_n, tl_s, tl_n, am_th_some, if_true, if_false, sI_eq, uI_eq, and_self, true_and, and_true, not_false_eq_true, not_true_eq_false, Nat.reduceEqDiff, Nat.reduceLeDiff, Nat.reduceLT, Nat.reduceAdd, Nat.reduceMul, Nat.reduceSub, Nat.zero_add, r8, r10, ht, h45, e0, g1, g2, q1, q2, hk', g4]
theorem zm_eSumBad (hk : tp_ok L B) (haL : a ≤ L) (ha1 : a1 ≤ L) (e : ¬ sp_in 1 (sp_hr L B (sp_sk L B a))) (hi : zm_K L B 60 174 0 (sp_sk L B a) false a1 C1) : zm_E L B a false a1 [] [] := by
  intro d I R Q n kk C0 hN hr hn hkk h hl h46
  obtain ⟨d, rfl⟩ : ∃ q, d = q + 4 := ⟨d - 4, by omega⟩
  have hL := hk.1
  obtain ⟨J4, C4, g4, f4, i4, j4, -, m4⟩ := zm_eS (d := d) (Q := Q) hk haL e hi hN hr hn hkk h hl h46
  obtain ⟨z1, z2⟩ := m4 rfl
  have q : ¬ nI a1 = -nI 1 := m1_ne (by omega)
  obtain ⟨J5, g5, f5, w5⟩ := zm_w0 (d := d + 4) (Q := Q) (il := nI 0) (k := 140 * n + kk) hr hn (by omega) z1.1 z2 (by omega)
  refine ⟨J5, ?_, fr_tr f4 (zn_4m f5), fa_f, fun _ => w5⟩
  rw [g4]
  simp (disch := first | omega | assumption) only [s181_0, s181_3, s181_4, s181_7, s181_8, s181_9, s181_12, s181_13, s181_16, s181_17, s181_18, s181_19, s181_20, s181_23, s181_24, s181_27, s181_28, s181_31, s181_33, s181_36, s181_37, s181_40, s181_41, s181_42, s181_45, s181_46, s181_47, s181_50, s181_51, s181_54, s181_55, s181_58, s181_59, s181_62, s181_64, s181_67, s181_68, s181_71, s181_72, s181_73, s181_76, s181_77, s181_78, s181_81, s181_82, s181_85, s181_86, s181_89, s181_90, s181_91, s181_94, s181_95, s181_96, s181_99, s181_100, s181_103, s181_104, s181_105, s181_106, s181_109, s181_111, s181_114, s181_115, s181_118, s181_120, s181_123, s181_124, s181_127, s181_128, s181_129, s181_130, s181_133, s181_134, s181_137, s181_140, s181_141, s181_144, s181_145, s181_148, s181_149, s181_152, s181_153, s181_156, s181_159, s181_162, s181_163, s181_166, s181_167, s181_168, s181_169, s181_172, s181_173, s181_176, s181_177, s181_180, s181_181, s181_185, s181_188, s181_189, s181_190, s181_193, s181_194, s181_195, s181_196, s181_197, s181_200, s181_201, s181_204, s181_205, s181_208, s181_209, s181_212, s181_214, s181_217, s181_218, s181_221, s181_222, s181_223, s181_224, s181_227, s181_228, s181_229, s181_232, s181_233, s181_236, s181_237, s181_238, s181_241, s181_242, s181_245, s181_246, s181_247, s181_248, s181_251, s181_252, s181_255, s181_256, s181_257, s181_260, s181_261, s181_264, s181_265, s181_266, s181_267, s181_270, s181_271, s181_274, s181_275, s181_276, s181_277, s181_278, s181_279, nI_le2, nI_lt2, nI_eq2, nI_lt0, nI_0le, nI_0lt, nI_le0, nI_eq0, nI_clamp, nI_add, bu_nI, bb_0, bb_1, rf_s, rf_n, tl_s, tl_n, am_th_some, if_true, if_false, sI_eq, uI_eq, and_self, true_and, and_true, not_false_eq_true, not_true_eq_false, Nat.reduceEqDiff, Nat.reduceLeDiff, Nat.reduceLT, Nat.reduceAdd, Nat.reduceMul, Nat.reduceSub, Nat.zero_add, z2, q]
  exact g5
theorem zm_eSum (hk : tp_ok L B) (haL : a ≤ L) (ha1 : a1 ≤ L) (hlC : C1.length + sp_sk L B a ≤ a1) (e : ¬ sp_in 1 (sp_hr L B (sp_sk L B a))) (hi : zm_K L B 60 174 0 (sp_sk L B a) true a1 C1) (e2 : ¬ sp_in 2 (sp_hr L B (sp_sk L B a1))) : zm_E L B a true (sp_sk L B a1) [] C1 := by
  intro d I R Q n kk C0 hN hr hn hkk h hl h46
  obtain ⟨d, rfl⟩ : ∃ q, d = q + 4 := ⟨d - 4, by omega⟩
  have hs := sk_L (B := B) haL
  have hs1 := sk_L (B := B) ha1
  obtain ⟨J4, C4, g4, f4, i4, j4, k4, -⟩ := zm_eS (d := d) (Q := Q) hk haL e hi hN hr hn hkk h hl h46
  have h4 := k4 rfl
  have hw4 := h4.2.2.1
  obtain ⟨J2, g2, f2, h2⟩ := zm_look (d := d + 2) (Q := Q) hr hk h4 ha1
  have gs := m_isSign (d := d + 3) (a := sp_sk L B a1) (I := J2) (R := R) (Q := Q) hk
  rw [if_neg e2] at gs
  obtain ⟨J5, g5, f5, k5, m5⟩ := zm_q5 (d + 4) J2 R Q n kk C0.length (C0 ++ C1) (by omega) hr hn hkk h2 (by rw [List.length_append]; omega) ((zm_4e f2 46 n (by decide)).trans i4) ((zm_4e f2 47 _ (by decide)).trans j4)
  refine ⟨J5, ?_, fr_tr (fr_tr f4 (zn_m f2)) f5, fun w => ?_, fa_t⟩
  · rw [g4]
    simp (disch := first | omega | assumption) only [s181_0, s181_3, s181_4, s181_7, s181_8, s181_9, s181_12, s181_13, s181_16, s181_17, s181_18, s181_19, s181_20, s181_23, s181_24, s181_27, s181_28, s181_31, s181_33, s181_36, s181_37, s181_40, s181_41, s181_42, s181_45, s181_46, s181_47, s181_50, s181_51, s181_54, s181_55, s181_58, s181_59, s181_62, s181_64, s181_67, s181_68, s181_71, s181_72, s181_73, s181_76, s181_77, s181_78, s181_81, s181_82, s181_85, s181_86, s181_89, s181_90, s181_91, s181_94, s181_95, s181_96, s181_99, s181_100, s181_103, s181_104, s181_105, s181_106, s181_109, s181_111, s181_114, s181_115, s181_118, s181_120, s181_123, s181_124, s181_127, s181_128, s181_129, s181_130, s181_133, s181_134, s181_137, s181_140, s181_141, s181_144, s181_145, s181_148, s181_149, s181_152, s181_153, s181_156, s181_159, s181_162, s181_163, s181_166, s181_167, s181_168, s181_169, s181_172, s181_173, s181_176, s181_177, s181_180, s181_181, s181_185, s181_188, s181_189, s181_190, s181_193, s181_194, s181_195, s181_196, s181_197, s181_200, s181_201, s181_204, s181_205, s181_208, s181_209, s181_212, s181_214, s181_217, s181_218, s181_221, s181_222, s181_223, s181_224, s181_227, s181_228, s181_229, s181_232, s181_233, s181_236, s181_237, s181_238, s181_241, s181_242, s181_245, s181_246, s181_247, s181_248, s181_251, s181_252, s181_255, s181_256, s181_257, s181_260, s181_261, s181_264, s181_265, s181_266, s181_267, s181_270, s181_271, s181_274, s181_275, s181_276, s181_277, s181_278, s181_279, nI_le2, nI_lt2, nI_eq2, nI_lt0, nI_0le, nI_0lt, nI_le0, nI_eq0, nI_clamp, nI_add, bu_nI, bb_0, bb_1, rf_s, rf_n, tl_s, tl_n, am_th_some, if_true, if_false, sI_eq, uI_eq, and_self, true_and, and_true, not_false_eq_true, not_true_eq_false, Nat.reduceEqDiff, Nat.reduceLeDiff, Nat.reduceLT, Nat.reduceAdd, Nat.reduceMul, Nat.reduceSub, Nat.zero_add, hw4, g2, gs]
    exact g5
  · obtain ⟨p1, p2, p3, p4, p5⟩ := k5 rfl
    rw [List.append_nil] at p1
    rw [if_pos rfl] at p4
    rw [List.length_append] at p5
    exact ⟨p1, p2, p3, p4, p5⟩
theorem zm_eCmp (hk : tp_ok L B) (haL : a ≤ L) (ha1 : a1 ≤ L) (ha2 : a2 ≤ L) (hlC : C1.length + sp_sk L B a ≤ a1) (hlD : ok2 = true → D.length + sp_sk L B a1 ≤ a2) (e : ¬ sp_in 1 (sp_hr L B (sp_sk L B a))) (hi : zm_K L B 60 174 0 (sp_sk L B a) true a1 C1) (e2 : sp_in 2 (sp_hr L B (sp_sk L B a1))) (hd : zm_U L B 60 0 (sp_sk L B a1) ok2 a2 D) (hq : ok2 = true → zm_Q L B (nI 1) a2 ok' a' U) (hf : ok2 = false → ok' = false ∧ a' = a2) : zm_E L B a ok' a' (C1 ++ D) U := by
  intro d I R Q n kk C0 hN hr hn hkk h hl h46
  obtain ⟨d, rfl⟩ : ∃ q, d = q + 4 := ⟨d - 4, by omega⟩
  have hL := hk.1
  have hs := sk_L (B := B) haL
  have hs1 := sk_L (B := B) ha1
  have hne : ((nI 1 : Int32) = 0) = False := by decide
  obtain ⟨J4, C4, g4, f4, i4, j4, k4, -⟩ := zm_eS (d := d) (Q := Q) hk haL e hi hN hr hn hkk h hl h46
  have h4 := k4 rfl
  have hw4 := h4.2.2.1
  obtain ⟨J2, g2, f2, h2⟩ := zm_look (d := d + 2) (Q := Q) hr hk h4 ha1
  have gs := m_isSign (d := d + 3) (a := sp_sk L B a1) (I := J2) (R := R) (Q := Q) hk
  rw [if_pos e2] at gs
  obtain ⟨K1, K2, J6, C6, g6, g7, g8, f6, k6, m6⟩ := hd (d + 3) J2 R Q n (C0 ++ C1) (by omega) hr hn h2 (by rw [List.length_append]; omega)
  have i6 : J6 46 0 n = nI kk := (zm_4e f6 46 n (by decide)).trans ((zm_4e f2 46 n (by decide)).trans i4)
  have j6 : J6 47 0 (140 * n + kk) = nI C0.length := (zm_4e f6 47 _ (by decide)).trans ((zm_4e f2 47 _ (by decide)).trans j4)
  have f06 := fr_tr (fr_tr f4 (zn_m f2)) (zn_m f6)
  cases ok2
  · obtain ⟨rfl, rfl⟩ := hf rfl
    obtain ⟨z1, z2, z3⟩ := m6 rfl
    obtain ⟨J5, g5, f5, w5⟩ := zm_w0 (d := d + 4) (Q := Q) (il := nI 1) (k := 140 * n + kk) hr hn (by omega) z1.1 z2 (by omega)
    refine ⟨J5, ?_, fr_tr f06 (zn_4m f5), fa_f, fun _ => w5⟩
    rw [g4]
    simp (disch := first | omega | assumption) only [s181_0, s181_3, s181_4, s181_7, s181_8, s181_9, s181_12, s181_13, s181_16, s181_17, s181_18, s181_19, s181_20, s181_23, s181_24, s181_27, s181_28, s181_31, s181_33, s181_36, s181_37, s181_40, s181_41, s181_42, s181_45, s181_46, s181_47, s181_50, s181_51, s181_54, s181_55, s181_58, s181_59, s181_62, s181_64, s181_67, s181_68, s181_71, s181_72, s181_73, s181_76, s181_77, s181_78, s181_81, s181_82, s181_85, s181_86, s181_89, s181_90, s181_91, s181_94, s181_95, s181_96, s181_99, s181_100, s181_103, s181_104, s181_105, s181_106, s181_109, s181_111, s181_114, s181_115, s181_118, s181_120, s181_123, s181_124, s181_127, s181_128, s181_129, s181_130, s181_133, s181_134, s181_137, s181_140, s181_141, s181_144, s181_145, s181_148, s181_149, s181_152, s181_153, s181_156, s181_159, s181_162, s181_163, s181_166, s181_167, s181_168, s181_169, s181_172, s181_173, s181_176, s181_177, s181_180, s181_181, s181_185, s181_188, s181_189, s181_190, s181_193, s181_194, s181_195, s181_196, s181_197, s181_200, s181_201, s181_204, s181_205, s181_208, s181_209, s181_212, s181_214, s181_217, s181_218, s181_221, s181_222, s181_223, s181_224, s181_227, s181_228, s181_229, s181_232, s181_233, s181_236, s181_237, s181_238, s181_241, s181_242, s181_245, s181_246, s181_247, s181_248, s181_251, s181_252, s181_255, s181_256, s181_257, s181_260, s181_261, s181_264, s181_265, s181_266, s181_267, s181_270, s181_271, s181_274, s181_275, s181_276, s181_277, s181_278, s181_279, nI_le2, nI_lt2, nI_eq2, nI_lt0, nI_0le, nI_0lt, nI_le0, nI_eq0, nI_clamp, nI_add, bu_nI, bb_0, bb_1, rf_s, rf_n, tl_s, tl_n, am_th_some, if_true, if_false, sI_eq, uI_eq, and_self, true_and, and_true, not_false_eq_true, not_true_eq_false, Nat.reduceEqDiff, Nat.reduceLeDiff, Nat.reduceLT, Nat.reduceAdd, Nat.reduceMul, Nat.reduceSub, Nat.zero_add, hw4, g2, gs, hne, g6, g7, g8]
    exact g5
  · have h6 := k6 rfl
    have hlT := hlD rfl
    obtain ⟨J5, g5, f5, k5, m5⟩ := hq rfl (d + 4) J6 R Q n kk C0.length (C0 ++ C1 ++ D) (by omega) hr hn hkk h6 (by rw [List.length_append, List.length_append]; omega) i6 j6
    refine ⟨J5, ?_, fr_tr f06 f5, fun w => ?_, m5⟩
    · rw [g4]
      simp (disch := first | omega | assumption) only [s181_0, s181_3, s181_4, s181_7, s181_8, s181_9, s181_12, s181_13, s181_16, s181_17, s181_18, s181_19, s181_20, s181_23, s181_24, s181_27, s181_28, s181_31, s181_33, s181_36, s181_37, s181_40, s181_41, s181_42, s181_45, s181_46, s181_47, s181_50, s181_51, s181_54, s181_55, s181_58, s181_59, s181_62, s181_64, s181_67, s181_68, s181_71, s181_72, s181_73, s181_76, s181_77, s181_78, s181_81, s181_82, s181_85, s181_86, s181_89, s181_90, s181_91, s181_94, s181_95, s181_96, s181_99, s181_100, s181_103, s181_104, s181_105, s181_106, s181_109, s181_111, s181_114, s181_115, s181_118, s181_120, s181_123, s181_124, s181_127, s181_128, s181_129, s181_130, s181_133, s181_134, s181_137, s181_140, s181_141, s181_144, s181_145, s181_148, s181_149, s181_152, s181_153, s181_156, s181_159, s181_162, s181_163, s181_166, s181_167, s181_168, s181_169, s181_172, s181_173, s181_176, s181_177, s181_180, s181_181, s181_185, s181_188, s181_189, s181_190, s181_193, s181_194, s181_195, s181_196, s181_197, s181_200, s181_201, s181_204, s181_205, s181_208, s181_209, s181_212, s181_214, s181_217, s181_218, s181_221, s181_222, s181_223, s181_224, s181_227, s181_228, s181_229, s181_232, s181_233, s181_236, s181_237, s181_238, s181_241, s181_242, s181_245, s181_246, s181_247, s181_248, s181_251, s181_252, s181_255, s181_256, s181_257, s181_260, s181_261, s181_264, s181_265, s181_266, s181_267, s181_270, s181_271, s181_274, s181_275, s181_276, s181_277, s181_278, s181_279, nI_le2, nI_lt2, nI_eq2, nI_lt0, nI_0le, nI_0lt, nI_le0, nI_eq0, nI_clamp, nI_add, bu_nI, bb_0, bb_1, rf_s, rf_n, tl_s, tl_n, am_th_some, if_true, if_false, sI_eq, uI_eq, and_self, true_and, and_true, not_false_eq_true, not_true_eq_false, Nat.reduceEqDiff, Nat.reduceLeDiff, Nat.reduceLT, Nat.reduceAdd, Nat.reduceMul, Nat.reduceSub, Nat.zero_add, hw4, g2, gs, hne, g6, g7, g8]
      exact g5
    · obtain ⟨p1, p2, p3, p4, p5⟩ := k5 w
      rw [if_neg (by decide), List.length_append, List.length_append] at p4
      rw [List.length_append, List.length_append] at p5
      rw [List.append_assoc, List.append_assoc, ← List.append_assoc C1 D U] at p1
      rw [List.length_append, ← Nat.add_assoc]
      exact ⟨p1, p2, p3, p4, p5⟩
theorem zm_yA (hk : tp_ok L B) (haL : a ≤ L) (e : ¬ sp_hr L B (sp_sk L B a) = 121) : zm_C L B a false (sp_sk L B a) [] [] := by
  intro d I R Q n kk C0 hN hr hn hkk h hl h46
  obtain ⟨d, rfl⟩ : ∃ q, d = q + 4 := ⟨d - 4, by omega⟩
  have hs := sk_L (B := B) haL
  have hL := hk.1
  have r9 := mr9 hr
  have hw0 := h.2.2.1
  have ht := h.2.2.2.2.1
  obtain ⟨J1, g1, f1, h1⟩ := zm_look (d := d + 2) (Q := Q) hr hk h haL
  have q1 := (hm_eq (a := sp_sk L B a) (x := 121) hk (by decide) (by decide)).trans (eq_false e)
  obtain ⟨J2, g2, f2, h2, w2⟩ := zm_bad (d := d + 3) (R := R) (Q := Q) h1
  have q : ¬ nI (sp_sk L B a) = -nI 1 := m1_ne (by omega)
  obtain ⟨f3, h3, w3⟩ := zf_3 (x := J2 12 0 3 + nI 1) h2
  obtain ⟨f4, h4, w4⟩ := zf_3 (x := (am_sI J2 12 0 (am_uI (J2 12 0) 3 (J2 12 0 3 + nI 1))) 12 0 3 + nI 1) h3
  refine ⟨_, ?_, zn_m (fr_tr (fr_tr (fr_tr f1 f2) f3) f4), fa_f, fun _ => w4.trans (w3.trans w2)⟩
  rw [s181]
  simp (disch := first | omega | assumption) only [s181_0, s181_3, s181_4, s181_7, s181_8, s181_9, s181_12, s181_13, s181_16, s181_17, s181_18, s181_19, s181_20, s181_23, s181_24, s181_27, s181_28, s181_31, s181_33, s181_36, s181_37, s181_40, s181_41, s181_42, s181_45, s181_46, s181_47, s181_50, s181_51, s181_54, s181_55, s181_58, s181_59, s181_62, s181_64, s181_67, s181_68, s181_71, s181_72, s181_73, s181_76, s181_77, s181_78, s181_81, s181_82, s181_85, s181_86, s181_89, s181_90, s181_91, s181_94, s181_95, s181_96, s181_99, s181_100, s181_103, s181_104, s181_105, s181_106, s181_109, s181_111, s181_114, s181_115, s181_118, s181_120, s181_123, s181_124, s181_127, s181_128, s181_129, s181_130, s181_133, s181_134, s181_137, s181_140, s181_141, s181_144, s181_145, s181_148, s181_149, s181_152, s181_153, s181_156, s181_159, s181_162, s181_163, s181_166, s181_167, s181_168, s181_169, s181_172, s181_173, s181_176, s181_177, s181_180, s181_181, s181_184, s181_185, s181_188, s181_189, s181_190, s181_193, s181_194, s181_195, s181_196, s181_197, s181_200, s181_201, s181_204, s181_205, s181_208, s181_209, s181_212, s181_214, s181_217, s181_218, s181_221, s181_222, s181_223, s181_224, s181_227, s181_228, s181_229, s181_232, s181_233, s181_236, s181_237, s181_238, s181_241, s181_242, s181_245, s181_246, s181_247, s181_248, s181_251, s181_252, s181_255, s181_256, s181_257, s181_260, s181_261, s181_264, s181_265, s181_266, s181_267, s181_270, s181_271, s181_274, s181_275, s181_276, s181_277, s181_278, s181_279, nI_le2, nI_lt2, nI_eq2, nI_lt0, nI_0le, nI_0lt, nI_le0, nI_eq0, nI_clamp, nI_add, bu_nI, bb_0, bb_1, rf_s, rf_n, tl_s, tl_n, am_th_some, if_true, if_false, sI_eq, uI_eq, and_self, true_and, and_true, not_false_eq_true, not_true_eq_false, Nat.reduceEqDiff, Nat.reduceLeDiff, Nat.reduceLT, Nat.reduceAdd, Nat.reduceMul, Nat.reduceSub, Nat.zero_add, r9, ht, h46, hw0, g1, q1, g2, w2, q, nI_mul, uI_ne]
theorem zm_yB (hk : tp_ok L B) (haL : a ≤ L) (e : sp_hr L B (sp_sk L B a) = 121) (e2 : ¬ sp_hr L B (sp_sk L B (sp_sk L B a + 1)) = 58) : zm_C L B a false (sp_sk L B (sp_sk L B a + 1)) [] [] := by
  intro d I R Q n kk C0 hN hr hn hkk h hl h46
  obtain ⟨d, rfl⟩ : ∃ q, d = q + 4 := ⟨d - 4, by omega⟩
  have hs := sk_L (B := B) haL
  have hlt := hr_ltx e (by decide)
  have hs2 := sk_L (B := B) (a := sp_sk L B a + 1) (L := L) (by omega)
  have hL := hk.1
  have r9 := mr9 hr
  have hw0 := h.2.2.1
  have ht := h.2.2.2.2.1
  obtain ⟨J1, g1, f1, h1⟩ := zm_look (d := d + 2) (Q := Q) hr hk h haL
  have h12 := h1.2.1
  have q1 := (hm_eq (a := sp_sk L B a) (x := 121) hk (by decide) (by decide)).trans (eq_true e)
  obtain ⟨X2, e2', f2, h2⟩ := zs_3 h1 (sp_sk L B a + 1)
  have hw2 := h2.2.2.1
  obtain ⟨J3, g3, f3, h3⟩ := zm_look (d := d + 2) (Q := Q) hr hk h2 (by omega)
  have q2 := (hm_eq (a := sp_sk L B (sp_sk L B a + 1)) (x := 58) hk (by decide) (by decide)).trans (eq_false e2)
  obtain ⟨J4, g4, f4, h4, w4⟩ := zm_bad (d := d + 3) (R := R) (Q := Q) h3
  have q : ¬ nI (sp_sk L B (sp_sk L B a + 1)) = -nI 1 := m1_ne (by omega)
  obtain ⟨f5, h5, w5⟩ := zf_3 (x := J4 12 0 3 + nI 1) h4
  refine ⟨_, ?_, zn_m (fr_tr (fr_tr (fr_tr (fr_tr f1 f2) f3) f4) f5), fa_f, fun _ => w5.trans w4⟩
  rw [s181]
  simp (disch := first | omega | assumption) only [s181_0, s181_3, s181_4, s181_7, s181_8, s181_9, s181_12, s181_13, s181_16, s181_17, s181_18, s181_19, s181_20, s181_23, s181_24, s181_27, s181_28, s181_31, s181_33, s181_36, s181_37, s181_40, s181_41, s181_42, s181_45, s181_46, s181_47, s181_50, s181_51, s181_54, s181_55, s181_58, s181_59, s181_62, s181_64, s181_67, s181_68, s181_71, s181_72, s181_73, s181_76, s181_77, s181_78, s181_81, s181_82, s181_85, s181_86, s181_89, s181_90, s181_91, s181_94, s181_95, s181_96, s181_99, s181_100, s181_103, s181_104, s181_105, s181_106, s181_109, s181_111, s181_114, s181_115, s181_118, s181_120, s181_123, s181_124, s181_127, s181_128, s181_129, s181_130, s181_133, s181_134, s181_137, s181_140, s181_141, s181_144, s181_145, s181_148, s181_149, s181_152, s181_153, s181_156, s181_159, s181_162, s181_163, s181_166, s181_167, s181_168, s181_169, s181_172, s181_173, s181_176, s181_177, s181_180, s181_181, s181_184, s181_185, s181_188, s181_189, s181_190, s181_193, s181_194, s181_195, s181_196, s181_197, s181_200, s181_201, s181_204, s181_205, s181_208, s181_209, s181_212, s181_214, s181_217, s181_218, s181_221, s181_222, s181_223, s181_224, s181_227, s181_228, s181_229, s181_232, s181_233, s181_236, s181_237, s181_238, s181_241, s181_242, s181_245, s181_246, s181_247, s181_248, s181_251, s181_252, s181_255, s181_256, s181_257, s181_260, s181_261, s181_264, s181_265, s181_266, s181_267, s181_270, s181_271, s181_274, s181_275, s181_276, s181_277, s181_278, s181_279, nI_le2, nI_lt2, nI_eq2, nI_lt0, nI_0le, nI_0lt, nI_le0, nI_eq0, nI_clamp, nI_add, bu_nI, bb_0, bb_1, rf_s, rf_n, tl_s, tl_n, am_th_some, if_true, if_false, sI_eq, uI_eq, and_self, true_and, and_true, not_false_eq_true, not_true_eq_false, Nat.reduceEqDiff, Nat.reduceLeDiff, Nat.reduceLT, Nat.reduceAdd, Nat.reduceMul, Nat.reduceSub, Nat.zero_add, r9, ht, h46, hw0, g1, q1, h12, e2', hw2, g3, q2, g4, w4, q, nI_mul, uI_ne]
theorem zm_yAll (hk : tp_ok L B) (haL : a ≤ L) (e : sp_hr L B (sp_sk L B a) = 121) (e2 : sp_hr L B (sp_sk L B (sp_sk L B a + 1)) = 58) (hq : zm_E L B (sp_sk L B (sp_sk L B a + 1) + 1) ok' a' T U) : zm_C L B a ok' a' T U := by
  intro d I R Q n kk C0 hN hr hn hkk h hl h46
  obtain ⟨d, rfl⟩ : ∃ q, d = q + 4 := ⟨d - 4, by omega⟩
  have hs := sk_L (B := B) haL
  have hlt := hr_ltx e (by decide)
  have hs2 := sk_L (B := B) (a := sp_sk L B a + 1) (L := L) (by omega)
  have hL := hk.1
  have r9 := mr9 hr
  have hw0 := h.2.2.1
  have ht := h.2.2.2.2.1
  obtain ⟨J1, g1, f1, h1⟩ := zm_look (d := d + 2) (Q := Q) hr hk h haL
  have h12 := h1.2.1
  have q1 := (hm_eq (a := sp_sk L B a) (x := 121) hk (by decide) (by decide)).trans (eq_true e)
  obtain ⟨X2, e2', f2, h2⟩ := zs_3 h1 (sp_sk L B a + 1)
  have hw2 := h2.2.2.1
  obtain ⟨J3, g3, f3, h3⟩ := zm_look (d := d + 2) (Q := Q) hr hk h2 (by omega)
  have h32 := h3.2.1
  have q2 := (hm_eq (a := sp_sk L B (sp_sk L B a + 1)) (x := 58) hk (by decide) (by decide)).trans (eq_true e2)
  obtain ⟨X4, e4, f4, h4⟩ := zs_3 h3 (sp_sk L B (sp_sk L B a + 1) + 1)
  have hw4 := h4.2.2.1
  have f04 := fr_tr (fr_tr (fr_tr f1 f2) f3) f4
  obtain ⟨J, g, f, r⟩ := hq (d + 4) X4 R Q n kk C0 (by omega) hr hn hkk h4 (by omega) ((zm_4e f04 46 n (by decide)).trans h46)
  refine ⟨J, ?_, fr_tr (zn_m f04) f, r⟩
  rw [s181]
  simp (disch := first | omega | assumption) only [s181_0, s181_3, s181_4, s181_7, s181_8, s181_9, s181_12, s181_13, s181_16, s181_17, s181_18, s181_19, s181_20, s181_23, s181_24, s181_27, s181_28, s181_31, s181_33, s181_36, s181_37, s181_40, s181_41, s181_42, s181_45, s181_46, s181_47, s181_50, s181_51, s181_54, s181_55, s181_58, s181_59, s181_62, s181_64, s181_67, s181_68, s181_71, s181_72, s181_73, s181_76, s181_77, s181_78, s181_81, s181_82, s181_85, s181_86, s181_89, s181_91, s181_94, s181_95, s181_96, s181_99, s181_100, s181_103, s181_104, s181_105, s181_106, s181_109, s181_111, s181_114, s181_115, s181_118, s181_120, s181_123, s181_124, s181_127, s181_128, s181_129, s181_130, s181_133, s181_134, s181_137, s181_140, s181_141, s181_144, s181_145, s181_148, s181_149, s181_152, s181_153, s181_156, s181_159, s181_162, s181_163, s181_166, s181_167, s181_168, s181_169, s181_172, s181_173, s181_176, s181_177, s181_180, s181_181, s181_184, s181_185, s181_188, s181_189, s181_190, s181_193, s181_194, s181_195, s181_196, s181_197, s181_200, s181_201, s181_204, s181_205, s181_208, s181_209, s181_212, s181_214, s181_217, s181_218, s181_221, s181_222, s181_223, s181_224, s181_227, s181_228, s181_229, s181_232, s181_233, s181_236, s181_237, s181_238, s181_241, s181_242, s181_245, s181_246, s181_247, s181_248, s181_251, s181_252, s181_255, s181_256, s181_257, s181_260, s181_261, s181_264, s181_265, s181_266, s181_267, s181_270, s181_271, s181_274, s181_275, s181_276, s181_277, s181_278, s181_279, nI_le2, nI_lt2, nI_eq2, nI_lt0, nI_0le, nI_0lt, nI_le0, nI_eq0, nI_clamp, nI_add, bu_nI, bb_0, bb_1, rf_s, rf_n, tl_s, tl_n, am_th_some, if_true, if_false, sI_eq, uI_eq, and_self, true_and, and_true, not_false_eq_true, not_true_eq_false, Nat.reduceEqDiff, Nat.reduceLeDiff, Nat.reduceLT, Nat.reduceAdd, Nat.reduceMul, Nat.reduceSub, Nat.zero_add, r9, ht, h46, hw0, g1, q1, h12, e2', hw2, g3, q2, h32, e4, hw4, nI_mul]
  exact g
end
