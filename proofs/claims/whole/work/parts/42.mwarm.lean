/-! The model: what FOOD gets. -/
theorem nI_and1 (t : Nat) : nI t &&& nI 1 = nI (t % 2) := by
  apply Int32.toBitVec_inj.mp
  show BitVec.ofNat 32 t &&& BitVec.ofNat 32 1 = BitVec.ofNat 32 (t % 2)
  apply BitVec.eq_of_toNat_eq
  rw [BitVec.toNat_and, BitVec.toNat_ofNat, BitVec.toNat_ofNat, BitVec.toNat_ofNat, show 1 % 2 ^ 32 = 1 from rfl, Nat.and_one_is_mod]
  omega
theorem nI_rem2 {t : Nat} (ht : t < 2 ^ 31) : nI t - nI t / nI 2 * nI 2 = nI (t % 2) := by
  rw [nI_div ht (by decide), nI_mul, nI_sub (by omega), show t - t / 2 * 2 = t % 2 by omega]
theorem uI_uI (f : Nat → Int32) (k : Nat) (x y : Int32) : am_uI (am_uI f k x) k y = am_uI f k y := by
  funext j
  unfold am_uI
  by_cases e : j = k
  · rw [if_pos e, if_pos e]
  · rw [if_neg e, if_neg e, if_neg e]
def mk_S : Nat → Nat → Nat → Prop := fun a _ j => (a = 60 ∧ j < 102) ∨ a = 62 ∨ a = 50 ∨ a = 51
def mk_V (G : (Nat → Int32) → Prop) (R : am_R) (Q : am_Q) (d : Nat) (I : am_I) (V : (Nat → Int32) → Int32) : Prop := (I 12 0 33 = -nI 1 ∧ V = sp_usual) ∨ ∃ hd, hd < 4 ∧ I 12 0 33 = nI hd ∧ ∀ J, am_fr mk_S I J → G (J 50 0) → ∃ K, am_cal d 188 [.ref (am_mk 12 0), .int (nI hd)] J R Q = some (some (.int (V (J 50 0))), K, R, Q) ∧ am_fr (fun a _ _ => a = 51) J K
theorem mk_V_fr {G : (Nat → Int32) → Prop} {R : am_R} {Q : am_Q} {d : Nat} {I J : am_I} {V : (Nat → Int32) → Int32} (h : mk_V G R Q d I V) (hf : am_fr mk_S I J) : mk_V G R Q d J V := by
  have e : J 12 0 33 = I 12 0 33 := hf _ _ _ (fun w => by unfold mk_S at w; omega)
  rcases h with ⟨h1, h2⟩ | ⟨hd, h0, h1, h2⟩
  · exact Or.inl ⟨e.trans h1, h2⟩
  · exact Or.inr ⟨hd, h0, e.trans h1, fun K hK => h2 K (fr_tr hf hK)⟩
/-- is the state of the plate so that both tell alike whether it TURNS now? -/
def pt_ok (P : Nat → Nat → Int32) : Prop := (P 4 2 = nI 0 ∨ P 4 2 = nI 1) ∧ ∃ t, t < 2 ^ 30 ∧ P 4 1 = nI t
section
variable {d n w h : Nat} {I : am_I} {R : am_R} {Q : am_Q} {P : Nat → Nat → Int32} {V : (Nat → Int32) → Int32} {pw : Int32} {G : (Nat → Int32) → Prop}
theorem m_gain (hr : mm_R R) (ho : mo_at I w h n) (hP : mm_at I P) (hn : P 4 0 = nI n) (hn2 : n ≤ 25) (hok : pt_ok P) (hV : mk_V G R Q (d + 3) I V) (hVc : ∀ f g : Nat → Int32, (∀ j, j < 6 → f j = g j) → V f = V g) {k : Nat} (hk : k < n) (hG : ∀ f : Nat → Int32, (∀ j, j < 6 → f j = sp_let (sp_B w h) (I 58 0) n pw P k j) → G f) : ∃ J, am_cal (d + 4) 214 [.ref (am_mk 12 0), .int (nI k), .int pw] I R Q = some (some (.int (sp_gain V (sp_B w h) (I 58 0) n pw P k)), J, R, Q) ∧ am_fr (fun a _ _ => a = 50 ∨ a = 51) I J := by
  obtain ⟨ht2, t, ht, hten⟩ := hok
  obtain ⟨a0, a1, a2, a3⟩ := hP.1 k (by omega)
  obtain ⟨hP1, hP2, hP3, hP4⟩ := hP
  have hP : mm_at I P := ⟨hP1, hP2, hP3, hP4⟩
  have hc : I 12 0 30 = nI n := hP2.trans hn
  have hE : ∀ f, am_cal (d + 3) 207 [.ref (am_mk 12 0), .int (nI k)] (am_sI I 50 0 f) R Q = some (some (.int (sp_edges (sp_B w h) P k)), am_sI I 50 0 f, R, Q) := fun f =>
    m_edges (d := d) hr (mo_fr ho (fr_f (S := fun a _ _ => a = 50) fr_rf (fun _ => rfl)) (fun j w => by omega)) (mm_fr hP (fr_f (S := fun a _ _ => a = 50) fr_rf (fun _ => rfl)) (fun j _ w => by omega) (fun w => by omega)) hn hn2 hk
  have hE0 := m_edges (d := d) (Q := Q) hr ho hP hn hn2 hk
  obtain ⟨m, hm, hm2⟩ : ∃ m, m < 25 ∧ m = if sp_opp P then n - 1 - k else k := ⟨_, by split <;> omega, rfl⟩
  have e100 : (100 < 283) = True := eq_true (by decide)
  have hopp : sp_opp P ↔ P 4 2 = nI 1 ∧ nI (t % 2) = nI 1 := by
    unfold sp_opp
    rw [hten, nI_and1]
    rcases ht2 with e | e
    · rw [e]; exact ⟨fun q => absurd nI_0 q.1, fun q => absurd q.1 (by decide)⟩
    · rw [e]; exact ⟨fun q => ⟨rfl, q.2⟩, fun q => ⟨by decide, q.2⟩⟩
  have start : am_cal (d + 4) 214 [.ref (am_mk 12 0), .int (nI k), .int pw] I R Q = am_ev (d + 4) 214 40 [.ref (am_mk 12 0), .int (nI k), .int pw, am_J, am_J] [.int (nI m), .ref (am_mk 58 0)] I R Q := by
    rw [s214]
    by_cases e1 : P 4 2 = nI 1
    · by_cases e2 : nI (t % 2) = nI 1
      · rw [hm2, if_pos (hopp.mpr ⟨e1, e2⟩)]
        simp (disch := first | omega | assumption) only [s214_0, s214_1, s214_4, s214_5, s214_8, s214_10, s214_11, s214_12, s214_15, s214_16, s214_19, s214_21, s214_22, s214_23, s214_24, s214_25, s214_28, s214_29, s214_32, s214_33, s214_34, s214_35, s214_36, s214_39, s214_41, s214_42, s214_43, s214_44, s214_45, s214_47, s214_48, s214_49, s214_50, s214_53, s214_54, s214_55, s214_58, s214_59, s214_60, s214_61, s214_62, s214_63, s214_64, s214_65, s214_67, s214_68, s214_71, s214_72, s214_75, s214_76, s214_79, s214_80, s214_81, s214_82, s214_83, s214_86, s214_87, s214_88, s214_89, s214_90, s214_93, s214_94, s214_95, s214_98, s214_99, s214_100, s214_101, s214_102, s214_103, s214_104, s214_107, s214_108, s214_109, s214_112, s214_114, s214_115, s214_116, s214_117, s214_118, s214_119, s214_122, s214_123, s214_124, s214_127, s214_129, s214_130, s214_131, s214_132, s214_133, s214_134, s214_137, s214_138, s214_139, s214_140, s214_143, s214_144, s214_145, s214_146, s214_149, s214_152, s214_154, s214_155, s214_157, s214_159, s214_162, s214_165, nI_le2, nI_lt2, nI_eq2, nI_lt0, nI_0le, nI_0lt, nI_le0, nI_eq0, nI_clamp, nI_add, bu_nI, bb_0, bb_1, rf_s, rf_n, tl_s, tl_n, am_th_some, if_true, if_false, sI_eq, uI_eq, and_self, true_and, and_true, not_false_eq_true, not_true_eq_false, Nat.reduceEqDiff, Nat.reduceLeDiff, Nat.reduceLT, Nat.reduceAdd, Nat.reduceMul, Nat.reduceSub, Nat.zero_add, mr26 hr, mr31 hr, hP3, hP4, hten, e1, e2, nI_rem2 (show t < 2 ^ 31 by omega), hc, nI_sub]
      · rw [hm2, if_neg (fun q => e2 (hopp.mp q).2)]
        simp (disch := first | omega | assumption) only [s214_0, s214_1, s214_4, s214_5, s214_8, s214_10, s214_11, s214_12, s214_15, s214_16, s214_19, s214_21, s214_22, s214_23, s214_24, s214_25, s214_28, s214_29, s214_32, s214_33, s214_34, s214_35, s214_36, s214_39, s214_41, s214_42, s214_43, s214_44, s214_45, s214_47, s214_48, s214_49, s214_50, s214_53, s214_54, s214_55, s214_58, s214_59, s214_60, s214_61, s214_62, s214_63, s214_64, s214_65, s214_67, s214_68, s214_71, s214_72, s214_75, s214_76, s214_79, s214_80, s214_81, s214_82, s214_83, s214_86, s214_87, s214_88, s214_89, s214_90, s214_93, s214_94, s214_95, s214_98, s214_99, s214_100, s214_101, s214_102, s214_103, s214_104, s214_107, s214_108, s214_109, s214_112, s214_114, s214_115, s214_116, s214_117, s214_118, s214_119, s214_122, s214_123, s214_124, s214_127, s214_129, s214_130, s214_131, s214_132, s214_133, s214_134, s214_137, s214_138, s214_139, s214_140, s214_143, s214_144, s214_145, s214_146, s214_149, s214_152, s214_154, s214_155, s214_157, s214_159, s214_162, s214_165, nI_le2, nI_lt2, nI_eq2, nI_lt0, nI_0le, nI_0lt, nI_le0, nI_eq0, nI_clamp, nI_add, bu_nI, bb_0, bb_1, rf_s, rf_n, tl_s, tl_n, am_th_some, if_true, if_false, sI_eq, uI_eq, and_self, true_and, and_true, not_false_eq_true, not_true_eq_false, Nat.reduceEqDiff, Nat.reduceLeDiff, Nat.reduceLT, Nat.reduceAdd, Nat.reduceMul, Nat.reduceSub, Nat.zero_add, mr26 hr, mr31 hr, hP3, hP4, hten, e1, e2, nI_rem2 (show t < 2 ^ 31 by omega)]
    · rw [hm2, if_neg (fun q => e1 (hopp.mp q).1)]
      simp (disch := first | omega | assumption) only [s214_0, s214_1, s214_4, s214_5, s214_8, s214_10, s214_11, s214_12, s214_15, s214_16, s214_19, s214_21, s214_22, s214_23, s214_24, s214_25, s214_28, s214_29, s214_32, s214_33, s214_34, s214_35, s214_36, s214_39, s214_41, s214_42, s214_43, s214_44, s214_45, s214_47, s214_48, s214_49, s214_50, s214_53, s214_54, s214_55, s214_58, s214_59, s214_60, s214_61, s214_62, s214_63, s214_64, s214_65, s214_67, s214_68, s214_71, s214_72, s214_75, s214_76, s214_79, s214_80, s214_81, s214_82, s214_83, s214_86, s214_87, s214_88, s214_89, s214_90, s214_93, s214_94, s214_95, s214_98, s214_99, s214_100, s214_101, s214_102, s214_103, s214_104, s214_107, s214_108, s214_109, s214_112, s214_114, s214_115, s214_116, s214_117, s214_118, s214_119, s214_122, s214_123, s214_124, s214_127, s214_129, s214_130, s214_131, s214_132, s214_133, s214_134, s214_137, s214_138, s214_139, s214_140, s214_143, s214_144, s214_145, s214_146, s214_149, s214_152, s214_154, s214_155, s214_157, s214_159, s214_162, s214_165, nI_le2, nI_lt2, nI_eq2, nI_lt0, nI_0le, nI_0lt, nI_le0, nI_eq0, nI_clamp, nI_add, bu_nI, bb_0, bb_1, rf_s, rf_n, tl_s, tl_n, am_th_some, if_true, if_false, sI_eq, uI_eq, and_self, true_and, and_true, not_false_eq_true, not_true_eq_false, Nat.reduceEqDiff, Nat.reduceLeDiff, Nat.reduceLT, Nat.reduceAdd, Nat.reduceMul, Nat.reduceSub, Nat.zero_add, mr26 hr, mr31 hr, hP3, hP4, e1]
  rw [start]
  have b0 : am_bu (nI 0) 6 = True := bu_nI (by decide)
  have b1 : am_bu (nI 1) 6 = True := bu_nI (by decide)
  have b2 : am_bu (nI 2) 6 = True := bu_nI (by decide)
  have b3 : am_bu (nI 3) 6 = True := bu_nI (by decide)
  have b4 : am_bu (nI 4) 6 = True := bu_nI (by decide)
  have b5 : am_bu (nI 5) 6 = True := bu_nI (by decide)
  rcases hV with ⟨v1, v2⟩ | ⟨hd, v0, v1, v2⟩
  · refine ⟨I, ?_, fr_rf⟩
    simp (disch := first | omega | assumption) only [s214_0, s214_1, s214_4, s214_5, s214_8, s214_10, s214_11, s214_12, s214_15, s214_16, s214_19, s214_21, s214_22, s214_23, s214_24, s214_25, s214_28, s214_29, s214_32, s214_33, s214_34, s214_35, s214_36, s214_39, s214_40, s214_41, s214_42, s214_43, s214_44, s214_45, s214_47, s214_48, s214_49, s214_50, s214_53, s214_54, s214_55, s214_58, s214_59, s214_60, s214_61, s214_62, s214_63, s214_64, s214_65, s214_67, s214_68, s214_71, s214_72, s214_75, s214_76, s214_79, s214_80, s214_81, s214_82, s214_83, s214_86, s214_87, s214_88, s214_89, s214_90, s214_93, s214_94, s214_95, s214_98, s214_99, s214_100, s214_101, s214_102, s214_103, s214_104, s214_107, s214_108, s214_109, s214_112, s214_114, s214_115, s214_116, s214_117, s214_118, s214_119, s214_122, s214_123, s214_124, s214_127, s214_129, s214_130, s214_131, s214_132, s214_133, s214_134, s214_137, s214_138, s214_139, s214_140, s214_143, s214_144, s214_145, s214_146, s214_149, s214_152, s214_154, s214_155, s214_157, s214_159, s214_162, s214_165, nI_le2, nI_lt2, nI_eq2, nI_lt0, nI_0le, nI_0lt, nI_le0, nI_eq0, nI_clamp, nI_add, bu_nI, bb_0, bb_1, rf_s, rf_n, tl_s, tl_n, am_th_some, if_true, if_false, sI_eq, uI_eq, and_self, true_and, and_true, not_false_eq_true, not_true_eq_false, Nat.reduceEqDiff, Nat.reduceLeDiff, Nat.reduceLT, Nat.reduceAdd, Nat.reduceMul, Nat.reduceSub, Nat.zero_add, mr31 hr, v1, hE0, a0]
    have e : sp_usual (sp_let (sp_B w h) (I 58 0) n pw P k) = pw * I 58 0 m / nI 10 + sp_edges (sp_B w h) P k - P 0 k / nI 4 := by
      rw [hm2]; rfl
    rw [sp_gain, v2, e]
  · have hne : (nI hd = -nI 1) = False := eq_false (fun q => by
      rcases (show hd = 0 ∨ hd = 1 ∨ hd = 2 ∨ hd = 3 by omega) with e | e | e | e <;> subst e <;> exact absurd q (by decide))
    obtain ⟨F, hF1, hF2⟩ : ∃ F : Nat → Int32, am_ev (d + 4) 214 40 [.ref (am_mk 12 0), .int (nI k), .int pw, am_J, am_J] [.int (nI m), .ref (am_mk 58 0)] I R Q = am_ev (d + 4) 214 144 [.ref (am_mk 12 0), .int (nI k), .int pw, .int (I 58 0 m), .int (pw * I 58 0 m / nI 10 + sp_edges (sp_B w h) P k - P 0 k / nI 4)] [] (am_sI I 50 0 F) R Q ∧ ∀ j, j < 6 → F j = sp_let (sp_B w h) (I 58 0) n pw P k j := by
      refine ⟨_, by simp (disch := first | omega | assumption) only [s214_0, s214_1, s214_4, s214_5, s214_8, s214_10, s214_11, s214_12, s214_15, s214_16, s214_19, s214_21, s214_22, s214_23, s214_24, s214_25, s214_28, s214_29, s214_32, s214_33, s214_34, s214_35, s214_36, s214_39, s214_40, s214_41, s214_42, s214_43, s214_44, s214_45, s214_47, s214_48, s214_49, s214_50, s214_53, s214_54, s214_55, s214_58, s214_59, s214_60, s214_61, s214_62, s214_63, s214_64, s214_65, s214_67, s214_68, s214_71, s214_72, s214_75, s214_76, s214_79, s214_80, s214_81, s214_82, s214_83, s214_86, s214_87, s214_88, s214_89, s214_90, s214_93, s214_94, s214_95, s214_98, s214_99, s214_100, s214_101, s214_102, s214_103, s214_104, s214_107, s214_108, s214_109, s214_112, s214_114, s214_115, s214_116, s214_117, s214_118, s214_119, s214_122, s214_123, s214_124, s214_127, s214_129, s214_130, s214_131, s214_132, s214_133, s214_134, s214_137, s214_138, s214_139, s214_140, s214_143, s214_145, s214_146, s214_149, s214_152, s214_154, s214_155, s214_157, s214_159, s214_162, s214_165, nI_le2, nI_lt2, nI_eq2, nI_lt0, nI_0le, nI_0lt, nI_le0, nI_eq0, nI_clamp, nI_add, bu_nI, bb_0, bb_1, rf_s, rf_n, tl_s, tl_n, am_th_some, if_true, if_false, sI_eq, uI_eq, and_self, true_and, and_true, not_false_eq_true, not_true_eq_false, Nat.reduceEqDiff, Nat.reduceLeDiff, Nat.reduceLT, Nat.reduceAdd, Nat.reduceMul, Nat.reduceSub, Nat.zero_add, mr31 hr, mr15 hr, v1, hne, hE0, hE, a0, a1, a2, b0, b1, b2, b3, b4, b5, sI_sI, sI_na] <;> rfl, fun j hj => ?_⟩
      rcases (show j = 0 ∨ j = 1 ∨ j = 2 ∨ j = 3 ∨ j = 4 ∨ j = 5 by omega) with e | e | e | e | e | e <;> subst e <;> simp (disch := omega) only [uI_eq, uI_ne, sp_let, if_true, if_false, if_pos, if_neg]
      rw [hm2]
    have f0 : am_fr (fun a _ _ => a = 50 ∨ a = 51) I (am_sI I 50 0 F) := fr_f fr_rf (fun _ => Or.inl rfl)
    obtain ⟨K, g1, g2⟩ := v2 (am_sI I 50 0 F) (fr_mo f0 (fun a b j q => by unfold mk_S; omega)) (by rw [sI_eq]; exact hG F hF2)
    rw [sI_eq, hVc F _ hF2] at g1
    refine ⟨K, ?_, fr_tr f0 (fr_mo g2 (fun a b j q => Or.inr q))⟩
    rw [hF1]
    have v1b : am_sI I 50 0 F 12 0 33 = nI hd := (congrFun (sI_na (by decide)) 33).trans v1
    simp (disch := first | omega | assumption) only [s214_0, s214_1, s214_4, s214_5, s214_8, s214_10, s214_11, s214_12, s214_15, s214_16, s214_19, s214_21, s214_22, s214_23, s214_24, s214_25, s214_28, s214_29, s214_32, s214_33, s214_34, s214_35, s214_36, s214_39, s214_40, s214_41, s214_42, s214_43, s214_44, s214_45, s214_47, s214_48, s214_49, s214_50, s214_53, s214_54, s214_55, s214_58, s214_59, s214_60, s214_61, s214_62, s214_63, s214_64, s214_65, s214_67, s214_68, s214_71, s214_72, s214_75, s214_76, s214_79, s214_80, s214_81, s214_82, s214_83, s214_86, s214_87, s214_88, s214_89, s214_90, s214_93, s214_94, s214_95, s214_98, s214_99, s214_100, s214_101, s214_102, s214_103, s214_104, s214_107, s214_108, s214_109, s214_112, s214_114, s214_115, s214_116, s214_117, s214_118, s214_119, s214_122, s214_123, s214_124, s214_127, s214_129, s214_130, s214_131, s214_132, s214_133, s214_134, s214_137, s214_138, s214_139, s214_140, s214_143, s214_144, s214_145, s214_146, s214_149, s214_152, s214_154, s214_155, s214_157, s214_159, s214_162, s214_165, nI_le2, nI_lt2, nI_eq2, nI_lt0, nI_0le, nI_0lt, nI_le0, nI_eq0, nI_clamp, nI_add, bu_nI, bb_0, bb_1, rf_s, rf_n, tl_s, tl_n, am_th_some, if_true, if_false, sI_eq, uI_eq, and_self, true_and, and_true, not_false_eq_true, not_true_eq_false, Nat.reduceEqDiff, Nat.reduceLeDiff, Nat.reduceLT, Nat.reduceAdd, Nat.reduceMul, Nat.reduceSub, Nat.zero_add, v1b, g1]
    rfl
end
