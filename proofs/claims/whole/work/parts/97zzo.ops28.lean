/-! A LUNCH taken: the model. -/
theorem P_at {E : zE} {i : Nat} (hi : i < E.2.2.1.length) : ∀ a, a < 3 → (zd_l E.2.2.1).Nodup → zd_P E.2.2.1 a (E.2.2.1[i] 0) = E.2.2.1[i] (a + 1) := by
  intro a ha hn
  have key : ∀ F : List (Nat → Nat), (zd_l F).Nodup → ∀ f ∈ F, zd_P F a (f 0) = f (a + 1) := by
    refine snoc_ind (fun _ f hf => by cases hf) (fun F g ih hn f hf => ?_)
    rw [l_app] at hn
    obtain ⟨n1, n2, n3⟩ := List.nodup_append.mp hn
    rw [P_app]
    dsimp only
    rcases List.mem_append.mp hf with q | q
    · have hne : ¬ f 0 = g 0 := fun e => n3 (f 0) (List.mem_map.mpr ⟨f, q, rfl⟩) (g 0) (List.mem_singleton.mpr rfl) e
      rw [if_neg (fun w => hne w.1)]
      exact ih n1 f q
    · obtain rfl := List.mem_singleton.mp q
      rw [if_pos ⟨rfl, ha⟩]
  exact key _ hn _ (List.getElem_mem hi)
theorem D_at {F : List (Nat → Nat)} {j i : Nat} (hi : i < F.length) : zD F j i = F[i] j := by
  show (F.getD i (fun _ => 0)) j = _
  rw [List.getD_eq_getElem?_getD, List.getElem?_eq_getElem hi]
  rfl
section
variable {d n : Nat} {I : am_I} {R : am_R} {Q : am_Q} {w : zLw} {E : zE} {N : Nat → Nat → Nat}
theorem mt_1 (hr : mm_R R) : ∃ K, am_ev (d + 1) 200 18 [.ref (am_mk 12 0), .int (nI 0)] [] I R Q = am_ev (d + 1) 200 42 [.ref (am_mk 12 0), .int (nI 6)] [] K R Q ∧ am_fr (fun a b _ => a = 56 ∧ b = 0) I K ∧ ∀ j, j < 6 → K 56 0 j = I 52 0 j := by
  have r1 := mr17 hr
  have r2 := mr24 hr
  refine loop_inv (f := fun J c => am_ev (d + 1) 200 18 [.ref (am_mk 12 0), .int (nI c)] [] J R Q) (Inv := fun c J => am_fr (fun a b _ => a = 56 ∧ b = 0) I J ∧ ∀ j, j < c → J 56 0 j = I 52 0 j) (Post := fun y => ∃ K, y = am_ev (d + 1) 200 42 [.ref (am_mk 12 0), .int (nI 6)] [] K R Q ∧ am_fr (fun a b _ => a = 56 ∧ b = 0) I K ∧ ∀ j, j < 6 → K 56 0 j = I 52 0 j) (n := 6) ?_ ?_ (Nat.zero_le _) ⟨fr_rf, fun j hj => absurd hj (Nat.not_lt_zero _)⟩
  · intro c J hc ⟨f, g⟩
    left
    have n1 : ¬ 6 ≤ c := by omega
    have e : J 52 0 c = I 52 0 c := f _ _ _ (by omega)
    obtain ⟨X, x, y, fx⟩ := wr J 56 0 c (I 52 0 c)
    refine ⟨X, ?_, fr_tr f (fr_mo fx fun a b j w => ⟨w.1, w.2.1⟩), fun j hj => ?_⟩
    · rw [s200_18]
      simp (disch := first | omega | assumption) only [s200_0, s200_1, s200_2, s200_5, s200_8, s200_9, s200_10, s200_13, s200_16, s200_17, s200_19, s200_21, s200_24, s200_25, s200_28, s200_29, s200_30, s200_33, s200_34, s200_35, s200_36, s200_39, s200_43, s200_44, s200_47, s200_48, s200_49, s200_50, s200_53, s200_54, s200_55, s200_56, s200_59, s200_60, s200_61, s200_62, s200_64, s200_67, s200_68, s200_71, s200_72, s200_73, s200_76, s200_77, s200_78, s200_79, s200_82, s200_85, s200_86, s200_87, s200_88, s200_90, s200_93, s200_94, s200_97, s200_98, s200_100, s200_101, s200_104, s200_107, s200_108, s200_109, s200_110, s200_111, s200_114, s200_117, s200_118, s200_121, s200_122, s200_125, s200_126, s200_127, s200_128, s200_129, s200_130, s200_133, s200_134, s200_135, s200_136, s200_137, s200_138, s200_139, s200_140, s200_143, s200_146, s200_147, s200_148, s200_149, s200_151, s200_154, s200_155, s200_158, s200_159, s200_160, s200_163, s200_164, s200_165, s200_166, s200_169, s200_172, s200_173, s200_176, s200_177, s200_178, s200_181, s200_182, s200_183, s200_186, s200_187, s200_188, s200_191, s200_192, s200_193, s200_196, s200_197, s200_200, nI_le2, nI_lt2, nI_eq2, nI_lt0, nI_0le, nI_0lt, nI_le0, nI_eq0, nI_clamp, nI_add, bu_nI, bb_0, bb_1, rf_s, rf_n, tl_s, tl_n, am_th_some, if_true, if_false, sI_eq, uI_eq, and_self, true_and, and_true, not_false_eq_true, not_true_eq_false, Nat.reduceEqDiff, Nat.reduceLeDiff, Nat.reduceLT, Nat.reduceAdd, Nat.reduceMul, Nat.reduceSub, Nat.zero_add, r1, r2, n1, hc, e, x]
    · by_cases q : j = c
      · rw [q]; exact y
      · rw [fx _ _ _ (by omega)]; exact g j (by omega)
  · intro J ⟨f, g⟩
    refine ⟨J, ?_, f, g⟩
    have n1 : 6 ≤ 6 := Nat.le_refl _
    rw [s200_18]
    simp (disch := first | omega | assumption) only [s200_0, s200_1, s200_2, s200_5, s200_8, s200_9, s200_10, s200_13, s200_16, s200_17, s200_19, s200_21, s200_24, s200_25, s200_28, s200_29, s200_30, s200_33, s200_34, s200_35, s200_36, s200_39, s200_43, s200_44, s200_47, s200_48, s200_49, s200_50, s200_53, s200_54, s200_55, s200_56, s200_59, s200_60, s200_61, s200_62, s200_64, s200_67, s200_68, s200_71, s200_72, s200_73, s200_76, s200_77, s200_78, s200_79, s200_82, s200_85, s200_86, s200_87, s200_88, s200_90, s200_93, s200_94, s200_97, s200_98, s200_100, s200_101, s200_104, s200_107, s200_108, s200_109, s200_110, s200_111, s200_114, s200_117, s200_118, s200_121, s200_122, s200_125, s200_126, s200_127, s200_128, s200_129, s200_130, s200_133, s200_134, s200_135, s200_136, s200_137, s200_138, s200_139, s200_140, s200_143, s200_146, s200_147, s200_148, s200_149, s200_151, s200_154, s200_155, s200_158, s200_159, s200_160, s200_163, s200_164, s200_165, s200_166, s200_169, s200_172, s200_173, s200_176, s200_177, s200_178, s200_181, s200_182, s200_183, s200_186, s200_187, s200_188, s200_191, s200_192, s200_193, s200_196, s200_197, s200_200, nI_le2, nI_lt2, nI_eq2, nI_lt0, nI_0le, nI_0lt, nI_le0, nI_eq0, nI_clamp, nI_add, bu_nI, bb_0, bb_1, rf_s, rf_n, tl_s, tl_n, am_th_some, if_true, if_false, sI_eq, uI_eq, and_self, true_and, and_true, not_false_eq_true, not_true_eq_false, Nat.reduceEqDiff, Nat.reduceLeDiff, Nat.reduceLT, Nat.reduceAdd, Nat.reduceMul, Nat.reduceSub, Nat.zero_add, n1]
theorem mt_2 (hr : mm_R R) : ∃ K, am_ev (d + 1) 200 61 [.ref (am_mk 12 0), .int (nI 0)] [] I R Q = am_ev (d + 1) 200 85 [.ref (am_mk 12 0), .int (nI 48)] [] K R Q ∧ am_fr (fun a b _ => a = 57 ∧ b = 0) I K ∧ ∀ j, j < 48 → K 57 0 j = I 53 0 j := by
  have r1 := mr18 hr
  have r2 := mr25 hr
  refine loop_inv (f := fun J c => am_ev (d + 1) 200 61 [.ref (am_mk 12 0), .int (nI c)] [] J R Q) (Inv := fun c J => am_fr (fun a b _ => a = 57 ∧ b = 0) I J ∧ ∀ j, j < c → J 57 0 j = I 53 0 j) (Post := fun y => ∃ K, y = am_ev (d + 1) 200 85 [.ref (am_mk 12 0), .int (nI 48)] [] K R Q ∧ am_fr (fun a b _ => a = 57 ∧ b = 0) I K ∧ ∀ j, j < 48 → K 57 0 j = I 53 0 j) (n := 48) ?_ ?_ (Nat.zero_le _) ⟨fr_rf, fun j hj => absurd hj (Nat.not_lt_zero _)⟩
  · intro c J hc ⟨f, g⟩
    left
    have n1 : ¬ 48 ≤ c := by omega
    have e : J 53 0 c = I 53 0 c := f _ _ _ (by omega)
    obtain ⟨X, x, y, fx⟩ := wr J 57 0 c (I 53 0 c)
    refine ⟨X, ?_, fr_tr f (fr_mo fx fun a b j w => ⟨w.1, w.2.1⟩), fun j hj => ?_⟩
    · rw [s200_61]
      simp (disch := first | omega | assumption) only [s200_0, s200_1, s200_2, s200_5, s200_8, s200_9, s200_10, s200_13, s200_16, s200_17, s200_18, s200_19, s200_21, s200_24, s200_25, s200_28, s200_29, s200_30, s200_33, s200_34, s200_35, s200_36, s200_39, s200_42, s200_43, s200_44, s200_47, s200_48, s200_49, s200_50, s200_53, s200_54, s200_55, s200_56, s200_59, s200_60, s200_62, s200_64, s200_67, s200_68, s200_71, s200_72, s200_73, s200_76, s200_77, s200_78, s200_79, s200_82, s200_86, s200_87, s200_88, s200_90, s200_93, s200_94, s200_97, s200_98, s200_100, s200_101, s200_104, s200_107, s200_108, s200_109, s200_110, s200_111, s200_114, s200_117, s200_118, s200_121, s200_122, s200_125, s200_126, s200_127, s200_128, s200_129, s200_130, s200_133, s200_134, s200_135, s200_136, s200_137, s200_138, s200_139, s200_140, s200_143, s200_146, s200_147, s200_148, s200_149, s200_151, s200_154, s200_155, s200_158, s200_159, s200_160, s200_163, s200_164, s200_165, s200_166, s200_169, s200_172, s200_173, s200_176, s200_177, s200_178, s200_181, s200_182, s200_183, s200_186, s200_187, s200_188, s200_191, s200_192, s200_193, s200_196, s200_197, s200_200, nI_le2, nI_lt2, nI_eq2, nI_lt0, nI_0le, nI_0lt, nI_le0, nI_eq0, nI_clamp, nI_add, bu_nI, bb_0, bb_1, rf_s, rf_n, tl_s, tl_n, am_th_some, if_true, if_false, sI_eq, uI_eq, and_self, true_and, and_true, not_false_eq_true, not_true_eq_false, Nat.reduceEqDiff, Nat.reduceLeDiff, Nat.reduceLT, Nat.reduceAdd, Nat.reduceMul, Nat.reduceSub, Nat.zero_add, r1, r2, n1, hc, e, x]
    · by_cases q : j = c
      · rw [q]; exact y
      · rw [fx _ _ _ (by omega)]; exact g j (by omega)
  · intro J ⟨f, g⟩
    refine ⟨J, ?_, f, g⟩
    have n1 : 48 ≤ 48 := Nat.le_refl _
    rw [s200_61]
    simp (disch := first | omega | assumption) only [s200_0, s200_1, s200_2, s200_5, s200_8, s200_9, s200_10, s200_13, s200_16, s200_17, s200_18, s200_19, s200_21, s200_24, s200_25, s200_28, s200_29, s200_30, s200_33, s200_34, s200_35, s200_36, s200_39, s200_42, s200_43, s200_44, s200_47, s200_48, s200_49, s200_50, s200_53, s200_54, s200_55, s200_56, s200_59, s200_60, s200_62, s200_64, s200_67, s200_68, s200_71, s200_72, s200_73, s200_76, s200_77, s200_78, s200_79, s200_82, s200_86, s200_87, s200_88, s200_90, s200_93, s200_94, s200_97, s200_98, s200_100, s200_101, s200_104, s200_107, s200_108, s200_109, s200_110, s200_111, s200_114, s200_117, s200_118, s200_121, s200_122, s200_125, s200_126, s200_127, s200_128, s200_129, s200_130, s200_133, s200_134, s200_135, s200_136, s200_137, s200_138, s200_139, s200_140, s200_143, s200_146, s200_147, s200_148, s200_149, s200_151, s200_154, s200_155, s200_158, s200_159, s200_160, s200_163, s200_164, s200_165, s200_166, s200_169, s200_172, s200_173, s200_176, s200_177, s200_178, s200_181, s200_182, s200_183, s200_186, s200_187, s200_188, s200_191, s200_192, s200_193, s200_196, s200_197, s200_200, nI_le2, nI_lt2, nI_eq2, nI_lt0, nI_0le, nI_0lt, nI_le0, nI_eq0, nI_clamp, nI_add, bu_nI, bb_0, bb_1, rf_s, rf_n, tl_s, tl_n, am_th_some, if_true, if_false, sI_eq, uI_eq, and_self, true_and, and_true, not_false_eq_true, not_true_eq_false, Nat.reduceEqDiff, Nat.reduceLeDiff, Nat.reduceLT, Nat.reduceAdd, Nat.reduceMul, Nat.reduceSub, Nat.zero_add, n1]
theorem mt_3 (hr : mm_R R) : ∃ K, am_ev (d + 1) 200 87 [.ref (am_mk 12 0), .int (nI 0)] [] I R Q = am_ev (d + 1) 200 107 [.ref (am_mk 12 0), .int (nI 25)] [] K R Q ∧ am_fr (fun a b _ => a = 58 ∧ b = 0) I K ∧ ∀ j, j < 25 → K 58 0 j = nI 10 := by
  have r2 := mr26 hr
  refine loop_inv (f := fun J c => am_ev (d + 1) 200 87 [.ref (am_mk 12 0), .int (nI c)] [] J R Q) (Inv := fun c J => am_fr (fun a b _ => a = 58 ∧ b = 0) I J ∧ ∀ j, j < c → J 58 0 j = nI 10) (Post := fun y => ∃ K, y = am_ev (d + 1) 200 107 [.ref (am_mk 12 0), .int (nI 25)] [] K R Q ∧ am_fr (fun a b _ => a = 58 ∧ b = 0) I K ∧ ∀ j, j < 25 → K 58 0 j = nI 10) (n := 25) ?_ ?_ (Nat.zero_le _) ⟨fr_rf, fun j hj => absurd hj (Nat.not_lt_zero _)⟩
  · intro c J hc ⟨f, g⟩
    left
    have n1 : ¬ 25 ≤ c := by omega
    obtain ⟨X, x, y, fx⟩ := wr J 58 0 c (nI 10)
    refine ⟨X, ?_, fr_tr f (fr_mo fx fun a b j w => ⟨w.1, w.2.1⟩), fun j hj => ?_⟩
    · rw [s200_87]
      simp (disch := first | omega | assumption) only [s200_0, s200_1, s200_2, s200_5, s200_8, s200_9, s200_10, s200_13, s200_16, s200_17, s200_18, s200_19, s200_21, s200_24, s200_25, s200_28, s200_29, s200_30, s200_33, s200_34, s200_35, s200_36, s200_39, s200_42, s200_43, s200_44, s200_47, s200_48, s200_49, s200_50, s200_53, s200_54, s200_55, s200_56, s200_59, s200_60, s200_61, s200_62, s200_64, s200_67, s200_68, s200_71, s200_72, s200_73, s200_76, s200_77, s200_78, s200_79, s200_82, s200_85, s200_86, s200_88, s200_90, s200_93, s200_94, s200_97, s200_98, s200_100, s200_101, s200_104, s200_108, s200_109, s200_110, s200_111, s200_114, s200_117, s200_118, s200_121, s200_122, s200_125, s200_126, s200_127, s200_128, s200_129, s200_130, s200_133, s200_134, s200_135, s200_136, s200_137, s200_138, s200_139, s200_140, s200_143, s200_146, s200_147, s200_148, s200_149, s200_151, s200_154, s200_155, s200_158, s200_159, s200_160, s200_163, s200_164, s200_165, s200_166, s200_169, s200_172, s200_173, s200_176, s200_177, s200_178, s200_181, s200_182, s200_183, s200_186, s200_187, s200_188, s200_191, s200_192, s200_193, s200_196, s200_197, s200_200, nI_le2, nI_lt2, nI_eq2, nI_lt0, nI_0le, nI_0lt, nI_le0, nI_eq0, nI_clamp, nI_add, bu_nI, bb_0, bb_1, rf_s, rf_n, tl_s, tl_n, am_th_some, if_true, if_false, sI_eq, uI_eq, and_self, true_and, and_true, not_false_eq_true, not_true_eq_false, Nat.reduceEqDiff, Nat.reduceLeDiff, Nat.reduceLT, Nat.reduceAdd, Nat.reduceMul, Nat.reduceSub, Nat.zero_add, r2, n1, hc, x]
    · by_cases q : j = c
      · rw [q]; exact y
      · rw [fx _ _ _ (by omega)]; exact g j (by omega)
  · intro J ⟨f, g⟩
    refine ⟨J, ?_, f, g⟩
    have n1 : 25 ≤ 25 := Nat.le_refl _
    rw [s200_87]
    simp (disch := first | omega | assumption) only [s200_0, s200_1, s200_2, s200_5, s200_8, s200_9, s200_10, s200_13, s200_16, s200_17, s200_18, s200_19, s200_21, s200_24, s200_25, s200_28, s200_29, s200_30, s200_33, s200_34, s200_35, s200_36, s200_39, s200_42, s200_43, s200_44, s200_47, s200_48, s200_49, s200_50, s200_53, s200_54, s200_55, s200_56, s200_59, s200_60, s200_61, s200_62, s200_64, s200_67, s200_68, s200_71, s200_72, s200_73, s200_76, s200_77, s200_78, s200_79, s200_82, s200_85, s200_86, s200_88, s200_90, s200_93, s200_94, s200_97, s200_98, s200_100, s200_101, s200_104, s200_108, s200_109, s200_110, s200_111, s200_114, s200_117, s200_118, s200_121, s200_122, s200_125, s200_126, s200_127, s200_128, s200_129, s200_130, s200_133, s200_134, s200_135, s200_136, s200_137, s200_138, s200_139, s200_140, s200_143, s200_146, s200_147, s200_148, s200_149, s200_151, s200_154, s200_155, s200_158, s200_159, s200_160, s200_163, s200_164, s200_165, s200_166, s200_169, s200_172, s200_173, s200_176, s200_177, s200_178, s200_181, s200_182, s200_183, s200_186, s200_187, s200_188, s200_191, s200_192, s200_193, s200_196, s200_197, s200_200, nI_le2, nI_lt2, nI_eq2, nI_lt0, nI_0le, nI_0lt, nI_le0, nI_eq0, nI_clamp, nI_add, bu_nI, bb_0, bb_1, rf_s, rf_n, tl_s, tl_n, am_th_some, if_true, if_false, sI_eq, uI_eq, and_self, true_and, and_true, not_false_eq_true, not_true_eq_false, Nat.reduceEqDiff, Nat.reduceLeDiff, Nat.reduceLT, Nat.reduceAdd, Nat.reduceMul, Nat.reduceSub, Nat.zero_add, n1]
theorem mt_4 (hr : mm_R R) (hM : ∀ f ∈ E.2.2.2.1, zd_in 2 f) (h6 : E.2.2.2.1.length ≤ 6) (h22 : I 12 0 22 = nI E.2.2.2.1.length) (h54 : ∀ i (h : i < E.2.2.2.1.length) j, j < 2 → I 54 0 (2 * i + j) = nI (E.2.2.2.1[i] j)) (h10 : ∀ c, c < 25 → I 58 0 c = nI 10) : ∃ K, am_ev (d + 1) 200 109 [.ref (am_mk 12 0), .int (nI 0)] [] I R Q = am_ev (d + 1) 200 146 [.ref (am_mk 12 0), .int (nI E.2.2.2.1.length)] [] K R Q ∧ am_fr (fun a b _ => a = 58 ∧ b = 0) I K ∧ ∀ c, c < 25 → K 58 0 c = nI (zd_sh E.2.2.2.1 c) := by
  have r1 := mr19 hr
  have r2 := mr26 hr
  refine loop_inv (f := fun J c => am_ev (d + 1) 200 109 [.ref (am_mk 12 0), .int (nI c)] [] J R Q) (Inv := fun i J => am_fr (fun a b _ => a = 58 ∧ b = 0) I J ∧ ∀ c, c < 25 → J 58 0 c = nI (zd_sh (E.2.2.2.1.take i) c)) (Post := fun y => ∃ K, y = am_ev (d + 1) 200 146 [.ref (am_mk 12 0), .int (nI E.2.2.2.1.length)] [] K R Q ∧ am_fr (fun a b _ => a = 58 ∧ b = 0) I K ∧ ∀ c, c < 25 → K 58 0 c = nI (zd_sh E.2.2.2.1 c)) (n := E.2.2.2.1.length) ?_ ?_ (Nat.zero_le _) ⟨fr_rf, fun c hc => h10 c hc⟩
  · intro i J hi ⟨f, g⟩
    left
    have n1 : ¬ E.2.2.2.1.length ≤ i := by omega
    have b22 : J 12 0 22 = nI E.2.2.2.1.length := (f _ _ _ (by omega)).trans h22
    have e0 : J 54 0 (2 * i) = nI (E.2.2.2.1[i] 0) := (f _ _ _ (by omega)).trans (h54 i hi 0 (by decide))
    have e1 : J 54 0 (2 * i + 1) = nI (E.2.2.2.1[i] 1) := (f _ _ _ (by omega)).trans (h54 i hi 1 (by decide))
    have b0 : zLo 10 ≤ E.2.2.2.1[i] 0 ∧ E.2.2.2.1[i] 0 ≤ 24 := hM _ (List.getElem_mem hi) 0 (by decide)
    have hx : E.2.2.2.1[i] 0 < 25 := by omega
    obtain ⟨X, x, y, fx⟩ := wr J 58 0 (E.2.2.2.1[i] 0) (nI (E.2.2.2.1[i] 1))
    have q1 : 2 * i < 12 := by omega
    have q2 : 2 * i + 1 < 12 := by omega
    refine ⟨X, ?_, fr_tr f (fr_mo fx fun a b j w => ⟨w.1, w.2.1⟩), fun c hc => ?_⟩
    · rw [s200_109]
      simp (disch := first | omega | assumption) only [s200_0, s200_1, s200_2, s200_5, s200_8, s200_9, s200_10, s200_13, s200_16, s200_17, s200_18, s200_19, s200_21, s200_24, s200_25, s200_28, s200_29, s200_30, s200_33, s200_34, s200_35, s200_36, s200_39, s200_42, s200_43, s200_44, s200_47, s200_48, s200_49, s200_50, s200_53, s200_54, s200_55, s200_56, s200_59, s200_60, s200_61, s200_62, s200_64, s200_67, s200_68, s200_71, s200_72, s200_73, s200_76, s200_77, s200_78, s200_79, s200_82, s200_85, s200_86, s200_87, s200_88, s200_90, s200_93, s200_94, s200_97, s200_98, s200_100, s200_101, s200_104, s200_107, s200_108, s200_110, s200_111, s200_114, s200_117, s200_118, s200_121, s200_122, s200_125, s200_126, s200_127, s200_128, s200_129, s200_130, s200_133, s200_134, s200_135, s200_136, s200_137, s200_138, s200_139, s200_140, s200_143, s200_147, s200_148, s200_149, s200_151, s200_154, s200_155, s200_158, s200_159, s200_160, s200_163, s200_164, s200_165, s200_166, s200_169, s200_172, s200_173, s200_176, s200_177, s200_178, s200_181, s200_182, s200_183, s200_186, s200_187, s200_188, s200_191, s200_192, s200_193, s200_196, s200_197, s200_200, nI_le2, nI_lt2, nI_eq2, nI_lt0, nI_0le, nI_0lt, nI_le0, nI_eq0, nI_clamp, nI_add, bu_nI, bb_0, bb_1, rf_s, rf_n, tl_s, tl_n, am_th_some, if_true, if_false, sI_eq, uI_eq, and_self, true_and, and_true, not_false_eq_true, not_true_eq_false, Nat.reduceEqDiff, Nat.reduceLeDiff, Nat.reduceLT, Nat.reduceAdd, Nat.reduceMul, Nat.reduceSub, Nat.zero_add, r1, r2, n1, b22, nI_mul, q1, q2, e0, e1, hx, x]
    · rw [List.take_succ_eq_append_getElem hi, sh_app]
      dsimp only
      by_cases q : c = E.2.2.2.1[i] 0
      · rw [if_pos q, q]; exact y
      · rw [if_neg q, fx _ _ _ (by omega)]; exact g c hc
  · intro J ⟨f, g⟩
    refine ⟨J, ?_, f, fun c hc => ?_⟩
    · have n1 : E.2.2.2.1.length ≤ E.2.2.2.1.length := Nat.le_refl _
      have b22 : J 12 0 22 = nI E.2.2.2.1.length := (f _ _ _ (by omega)).trans h22
      rw [s200_109]
      simp (disch := first | omega | assumption) only [s200_0, s200_1, s200_2, s200_5, s200_8, s200_9, s200_10, s200_13, s200_16, s200_17, s200_18, s200_19, s200_21, s200_24, s200_25, s200_28, s200_29, s200_30, s200_33, s200_34, s200_35, s200_36, s200_39, s200_42, s200_43, s200_44, s200_47, s200_48, s200_49, s200_50, s200_53, s200_54, s200_55, s200_56, s200_59, s200_60, s200_61, s200_62, s200_64, s200_67, s200_68, s200_71, s200_72, s200_73, s200_76, s200_77, s200_78, s200_79, s200_82, s200_85, s200_86, s200_87, s200_88, s200_90, s200_93, s200_94, s200_97, s200_98, s200_100, s200_101, s200_104, s200_107, s200_108, s200_110, s200_111, s200_114, s200_117, s200_118, s200_121, s200_122, s200_125, s200_126, s200_127, s200_128, s200_129, s200_130, s200_133, s200_134, s200_135, s200_136, s200_137, s200_138, s200_139, s200_140, s200_143, s200_147, s200_148, s200_149, s200_151, s200_154, s200_155, s200_158, s200_159, s200_160, s200_163, s200_164, s200_165, s200_166, s200_169, s200_172, s200_173, s200_176, s200_177, s200_178, s200_181, s200_182, s200_183, s200_186, s200_187, s200_188, s200_191, s200_192, s200_193, s200_196, s200_197, s200_200, nI_le2, nI_lt2, nI_eq2, nI_lt0, nI_0le, nI_0lt, nI_le0, nI_eq0, nI_clamp, nI_add, bu_nI, bb_0, bb_1, rf_s, rf_n, tl_s, tl_n, am_th_some, if_true, if_false, sI_eq, uI_eq, and_self, true_and, and_true, not_false_eq_true, not_true_eq_false, Nat.reduceEqDiff, Nat.reduceLeDiff, Nat.reduceLT, Nat.reduceAdd, Nat.reduceMul, Nat.reduceSub, Nat.zero_add, n1, b22]
    · have := g c hc
      rwa [List.take_length] at this
theorem mt_5 (hr : mm_R R) : ∃ K, am_ev (d + 1) 200 148 [.ref (am_mk 12 0), .int (nI 0)] [] I R Q = am_ev (d + 1) 200 172 [.ref (am_mk 12 0), .int (nI 12)] [] K R Q ∧ am_fr (fun a b _ => a = 59 ∧ b = 0) I K ∧ ∀ j, j < 12 → K 59 0 j = I 55 0 j := by
  have r1 := mr20 hr
  have r2 := mr27 hr
  refine loop_inv (f := fun J c => am_ev (d + 1) 200 148 [.ref (am_mk 12 0), .int (nI c)] [] J R Q) (Inv := fun c J => am_fr (fun a b _ => a = 59 ∧ b = 0) I J ∧ ∀ j, j < c → J 59 0 j = I 55 0 j) (Post := fun y => ∃ K, y = am_ev (d + 1) 200 172 [.ref (am_mk 12 0), .int (nI 12)] [] K R Q ∧ am_fr (fun a b _ => a = 59 ∧ b = 0) I K ∧ ∀ j, j < 12 → K 59 0 j = I 55 0 j) (n := 12) ?_ ?_ (Nat.zero_le _) ⟨fr_rf, fun j hj => absurd hj (Nat.not_lt_zero _)⟩
  · intro c J hc ⟨f, g⟩
    left
    have n1 : ¬ 12 ≤ c := by omega
    have e : J 55 0 c = I 55 0 c := f _ _ _ (by omega)
    obtain ⟨X, x, y, fx⟩ := wr J 59 0 c (I 55 0 c)
    refine ⟨X, ?_, fr_tr f (fr_mo fx fun a b j w => ⟨w.1, w.2.1⟩), fun j hj => ?_⟩
    · rw [s200_148]
      simp (disch := first | omega | assumption) only [s200_0, s200_1, s200_2, s200_5, s200_8, s200_9, s200_10, s200_13, s200_16, s200_17, s200_18, s200_19, s200_21, s200_24, s200_25, s200_28, s200_29, s200_30, s200_33, s200_34, s200_35, s200_36, s200_39, s200_42, s200_43, s200_44, s200_47, s200_48, s200_49, s200_50, s200_53, s200_54, s200_55, s200_56, s200_59, s200_60, s200_61, s200_62, s200_64, s200_67, s200_68, s200_71, s200_72, s200_73, s200_76, s200_77, s200_78, s200_79, s200_82, s200_85, s200_86, s200_87, s200_88, s200_90, s200_93, s200_94, s200_97, s200_98, s200_100, s200_101, s200_104, s200_107, s200_108, s200_109, s200_110, s200_111, s200_114, s200_117, s200_118, s200_121, s200_122, s200_125, s200_126, s200_127, s200_128, s200_129, s200_130, s200_133, s200_134, s200_135, s200_136, s200_137, s200_138, s200_139, s200_140, s200_143, s200_146, s200_147, s200_149, s200_151, s200_154, s200_155, s200_158, s200_159, s200_160, s200_163, s200_164, s200_165, s200_166, s200_169, s200_173, s200_176, s200_177, s200_178, s200_181, s200_182, s200_183, s200_186, s200_187, s200_188, s200_191, s200_192, s200_193, s200_196, s200_197, s200_200, nI_le2, nI_lt2, nI_eq2, nI_lt0, nI_0le, nI_0lt, nI_le0, nI_eq0, nI_clamp, nI_add, bu_nI, bb_0, bb_1, rf_s, rf_n, tl_s, tl_n, am_th_some, if_true, if_false, sI_eq, uI_eq, and_self, true_and, and_true, not_false_eq_true, not_true_eq_false, Nat.reduceEqDiff, Nat.reduceLeDiff, Nat.reduceLT, Nat.reduceAdd, Nat.reduceMul, Nat.reduceSub, Nat.zero_add, r1, r2, n1, hc, e, x]
    · by_cases q : j = c
      · rw [q]; exact y
      · rw [fx _ _ _ (by omega)]; exact g j (by omega)
  · intro J ⟨f, g⟩
    refine ⟨J, ?_, f, g⟩
    have n1 : 12 ≤ 12 := Nat.le_refl _
    rw [s200_148]
    simp (disch := first | omega | assumption) only [s200_0, s200_1, s200_2, s200_5, s200_8, s200_9, s200_10, s200_13, s200_16, s200_17, s200_18, s200_19, s200_21, s200_24, s200_25, s200_28, s200_29, s200_30, s200_33, s200_34, s200_35, s200_36, s200_39, s200_42, s200_43, s200_44, s200_47, s200_48, s200_49, s200_50, s200_53, s200_54, s200_55, s200_56, s200_59, s200_60, s200_61, s200_62, s200_64, s200_67, s200_68, s200_71, s200_72, s200_73, s200_76, s200_77, s200_78, s200_79, s200_82, s200_85, s200_86, s200_87, s200_88, s200_90, s200_93, s200_94, s200_97, s200_98, s200_100, s200_101, s200_104, s200_107, s200_108, s200_109, s200_110, s200_111, s200_114, s200_117, s200_118, s200_121, s200_122, s200_125, s200_126, s200_127, s200_128, s200_129, s200_130, s200_133, s200_134, s200_135, s200_136, s200_137, s200_138, s200_139, s200_140, s200_143, s200_146, s200_147, s200_149, s200_151, s200_154, s200_155, s200_158, s200_159, s200_160, s200_163, s200_164, s200_165, s200_166, s200_169, s200_173, s200_176, s200_177, s200_178, s200_181, s200_182, s200_183, s200_186, s200_187, s200_188, s200_191, s200_192, s200_193, s200_196, s200_197, s200_200, nI_le2, nI_lt2, nI_eq2, nI_lt0, nI_0le, nI_0lt, nI_le0, nI_eq0, nI_clamp, nI_add, bu_nI, bb_0, bb_1, rf_s, rf_n, tl_s, tl_n, am_th_some, if_true, if_false, sI_eq, uI_eq, and_self, true_and, and_true, not_false_eq_true, not_true_eq_false, Nat.reduceEqDiff, Nat.reduceLeDiff, Nat.reduceLT, Nat.reduceAdd, Nat.reduceMul, Nat.reduceSub, Nat.zero_add, n1]
/-- where the model writes a LUNCH that is taken -/
def tmS : Nat → Nat → Nat → Prop := fun a _ j => (a = 12 ∧ (j = 28 ∨ j = 29 ∨ j = 30 ∨ j = 43 ∨ j = 49 ∨ j = 37 ∨ j = 52)) ∨ (56 ≤ a ∧ a ≤ 60)
theorem m_takeLunch (hr : mm_R R) (hE : zd_ok E) (hg : zd_g E) (hm : zd_m I E) : ∃ X, am_cal (d + 1) 200 [.ref (am_mk 12 0)] I R Q = some (some (.int (nI E.2.2.1.length)), X, R, Q) ∧ am_fr tmS I X ∧ (∀ j, j < 6 → X 56 0 j = nI (E.2.1 j)) ∧ (∀ c, c < 25 → X 58 0 c = nI (zd_sh E.2.2.2.1 c)) ∧ md_at X E.2.2.1.length (zn E) (zD E.2.2.1 0) (zP0 E) ∧ me_at X E.2.2.2.2.length (zD E.2.2.2.2 0) (zD E.2.2.2.2 1) ∧ mm_at X (zP0 E) ∧ (∀ j, 102 ≤ j → j < 283 → X 60 0 j = nI 0) ∧ X 12 0 30 = nI (zn E) ∧ X 12 0 43 = nI 0 ∧ X 12 0 49 = nI 0 ∧ X 12 0 37 = nI 0 ∧ X 12 0 52 = nI 0 := by
  obtain ⟨m1, m2, m3, m4, m5, m6, m7⟩ := hm
  obtain ⟨w1, w5, h1, h5, n1, n25⟩ := wh_of hE
  obtain ⟨Z1, z1, y1, f1⟩ := wr I 12 0 28 (nI E.2.2.1.length)
  obtain ⟨Z2, z2, y2, f2⟩ := wr Z1 12 0 29 (nI E.2.2.2.2.length)
  obtain ⟨K1, g1, f3, k1⟩ := mt_1 (d := d) (I := Z2) (Q := Q) hr
  have o0 : K1 56 0 0 = nI (E.2.1 0) := (k1 0 (by decide)).trans ((f2 _ _ _ (by omega)).trans ((f1 _ _ _ (by omega)).trans (m4 0 (by decide))))
  have o1 : K1 56 0 1 = nI (E.2.1 1) := (k1 1 (by decide)).trans ((f2 _ _ _ (by omega)).trans ((f1 _ _ _ (by omega)).trans (m4 1 (by decide))))
  obtain ⟨Z3, z3, y3, f4⟩ := wr K1 12 0 30 (nI (zn E))
  obtain ⟨K2, g2, f5, k2⟩ := mt_2 (d := d) (I := Z3) (Q := Q) hr
  obtain ⟨K3, g3, f6, k3⟩ := mt_3 (d := d) (I := K2) (Q := Q) hr
  have a22 : K3 12 0 22 = nI E.2.2.2.1.length := (f6 _ _ _ (by omega)).trans ((f5 _ _ _ (by omega)).trans ((f4 _ _ _ (by omega)).trans ((f3 _ _ _ (by omega)).trans ((f2 _ _ _ (by omega)).trans ((f1 _ _ _ (by omega)).trans m2)))))
  obtain ⟨K4, g4, f7, k4⟩ := mt_4 (d := d) (I := K3) (Q := Q) (E := E) hr hE.2.2.1 hE.2.2.2.2.2.1 a22 (fun i hi j hj => (f6 _ _ _ (by omega)).trans ((f5 _ _ _ (by omega)).trans ((f4 _ _ _ (by omega)).trans ((f3 _ _ _ (by omega)).trans ((f2 _ _ _ (by omega)).trans ((f1 _ _ _ (by omega)).trans (m6 i hi j hj))))))) k3
  obtain ⟨K5, g5, f8, k5⟩ := mt_5 (d := d) (I := K4) (Q := Q) hr
  have far : am_fr (fun a b j => (a = 12 ∧ b = 0 ∧ (j = 28 ∨ j = 29 ∨ j = 30)) ∨ ((56 ≤ a ∧ a ≤ 59) ∧ b = 0)) I K5 := fr_tr (fr_tr (fr_tr (fr_tr (fr_tr (fr_tr (fr_tr (fr_mo f1 fun a b j w => by omega) (fr_mo f2 fun a b j w => by omega)) (fr_mo f3 fun a b j w => by omega)) (fr_mo f4 fun a b j w => by omega)) (fr_mo f5 fun a b j w => by omega)) (fr_mo f6 fun a b j w => by omega)) (fr_mo f7 fun a b j w => by omega)) (fr_mo f8 fun a b j w => by omega)
  have e28 : K5 12 0 28 = nI E.2.2.1.length := (f8 _ _ _ (by omega)).trans ((f7 _ _ _ (by omega)).trans ((f6 _ _ _ (by omega)).trans ((f5 _ _ _ (by omega)).trans ((f4 _ _ _ (by omega)).trans ((f3 _ _ _ (by omega)).trans ((f2 _ _ _ (by omega)).trans y1))))))
  have e29 : K5 12 0 29 = nI E.2.2.2.2.length := (f8 _ _ _ (by omega)).trans ((f7 _ _ _ (by omega)).trans ((f6 _ _ _ (by omega)).trans ((f5 _ _ _ (by omega)).trans ((f4 _ _ _ (by omega)).trans ((f3 _ _ _ (by omega)).trans y2)))))
  have e30 : K5 12 0 30 = nI (zn E) := (f8 _ _ _ (by omega)).trans ((f7 _ _ _ (by omega)).trans ((f6 _ _ _ (by omega)).trans ((f5 _ _ _ (by omega)).trans y3)))
  have e56 : ∀ j, j < 6 → K5 56 0 j = nI (E.2.1 j) := fun j hj => (f8 _ _ _ (by omega)).trans ((f7 _ _ _ (by omega)).trans ((f6 _ _ _ (by omega)).trans ((f5 _ _ _ (by omega)).trans ((f4 _ _ _ (by omega)).trans ((k1 j hj).trans ((f2 _ _ _ (by omega)).trans ((f1 _ _ _ (by omega)).trans (m4 j hj))))))))
  have e58 : ∀ c, c < 25 → K5 58 0 c = nI (zd_sh E.2.2.2.1 c) := fun c hc => (f8 _ _ _ (by omega)).trans (k4 c hc)
  have e57 : ∀ i (h : i < E.2.2.1.length) j, j < 4 → K5 57 0 (4 * i + j) = nI (E.2.2.1[i] j) := fun i hi j hj => (f8 _ _ _ (by omega)).trans ((f7 _ _ _ (by omega)).trans ((f6 _ _ _ (by omega)).trans ((k2 _ (by have : E.2.2.1.length ≤ 12 := hE.2.2.2.2.1; omega)).trans ((f4 _ _ _ (by omega)).trans ((f3 _ _ _ (by omega)).trans ((f2 _ _ _ (by omega)).trans ((f1 _ _ _ (by omega)).trans (m5 i hi j hj))))))))
  have e59 : ∀ i (h : i < E.2.2.2.2.length) j, j < 2 → K5 59 0 (2 * i + j) = nI (E.2.2.2.2[i] j) := fun i hi j hj => (k5 _ (by have : E.2.2.2.2.length ≤ 6 := hE.2.2.2.2.2.2; omega)).trans ((f7 _ _ _ (by omega)).trans ((f6 _ _ _ (by omega)).trans ((f5 _ _ _ (by omega)).trans ((f4 _ _ _ (by omega)).trans ((f3 _ _ _ (by omega)).trans ((f2 _ _ _ (by omega)).trans ((f1 _ _ _ (by omega)).trans (m7 i hi j hj))))))))
  have mdK : md_at K5 E.2.2.1.length (zn E) (zD E.2.2.1 0) (zP0 E) := by
    have bd : ∀ f ∈ E.2.2.1, f 0 < 25 := fun f hf => by have : zLo 6 ≤ f 0 ∧ f 0 ≤ 24 := hE.2.1 f hf 0 (by decide); omega
    refine ⟨e28, hE.2.2.2.2.1, fun j hj => ?_, fun i j hij hj => ?_, fun j hj => ?_, fun c hc hno => ?_, fun c hc => rfl, rfl, rfl, rfl⟩
    · rw [D_at hj]; exact bd _ (List.getElem_mem hj)
    · rw [D_at hj, D_at (Nat.lt_trans hij hj)]
      have hlen : (zd_l E.2.2.1).length = E.2.2.1.length := List.length_map _
      have get : ∀ i (h : i < E.2.2.1.length), (zd_l E.2.2.1)[i]'(by rw [hlen]; exact h) = E.2.2.1[i] 0 := fun i h => List.getElem_map _
      have := List.pairwise_iff_getElem.mp hg.2.1.1 i j (by rw [hlen]; omega) (by rw [hlen]; exact hj) hij
      rw [get i (by omega), get j hj] at this
      exact this
    · rw [D_at hj]
      have p : ∀ a, a < 3 → zP0 E a (E.2.2.1[j] 0) = nI (E.2.2.1[j] (a + 1)) := fun a ha => by
        unfold zP0
        rw [if_neg (by omega), if_pos ha, P_at hj a ha hg.2.1.1]
      exact ⟨e57 j hj 0 (by decide), (e57 j hj 1 (by decide)).trans (p 0 (by decide)).symm, (e57 j hj 2 (by decide)).trans (p 1 (by decide)).symm, (e57 j hj 3 (by decide)).trans (p 2 (by decide)).symm⟩
    · obtain ⟨p1, p2, p3, p4, p5⟩ := P_pos (c := c) E.2.2.1 hE.2.1
      have nm : ¬ c ∈ zd_l E.2.2.1 := fun w => by
        obtain ⟨f, hf, rfl⟩ := List.mem_map.mp w
        obtain ⟨i, hi, rfl⟩ := List.mem_iff_getElem.mp hf
        exact hno i hi (D_at hi)
      have z0 : zd_P E.2.2.1 0 c = 0 := by
        have : ¬ 0 < zd_P E.2.2.1 0 c := fun w => nm (p1.mp w)
        omega
      have p : ∀ a, a < 3 → zP0 E a c = nI (zd_P E.2.2.1 a c) := fun a ha => by
        unfold zP0
        rw [if_neg (by omega), if_pos ha]
      rw [p 0 (by decide), p 1 (by decide), p 2 (by decide), z0, (p5 z0).1, (p5 z0).2]
      exact ⟨rfl, rfl, rfl⟩
  obtain ⟨K6, g6, f9, k6, k7⟩ := m_begin (d := d) (R := R) (Q := Q) hr mdK e30
  obtain ⟨X1, x1, v1, u1⟩ := wr K6 12 0 43 (nI 0)
  obtain ⟨X2, x2, v2, u2⟩ := wr X1 12 0 49 (nI 0)
  obtain ⟨X3, x3, v3, u3⟩ := wr X2 12 0 37 (nI 0)
  obtain ⟨X4, x4, v4, u4⟩ := wr X3 12 0 52 (nI 0)
  have fin : am_fr (fun a b j => a = 12 ∧ b = 0 ∧ (j = 43 ∨ j = 49 ∨ j = 37 ∨ j = 52)) K6 X4 := fr_tr (fr_tr (fr_tr (fr_mo u1 fun a b j w => by omega) (fr_mo u2 fun a b j w => by omega)) (fr_mo u3 fun a b j w => by omega)) (fr_mo u4 fun a b j w => by omega)
  have all : am_fr (fun a b j => md_S a b j ∨ (a = 12 ∧ b = 0 ∧ (j = 43 ∨ j = 49 ∨ j = 37 ∨ j = 52))) K5 X4 := fr_tr (fr_mo f9 fun a b j w => Or.inl w) (fr_mo fin fun a b j w => Or.inr w)
  have no : ∀ {a b j : Nat}, ¬ (a = 60 ∨ (a = 12 ∧ (j = 43 ∨ j = 49 ∨ j = 37 ∨ j = 52))) → X4 a b j = K5 a b j := fun {a b j} h => all _ _ _ (fun w => by unfold md_S at w; omega)
  have a28 : X4 12 0 28 = nI E.2.2.1.length := (no (by omega)).trans e28
  have b21 : Z1 12 0 21 = _ := (f1 _ _ _ (by omega)).trans m1
  have b23 : Z1 12 0 23 = _ := (f1 _ _ _ (by omega)).trans m3
  refine ⟨X4, ?_, ?_, fun j hj => (no (by omega)).trans (e56 j hj), fun c hc => (no (by omega)).trans (e58 c hc), md_fr mdK all (fun w => by unfold md_S at w; omega) (fun j w => by unfold md_S at w; omega), ⟨(no (by omega)).trans e29, fun i hi => ?_⟩, mm_fr k6 fin (fun j _ => by omega) (by omega), fun j h1 h2 => (fin _ _ _ (by omega)).trans (k7 j h1 h2), (no (by omega)).trans e30, (u4 _ _ _ (by omega)).trans ((u3 _ _ _ (by omega)).trans ((u2 _ _ _ (by omega)).trans v1)), (u4 _ _ _ (by omega)).trans ((u3 _ _ _ (by omega)).trans v2), (u4 _ _ _ (by omega)).trans v3, v4⟩
  · have r24 := mr24 hr
    have t1 : am_cal (d + 1) 200 [.ref (am_mk 12 0)] I R Q = am_ev (d + 1) 200 18 [.ref (am_mk 12 0), .int (nI 0)] [] Z2 R Q := by
      rw [s200]
      simp (disch := first | omega | assumption) only [s200_0, s200_1, s200_2, s200_5, s200_8, s200_9, s200_10, s200_13, s200_16, s200_17, s200_19, s200_21, s200_24, s200_25, s200_28, s200_29, s200_30, s200_33, s200_34, s200_35, s200_36, s200_39, s200_42, s200_43, s200_44, s200_47, s200_48, s200_49, s200_50, s200_53, s200_54, s200_55, s200_56, s200_59, s200_60, s200_61, s200_62, s200_64, s200_67, s200_68, s200_71, s200_72, s200_73, s200_76, s200_77, s200_78, s200_79, s200_82, s200_85, s200_86, s200_87, s200_88, s200_90, s200_93, s200_94, s200_97, s200_98, s200_100, s200_101, s200_104, s200_107, s200_108, s200_109, s200_110, s200_111, s200_114, s200_117, s200_118, s200_121, s200_122, s200_125, s200_126, s200_127, s200_128, s200_129, s200_130, s200_133, s200_134, s200_135, s200_136, s200_137, s200_138, s200_139, s200_140, s200_143, s200_146, s200_147, s200_148, s200_149, s200_151, s200_154, s200_155, s200_158, s200_159, s200_160, s200_163, s200_164, s200_165, s200_166, s200_169, s200_172, s200_173, s200_176, s200_177, s200_178, s200_181, s200_182, s200_183, s200_186, s200_187, s200_188, s200_191, s200_192, s200_193, s200_196, s200_197, s200_200, nI_le2, nI_lt2, nI_eq2, nI_lt0, nI_0le, nI_0lt, nI_le0, nI_eq0, nI_clamp, nI_add, bu_nI, bb_0, bb_1, rf_s, rf_n, tl_s, tl_n, am_th_some, if_true, if_false, sI_eq, uI_eq, and_self, true_and, and_true, not_false_eq_true, not_true_eq_false, Nat.reduceEqDiff, Nat.reduceLeDiff, Nat.reduceLT, Nat.reduceAdd, Nat.reduceMul, Nat.reduceSub, Nat.zero_add, m1, b23, z1, z2]
    have t2 : am_ev (d + 1) 200 42 [.ref (am_mk 12 0), .int (nI 6)] [] K1 R Q = am_ev (d + 1) 200 61 [.ref (am_mk 12 0), .int (nI 0)] [] Z3 R Q := by
      simp (disch := first | omega | assumption) only [s200_0, s200_1, s200_2, s200_5, s200_8, s200_9, s200_10, s200_13, s200_16, s200_17, s200_18, s200_19, s200_21, s200_24, s200_25, s200_28, s200_29, s200_30, s200_33, s200_34, s200_35, s200_36, s200_39, s200_42, s200_43, s200_44, s200_47, s200_48, s200_49, s200_50, s200_53, s200_54, s200_55, s200_56, s200_59, s200_60, s200_62, s200_64, s200_67, s200_68, s200_71, s200_72, s200_73, s200_76, s200_77, s200_78, s200_79, s200_82, s200_85, s200_86, s200_87, s200_88, s200_90, s200_93, s200_94, s200_97, s200_98, s200_100, s200_101, s200_104, s200_107, s200_108, s200_109, s200_110, s200_111, s200_114, s200_117, s200_118, s200_121, s200_122, s200_125, s200_126, s200_127, s200_128, s200_129, s200_130, s200_133, s200_134, s200_135, s200_136, s200_137, s200_138, s200_139, s200_140, s200_143, s200_146, s200_147, s200_148, s200_149, s200_151, s200_154, s200_155, s200_158, s200_159, s200_160, s200_163, s200_164, s200_165, s200_166, s200_169, s200_172, s200_173, s200_176, s200_177, s200_178, s200_181, s200_182, s200_183, s200_186, s200_187, s200_188, s200_191, s200_192, s200_193, s200_196, s200_197, s200_200, nI_le2, nI_lt2, nI_eq2, nI_lt0, nI_0le, nI_0lt, nI_le0, nI_eq0, nI_clamp, nI_add, bu_nI, bb_0, bb_1, rf_s, rf_n, tl_s, tl_n, am_th_some, if_true, if_false, sI_eq, uI_eq, and_self, true_and, and_true, not_false_eq_true, not_true_eq_false, Nat.reduceEqDiff, Nat.reduceLeDiff, Nat.reduceLT, Nat.reduceAdd, Nat.reduceMul, Nat.reduceSub, Nat.zero_add, r24, o0, o1, nI_mul, z3]
    have t3 : am_ev (d + 1) 200 85 [.ref (am_mk 12 0), .int (nI 48)] [] K2 R Q = am_ev (d + 1) 200 87 [.ref (am_mk 12 0), .int (nI 0)] [] K2 R Q := by
      simp (disch := first | omega | assumption) only [s200_0, s200_1, s200_2, s200_5, s200_8, s200_9, s200_10, s200_13, s200_16, s200_17, s200_18, s200_19, s200_21, s200_24, s200_25, s200_28, s200_29, s200_30, s200_33, s200_34, s200_35, s200_36, s200_39, s200_42, s200_43, s200_44, s200_47, s200_48, s200_49, s200_50, s200_53, s200_54, s200_55, s200_56, s200_59, s200_60, s200_61, s200_62, s200_64, s200_67, s200_68, s200_71, s200_72, s200_73, s200_76, s200_77, s200_78, s200_79, s200_82, s200_85, s200_86, s200_88, s200_90, s200_93, s200_94, s200_97, s200_98, s200_100, s200_101, s200_104, s200_107, s200_108, s200_109, s200_110, s200_111, s200_114, s200_117, s200_118, s200_121, s200_122, s200_125, s200_126, s200_127, s200_128, s200_129, s200_130, s200_133, s200_134, s200_135, s200_136, s200_137, s200_138, s200_139, s200_140, s200_143, s200_146, s200_147, s200_148, s200_149, s200_151, s200_154, s200_155, s200_158, s200_159, s200_160, s200_163, s200_164, s200_165, s200_166, s200_169, s200_172, s200_173, s200_176, s200_177, s200_178, s200_181, s200_182, s200_183, s200_186, s200_187, s200_188, s200_191, s200_192, s200_193, s200_196, s200_197, s200_200, nI_le2, nI_lt2, nI_eq2, nI_lt0, nI_0le, nI_0lt, nI_le0, nI_eq0, nI_clamp, nI_add, bu_nI, bb_0, bb_1, rf_s, rf_n, tl_s, tl_n, am_th_some, if_true, if_false, sI_eq, uI_eq, and_self, true_and, and_true, not_false_eq_true, not_true_eq_false, Nat.reduceEqDiff, Nat.reduceLeDiff, Nat.reduceLT, Nat.reduceAdd, Nat.reduceMul, Nat.reduceSub, Nat.zero_add]
    have t4 : am_ev (d + 1) 200 107 [.ref (am_mk 12 0), .int (nI 25)] [] K3 R Q = am_ev (d + 1) 200 109 [.ref (am_mk 12 0), .int (nI 0)] [] K3 R Q := by
      simp (disch := first | omega | assumption) only [s200_0, s200_1, s200_2, s200_5, s200_8, s200_9, s200_10, s200_13, s200_16, s200_17, s200_18, s200_19, s200_21, s200_24, s200_25, s200_28, s200_29, s200_30, s200_33, s200_34, s200_35, s200_36, s200_39, s200_42, s200_43, s200_44, s200_47, s200_48, s200_49, s200_50, s200_53, s200_54, s200_55, s200_56, s200_59, s200_60, s200_61, s200_62, s200_64, s200_67, s200_68, s200_71, s200_72, s200_73, s200_76, s200_77, s200_78, s200_79, s200_82, s200_85, s200_86, s200_87, s200_88, s200_90, s200_93, s200_94, s200_97, s200_98, s200_100, s200_101, s200_104, s200_107, s200_108, s200_110, s200_111, s200_114, s200_117, s200_118, s200_121, s200_122, s200_125, s200_126, s200_127, s200_128, s200_129, s200_130, s200_133, s200_134, s200_135, s200_136, s200_137, s200_138, s200_139, s200_140, s200_143, s200_146, s200_147, s200_148, s200_149, s200_151, s200_154, s200_155, s200_158, s200_159, s200_160, s200_163, s200_164, s200_165, s200_166, s200_169, s200_172, s200_173, s200_176, s200_177, s200_178, s200_181, s200_182, s200_183, s200_186, s200_187, s200_188, s200_191, s200_192, s200_193, s200_196, s200_197, s200_200, nI_le2, nI_lt2, nI_eq2, nI_lt0, nI_0le, nI_0lt, nI_le0, nI_eq0, nI_clamp, nI_add, bu_nI, bb_0, bb_1, rf_s, rf_n, tl_s, tl_n, am_th_some, if_true, if_false, sI_eq, uI_eq, and_self, true_and, and_true, not_false_eq_true, not_true_eq_false, Nat.reduceEqDiff, Nat.reduceLeDiff, Nat.reduceLT, Nat.reduceAdd, Nat.reduceMul, Nat.reduceSub, Nat.zero_add]
    have t5 : am_ev (d + 1) 200 146 [.ref (am_mk 12 0), .int (nI E.2.2.2.1.length)] [] K4 R Q = am_ev (d + 1) 200 148 [.ref (am_mk 12 0), .int (nI 0)] [] K4 R Q := by
      simp (disch := first | omega | assumption) only [s200_0, s200_1, s200_2, s200_5, s200_8, s200_9, s200_10, s200_13, s200_16, s200_17, s200_18, s200_19, s200_21, s200_24, s200_25, s200_28, s200_29, s200_30, s200_33, s200_34, s200_35, s200_36, s200_39, s200_42, s200_43, s200_44, s200_47, s200_48, s200_49, s200_50, s200_53, s200_54, s200_55, s200_56, s200_59, s200_60, s200_61, s200_62, s200_64, s200_67, s200_68, s200_71, s200_72, s200_73, s200_76, s200_77, s200_78, s200_79, s200_82, s200_85, s200_86, s200_87, s200_88, s200_90, s200_93, s200_94, s200_97, s200_98, s200_100, s200_101, s200_104, s200_107, s200_108, s200_109, s200_110, s200_111, s200_114, s200_117, s200_118, s200_121, s200_122, s200_125, s200_126, s200_127, s200_128, s200_129, s200_130, s200_133, s200_134, s200_135, s200_136, s200_137, s200_138, s200_139, s200_140, s200_143, s200_146, s200_147, s200_149, s200_151, s200_154, s200_155, s200_158, s200_159, s200_160, s200_163, s200_164, s200_165, s200_166, s200_169, s200_172, s200_173, s200_176, s200_177, s200_178, s200_181, s200_182, s200_183, s200_186, s200_187, s200_188, s200_191, s200_192, s200_193, s200_196, s200_197, s200_200, nI_le2, nI_lt2, nI_eq2, nI_lt0, nI_0le, nI_0lt, nI_le0, nI_eq0, nI_clamp, nI_add, bu_nI, bb_0, bb_1, rf_s, rf_n, tl_s, tl_n, am_th_some, if_true, if_false, sI_eq, uI_eq, and_self, true_and, and_true, not_false_eq_true, not_true_eq_false, Nat.reduceEqDiff, Nat.reduceLeDiff, Nat.reduceLT, Nat.reduceAdd, Nat.reduceMul, Nat.reduceSub, Nat.zero_add]
    have t6 : am_ev (d + 1) 200 172 [.ref (am_mk 12 0), .int (nI 12)] [] K5 R Q = some (some (.int (nI E.2.2.1.length)), X4, R, Q) := by
      simp (disch := first | omega | assumption) only [s200_0, s200_1, s200_2, s200_5, s200_8, s200_9, s200_10, s200_13, s200_16, s200_17, s200_18, s200_19, s200_21, s200_24, s200_25, s200_28, s200_29, s200_30, s200_33, s200_34, s200_35, s200_36, s200_39, s200_42, s200_43, s200_44, s200_47, s200_48, s200_49, s200_50, s200_53, s200_54, s200_55, s200_56, s200_59, s200_60, s200_61, s200_62, s200_64, s200_67, s200_68, s200_71, s200_72, s200_73, s200_76, s200_77, s200_78, s200_79, s200_82, s200_85, s200_86, s200_87, s200_88, s200_90, s200_93, s200_94, s200_97, s200_98, s200_100, s200_101, s200_104, s200_107, s200_108, s200_109, s200_110, s200_111, s200_114, s200_117, s200_118, s200_121, s200_122, s200_125, s200_126, s200_127, s200_128, s200_129, s200_130, s200_133, s200_134, s200_135, s200_136, s200_137, s200_138, s200_139, s200_140, s200_143, s200_146, s200_147, s200_148, s200_149, s200_151, s200_154, s200_155, s200_158, s200_159, s200_160, s200_163, s200_164, s200_165, s200_166, s200_169, s200_172, s200_173, s200_176, s200_177, s200_178, s200_181, s200_182, s200_183, s200_186, s200_187, s200_188, s200_191, s200_192, s200_193, s200_196, s200_197, s200_200, nI_le2, nI_lt2, nI_eq2, nI_lt0, nI_0le, nI_0lt, nI_le0, nI_eq0, nI_clamp, nI_add, bu_nI, bb_0, bb_1, rf_s, rf_n, tl_s, tl_n, am_th_some, if_true, if_false, sI_eq, uI_eq, and_self, true_and, and_true, not_false_eq_true, not_true_eq_false, Nat.reduceEqDiff, Nat.reduceLeDiff, Nat.reduceLT, Nat.reduceAdd, Nat.reduceMul, Nat.reduceSub, Nat.zero_add, g6, x1, x2, x3, x4, a28]
    exact t1.trans (g1.trans (t2.trans (g2.trans (t3.trans (g3.trans (t4.trans (g4.trans (t5.trans (g5.trans t6)))))))))
  · refine fr_tr (fr_mo far fun a b j w => ?_) (fr_mo all fun a b j w => ?_)
    · unfold tmS; omega
    · unfold md_S at w; unfold tmS; omega
  · rw [D_at hi, D_at hi]
    exact ⟨(no (by omega)).trans (e59 i hi 0 (by decide)), (no (by omega)).trans (e59 i hi 1 (by decide))⟩
end
