/-! The model: FOOD spreads, bursts; a whole TEN. -/
section
variable {d n w h : Nat} {I : am_I} {R : am_R} {Q : am_Q} {P : Nat → Nat → Int32} {V : (Nat → Int32) → Int32} {pw : Int32} {G : (Nat → Int32) → Prop}
theorem flow_M {sp : Int32} {k : Nat} : am_fold (fun a s => a + if pp_f P (sp_M w h k s) then (P 2 (sp_M w h k s).toNatClampNeg - P 2 k) * sp / nI 20 else nI 0) (nI 0) 4 = sp_flow (sp_B w h) sp P k := by
  have e : sp_flow (sp_B w h) sp P k = am_fold (fun a s => a + if pp_f P (sp_B w h k s) then (P 2 (sp_B w h k s).toNatClampNeg - P 2 k) * sp / nI 20 else nI 0) (nI 0) 4 := fold_congr fun x c _ => by
    by_cases e : pp_f P (sp_B w h k c)
    · rw [if_pos e, if_pos e]
    · rw [if_neg e, if_neg e, nI_0, Int32.add_zero]
  rw [e]
  simp only [am_fold]
  rw [show sp_M w h k 0 = sp_B w h k 2 from rfl, show sp_M w h k 1 = sp_B w h k 3 from rfl, show sp_M w h k 2 = sp_B w h k 1 from rfl, show sp_M w h k 3 = sp_B w h k 0 from rfl]
  exact sum4 _ _ _ _ _
theorem m_spread (hr : mm_R R) (ho : mo_at I w h n) (hP : mm_at I P) (hn : P 4 0 = nI n) (hn2 : n ≤ 25) : ∃ J, am_cal (d + 3) 216 [.ref (am_mk 12 0)] I R Q = some (none, J, R, Q) ∧ am_fr mk_S I J ∧ mm_at J (fun a j => if a = 4 then P a j else sp_spread (sp_B w h) (I 56 0 3) n P a j) := by
  obtain ⟨hw, hh, w1, w5, h5, hwh⟩ := ho
  have sc : ∀ {J}, am_fr (fun a _ _ => a = 62) I J → mm_at J P ∧ am_fr mk_S I J ∧ J 12 0 30 = nI n ∧ ∀ j, J 56 0 j = I 56 0 j := fun {J} hf => ⟨mm_fr hP hf (fun j _ q => by omega) (fun q => by omega), fr_mo hf (fun a b j q => by unfold mk_S; omega), (hf _ _ _ (fun q => by omega)).trans (hP.2.1.trans hn), fun j => hf _ _ _ (fun q => by omega)⟩
  let g : Nat → Int32 := fun j => if P 0 j ≤ 0 then nI 0 else sp_flow (sp_B w h) (I 56 0 3) P j
  let W : Nat → Nat → Int32 := fun a j => if a = 4 then P a j else sp_spread (sp_B w h) (I 56 0 3) n P a j
  have b3 : am_bu (nI 3) 6 = True := bu_nI (by decide)
  have loop2 : ∀ J, am_fr (fun a _ _ => a = 62) I J → (∀ j, j < n → J 62 0 j = g j) → ∀ l2 l3 : Value, ∃ K, am_ev (d + 3) 216 103 [.ref (am_mk 12 0), .int (nI 0), l2, l3] [] J R Q = some (none, K, R, Q) ∧ am_fr mk_S I K ∧ mm_at K W := by
    intro J hJ hg l2 l3
    refine loop_inv (f := fun K c => am_ev (d + 3) 216 103 [.ref (am_mk 12 0), .int (nI c), l2, l3] [] K R Q) (Inv := fun c K => am_fr mk_S I K ∧ (∀ j, j < n → K 62 0 j = g j) ∧ mm_at K (fun a j => if j < c ∧ a < 4 then W a j else P a j)) (Post := fun y => ∃ K, y = some (none, K, R, Q) ∧ am_fr mk_S I K ∧ mm_at K W) (n := n) ?_ ?_ (Nat.zero_le _) ⟨(sc hJ).2.1, hg, mm_congr (sc hJ).1 (fun a j _ => by rw [if_neg (fun q => absurd q.1 (Nat.not_lt_zero _))])⟩
    · intro c K hc ⟨f1, f2, f3⟩
      left
      have h1 : ¬ n ≤ c := by omega
      have hc4 : K 12 0 30 = nI n := f3.2.1.trans ((if_neg (fun q => absurd q.2 (by decide))).trans hn)
      obtain ⟨a0, a1, a2, a3⟩ := f3.1 c (by omega)
      simp only [Nat.lt_irrefl, false_and, if_false] at a0 a1 a2 a3
      have e62 := f2 c hc
      have fin : ∀ (ai : Nat) (x : Int32), ai < 4 → (∀ a, a < 4 → W a c = if a = ai then x else P a c) → ∀ a j, sp_up (fun a j => if j < c ∧ a < 4 then W a j else P a j) ai c x a j = if j < c + 1 ∧ a < 4 then W a j else P a j := by
        intro ai x hai hW a j
        by_cases e4 : a < 4
        · by_cases e1 : j = c
          · subst e1
            rw [if_pos ⟨Nat.lt_succ_self _, e4⟩, hW a e4]
            by_cases e2 : a = ai
            · subst e2; rw [up_eq, if_pos rfl]
            · rw [up_na e2, if_neg e2, if_neg (fun q => absurd q.1 (Nat.lt_irrefl _))]
          · rw [up_nc e1]
            by_cases e2 : j < c
            · rw [if_pos ⟨e2, e4⟩, if_pos ⟨by omega, e4⟩]
            · rw [if_neg (fun q => e2 q.1), if_neg (fun q => absurd q.1 (by omega))]
        · rw [up_na (by omega), if_neg (fun q => e4 q.2), if_neg (fun q => e4 q.2)]
      rw [s216_103]
      by_cases b1 : P 1 c ≤ 0
      · refine ⟨_, by simp (disch := first | omega | assumption) only [s216_0, s216_1, s216_3, s216_4, s216_7, s216_10, s216_11, s216_14, s216_15, s216_16, s216_17, s216_18, s216_20, s216_21, s216_24, s216_25, s216_26, s216_29, s216_32, s216_33, s216_34, s216_35, s216_38, s216_39, s216_40, s216_43, s216_44, s216_45, s216_46, s216_47, s216_48, s216_51, s216_54, s216_55, s216_58, s216_60, s216_61, s216_62, s216_63, s216_64, s216_67, s216_69, s216_70, s216_71, s216_72, s216_73, s216_74, s216_77, s216_78, s216_79, s216_80, s216_82, s216_83, s216_86, s216_87, s216_88, s216_89, s216_92, s216_95, s216_98, s216_101, s216_102, s216_104, s216_105, s216_108, s216_111, s216_112, s216_115, s216_117, s216_118, s216_119, s216_120, s216_123, s216_124, s216_127, s216_129, s216_130, s216_131, s216_132, s216_133, s216_136, s216_138, s216_139, s216_140, s216_141, s216_142, s216_143, s216_146, s216_147, s216_148, s216_151, s216_152, s216_155, s216_156, s216_159, s216_160, s216_163, s216_165, s216_166, s216_167, s216_168, s216_169, s216_172, s216_174, s216_175, s216_176, s216_177, s216_178, s216_181, s216_182, s216_183, s216_184, s216_187, s216_188, s216_191, s216_194, nI_le2, nI_lt2, nI_eq2, nI_lt0, nI_0le, nI_0lt, nI_le0, nI_eq0, nI_clamp, nI_add, bu_nI, bb_0, bb_1, rf_s, rf_n, tl_s, tl_n, am_th_some, if_true, if_false, sI_eq, uI_eq, and_self, true_and, and_true, not_false_eq_true, not_true_eq_false, Nat.reduceEqDiff, Nat.reduceLeDiff, Nat.reduceLT, Nat.reduceAdd, Nat.reduceMul, Nat.reduceSub, Nat.zero_add, mr31 hr, mr35 hr, hc4, h1, a1, a2, b1, e62] <;> rfl, fr_s f1 (Or.inl ⟨rfl, by omega⟩), fun j hj => (congrFun (sI_na (by decide)) j).trans (f2 j hj), mm_congr (mm_u2 f3 _ (by omega)) (fun a j _ => fin 2 _ (by decide) (fun a ha => ?_) a j)⟩
        show (if a = 4 then P a c else sp_spread (sp_B w h) (I 56 0 3) n P a c) = _
        rw [if_neg (by omega), sp_spread, if_pos hc, if_pos b1]
      · refine ⟨_, by simp (disch := first | omega | assumption) only [s216_0, s216_1, s216_3, s216_4, s216_7, s216_10, s216_11, s216_14, s216_15, s216_16, s216_17, s216_18, s216_20, s216_21, s216_24, s216_25, s216_26, s216_29, s216_32, s216_33, s216_34, s216_35, s216_38, s216_39, s216_40, s216_43, s216_44, s216_45, s216_46, s216_47, s216_48, s216_51, s216_54, s216_55, s216_58, s216_60, s216_61, s216_62, s216_63, s216_64, s216_67, s216_69, s216_70, s216_71, s216_72, s216_73, s216_74, s216_77, s216_78, s216_79, s216_80, s216_82, s216_83, s216_86, s216_87, s216_88, s216_89, s216_92, s216_95, s216_98, s216_101, s216_102, s216_104, s216_105, s216_108, s216_111, s216_112, s216_115, s216_117, s216_118, s216_119, s216_120, s216_123, s216_124, s216_127, s216_129, s216_130, s216_131, s216_132, s216_133, s216_136, s216_138, s216_139, s216_140, s216_141, s216_142, s216_143, s216_146, s216_147, s216_148, s216_151, s216_152, s216_155, s216_156, s216_159, s216_160, s216_163, s216_165, s216_166, s216_167, s216_168, s216_169, s216_172, s216_174, s216_175, s216_176, s216_177, s216_178, s216_181, s216_182, s216_183, s216_184, s216_187, s216_188, s216_191, s216_194, nI_le2, nI_lt2, nI_eq2, nI_lt0, nI_0le, nI_0lt, nI_le0, nI_eq0, nI_clamp, nI_add, bu_nI, bb_0, bb_1, rf_s, rf_n, tl_s, tl_n, am_th_some, if_true, if_false, sI_eq, uI_eq, and_self, true_and, and_true, not_false_eq_true, not_true_eq_false, Nat.reduceEqDiff, Nat.reduceLeDiff, Nat.reduceLT, Nat.reduceAdd, Nat.reduceMul, Nat.reduceSub, Nat.zero_add, mr31 hr, mr35 hr, hc4, h1, a1, a2, b1, e62] <;> rfl, fr_s f1 (Or.inl ⟨rfl, by omega⟩), fun j hj => (congrFun (sI_na (by decide)) j).trans (f2 j hj), mm_congr (mm_u1 f3 _ (by omega)) (fun a j _ => fin 1 _ (by decide) (fun a ha => ?_) a j)⟩
        show (if a = 4 then P a c else sp_spread (sp_B w h) (I 56 0 3) n P a c) = _
        rw [if_neg (by omega), sp_spread, if_pos hc, if_neg b1]
    · intro K ⟨f1, f2, f3⟩
      have hc4 : K 12 0 30 = nI n := f3.2.1.trans ((if_neg (fun q => absurd q.2 (by decide))).trans hn)
      refine ⟨K, ?_, f1, mm_congr f3 fun a j hj => ?_⟩
      · rw [s216_103]
        simp (disch := first | omega | assumption) only [s216_0, s216_1, s216_3, s216_4, s216_7, s216_10, s216_11, s216_14, s216_15, s216_16, s216_17, s216_18, s216_20, s216_21, s216_24, s216_25, s216_26, s216_29, s216_32, s216_33, s216_34, s216_35, s216_38, s216_39, s216_40, s216_43, s216_44, s216_45, s216_46, s216_47, s216_48, s216_51, s216_54, s216_55, s216_58, s216_60, s216_61, s216_62, s216_63, s216_64, s216_67, s216_69, s216_70, s216_71, s216_72, s216_73, s216_74, s216_77, s216_78, s216_79, s216_80, s216_82, s216_83, s216_86, s216_87, s216_88, s216_89, s216_92, s216_95, s216_98, s216_101, s216_102, s216_104, s216_105, s216_108, s216_111, s216_112, s216_115, s216_117, s216_118, s216_119, s216_120, s216_123, s216_124, s216_127, s216_129, s216_130, s216_131, s216_132, s216_133, s216_136, s216_138, s216_139, s216_140, s216_141, s216_142, s216_143, s216_146, s216_147, s216_148, s216_151, s216_152, s216_155, s216_156, s216_159, s216_160, s216_163, s216_165, s216_166, s216_167, s216_168, s216_169, s216_172, s216_174, s216_175, s216_176, s216_177, s216_178, s216_181, s216_182, s216_183, s216_184, s216_187, s216_188, s216_191, s216_194, nI_le2, nI_lt2, nI_eq2, nI_lt0, nI_0le, nI_0lt, nI_le0, nI_eq0, nI_clamp, nI_add, bu_nI, bb_0, bb_1, rf_s, rf_n, tl_s, tl_n, am_th_some, if_true, if_false, sI_eq, uI_eq, and_self, true_and, and_true, not_false_eq_true, not_true_eq_false, Nat.reduceEqDiff, Nat.reduceLeDiff, Nat.reduceLT, Nat.reduceAdd, Nat.reduceMul, Nat.reduceSub, Nat.zero_add, hc4, Nat.le_refl]
      · by_cases e : j < n ∧ a < 4
        · rw [if_pos e]
        · rw [if_neg e]
          show _ = (if a = 4 then P a j else sp_spread (sp_B w h) (I 56 0 3) n P a j)
          by_cases e4 : a = 4
          · rw [if_pos e4]
          · rw [if_neg e4, sp_spread, if_neg (fun q => e ⟨q, by omega⟩)]
  have loop1 : ∀ l2 l3 : Value, ∃ K, am_ev (d + 3) 216 2 [.ref (am_mk 12 0), .int (nI 0), l2, l3] [] I R Q = some (none, K, R, Q) ∧ am_fr mk_S I K ∧ mm_at K W := by
    intro l2 l3
    refine loop_inv (f := fun (b : am_I × Value × Value) c => am_ev (d + 3) 216 2 [.ref (am_mk 12 0), .int (nI c), b.2.1, b.2.2] [] b.1 R Q) (Inv := fun c b => am_fr (fun a _ _ => a = 62) I b.1 ∧ ∀ j, j < c → b.1 62 0 j = g j) (Post := fun y => ∃ K, y = some (none, K, R, Q) ∧ am_fr mk_S I K ∧ mm_at K W) (n := n) ?_ ?_ (Nat.zero_le _) (a := (I, l2, l3)) ⟨fr_rf, fun j hj => absurd hj (Nat.not_lt_zero _)⟩
    · intro c ⟨K, l2, l3⟩ hc ⟨f1, f2⟩
      left
      have f1 : am_fr (fun a _ _ => a = 62) I K := f1
      have f2 : ∀ j, j < c → K 62 0 j = g j := f2
      obtain ⟨s1, s2, s3, s4⟩ := sc f1
      have h1 : ¬ n ≤ c := by omega
      have fin : ∀ x, x = g c → am_fr (fun a _ _ => a = 62) I (am_sI K 62 0 (am_uI (K 62 0) c x)) ∧ ∀ j, j < c + 1 → am_sI K 62 0 (am_uI (K 62 0) c x) 62 0 j = g j := by
        intro x hx
        refine ⟨fr_f f1 (fun _ => rfl), fun j hj => ?_⟩
        rw [sI_eq]
        by_cases e : j = c
        · subst e; rw [uI_eq, hx]
        · rw [uI_ne e, f2 j (by omega)]
      have base : am_ev (d + 3) 216 2 [.ref (am_mk 12 0), .int (nI c), l2, l3] [] K R Q = am_ev (d + 3) 216 19 [.ref (am_mk 12 0), .int (nI c), .int (nI 0), l3] [] (am_sI K 62 0 (am_uI (K 62 0) c (nI 0))) R Q := by
        rw [s216_2]
        simp (disch := first | omega | assumption) only [s216_0, s216_1, s216_3, s216_4, s216_7, s216_10, s216_11, s216_14, s216_15, s216_16, s216_17, s216_18, s216_20, s216_21, s216_24, s216_25, s216_26, s216_29, s216_32, s216_33, s216_34, s216_35, s216_38, s216_39, s216_40, s216_43, s216_44, s216_45, s216_46, s216_47, s216_48, s216_51, s216_54, s216_55, s216_58, s216_60, s216_61, s216_62, s216_63, s216_64, s216_67, s216_69, s216_70, s216_71, s216_72, s216_73, s216_74, s216_77, s216_78, s216_79, s216_80, s216_82, s216_83, s216_86, s216_87, s216_88, s216_89, s216_92, s216_95, s216_98, s216_101, s216_102, s216_104, s216_105, s216_108, s216_111, s216_112, s216_115, s216_117, s216_118, s216_119, s216_120, s216_123, s216_124, s216_127, s216_129, s216_130, s216_131, s216_132, s216_133, s216_136, s216_138, s216_139, s216_140, s216_141, s216_142, s216_143, s216_146, s216_147, s216_148, s216_151, s216_152, s216_155, s216_156, s216_159, s216_160, s216_163, s216_165, s216_166, s216_167, s216_168, s216_169, s216_172, s216_174, s216_175, s216_176, s216_177, s216_178, s216_181, s216_182, s216_183, s216_184, s216_187, s216_188, s216_191, s216_194, nI_le2, nI_lt2, nI_eq2, nI_lt0, nI_0le, nI_0lt, nI_le0, nI_eq0, nI_clamp, nI_add, bu_nI, bb_0, bb_1, rf_s, rf_n, tl_s, tl_n, am_th_some, if_true, if_false, sI_eq, uI_eq, and_self, true_and, and_true, not_false_eq_true, not_true_eq_false, Nat.reduceEqDiff, Nat.reduceLeDiff, Nat.reduceLT, Nat.reduceAdd, Nat.reduceMul, Nat.reduceSub, Nat.zero_add, mr35 hr, s3, h1]
      have sf : ∀ f, mm_at (am_sI K 62 0 f) P := fun f => (sc (J := am_sI K 62 0 f) (fr_f f1 (fun _ => rfl))).1
      have hfo : ∀ f x, am_cal (d + 2) 204 [.ref (am_mk 12 0), .int x] (am_sI K 62 0 f) R Q = some (some (.int (if pp_f P x then nI 1 else nI 0)), am_sI K 62 0 f, R, Q) := fun f x => m_isFood (d := d) hr (sf f) hn hn2
      by_cases b0 : P 0 c ≤ 0
      · have e : ¬ pp_f P (nI c) := fun q => ((pp_f_k hn hn2 (by omega)).mp q).2 b0
        refine ⟨(_, .int (nI 0), l3), base.trans (by rw [s216_19]; simp (disch := first | omega | assumption) only [s216_0, s216_1, s216_3, s216_4, s216_7, s216_10, s216_11, s216_14, s216_15, s216_16, s216_17, s216_18, s216_20, s216_21, s216_24, s216_25, s216_26, s216_29, s216_32, s216_33, s216_34, s216_35, s216_38, s216_39, s216_40, s216_43, s216_44, s216_45, s216_46, s216_47, s216_48, s216_51, s216_54, s216_55, s216_58, s216_60, s216_61, s216_62, s216_63, s216_64, s216_67, s216_69, s216_70, s216_71, s216_72, s216_73, s216_74, s216_77, s216_78, s216_79, s216_80, s216_82, s216_83, s216_86, s216_87, s216_88, s216_89, s216_92, s216_95, s216_98, s216_101, s216_102, s216_104, s216_105, s216_108, s216_111, s216_112, s216_115, s216_117, s216_118, s216_119, s216_120, s216_123, s216_124, s216_127, s216_129, s216_130, s216_131, s216_132, s216_133, s216_136, s216_138, s216_139, s216_140, s216_141, s216_142, s216_143, s216_146, s216_147, s216_148, s216_151, s216_152, s216_155, s216_156, s216_159, s216_160, s216_163, s216_165, s216_166, s216_167, s216_168, s216_169, s216_172, s216_174, s216_175, s216_176, s216_177, s216_178, s216_181, s216_182, s216_183, s216_184, s216_187, s216_188, s216_191, s216_194, nI_le2, nI_lt2, nI_eq2, nI_lt0, nI_0le, nI_0lt, nI_le0, nI_eq0, nI_clamp, nI_add, bu_nI, bb_0, bb_1, rf_s, rf_n, tl_s, tl_n, am_th_some, if_true, if_false, sI_eq, uI_eq, and_self, true_and, and_true, not_false_eq_true, not_true_eq_false, Nat.reduceEqDiff, Nat.reduceLeDiff, Nat.reduceLT, Nat.reduceAdd, Nat.reduceMul, Nat.reduceSub, Nat.zero_add, hfo, if_neg e] <;> rfl), fin (nI 0) (if_pos b0).symm⟩
      · have e : pp_f P (nI c) := (pp_f_k hn hn2 (by omega)).mpr ⟨hc, b0⟩
        have inner : ∃ l3', am_ev (d + 3) 216 19 [.ref (am_mk 12 0), .int (nI c), .int (nI 0), l3] [] (am_sI K 62 0 (am_uI (K 62 0) c (nI 0))) R Q = am_ev (d + 3) 216 2 [.ref (am_mk 12 0), .int (nI (c + 1)), .int (nI 4), l3'] [] (am_sI K 62 0 (am_uI (K 62 0) c (sp_flow (sp_B w h) (I 56 0 3) P c))) R Q := by
          refine loop_inv (f := fun (b : Int32 × Value) s => am_ev (d + 3) 216 19 [.ref (am_mk 12 0), .int (nI c), .int (nI s), b.2] [] (am_sI K 62 0 (am_uI (K 62 0) c b.1)) R Q) (Inv := fun s b => b.1 = am_fold (fun a s => a + if pp_f P (sp_M w h c s) then (P 2 (sp_M w h c s).toNatClampNeg - P 2 c) * I 56 0 3 / nI 20 else nI 0) (nI 0) s) (Post := fun y => ∃ l3', y = am_ev (d + 3) 216 2 [.ref (am_mk 12 0), .int (nI (c + 1)), .int (nI 4), l3'] [] (am_sI K 62 0 (am_uI (K 62 0) c (sp_flow (sp_B w h) (I 56 0 3) P c))) R Q) (n := 4) ?_ ?_ (Nat.zero_le _) (a := (nI 0, l3)) rfl
          · intro s ⟨x, l3⟩ hs hi
            left
            have hi : x = am_fold (fun a s => a + if pp_f P (sp_M w h c s) then (P 2 (sp_M w h c s).toNatClampNeg - P 2 c) * I 56 0 3 / nI 20 else nI 0) (nI 0) s := hi
            have h4 : ¬ 4 ≤ s := by omega
            have hb : ∀ f, am_cal (d + 2) 206 [.ref (am_mk 12 0), .int (nI c), .int (nI s)] (am_sI K 62 0 f) R Q = some (some (.int (sp_M w h c s)), am_sI K 62 0 f, R, Q) := fun f => m_beside (d := d + 1) hr ((congrFun (sI_na (by decide)) 0).trans ((s4 0).trans hw)) ((congrFun (sI_na (by decide)) 1).trans ((s4 1).trans hh)) w1 w5 h5 (by omega) hs
            have r56 : ∀ f, am_sI K 62 0 f 56 0 3 = I 56 0 3 := fun f => (congrFun (sI_na (by decide)) 3).trans (s4 3)
            obtain ⟨c0, c1, c2, c3⟩ := s1.1 c (by omega)
            have r60c : ∀ f, am_sI K 62 0 f 60 0 (50 + c) = P 2 c := fun f => (congrFun (sI_na (by decide)) (50 + c)).trans c2
            by_cases e2 : pp_f P (sp_M w h c s)
            · obtain ⟨m, hm, em, -⟩ := pp_f_of hn hn2 e2
              obtain ⟨m0, m1, m2, m3⟩ := s1.1 m (by omega)
              have r60m : ∀ f, am_sI K 62 0 f 60 0 (50 + m) = P 2 m := fun f => (congrFun (sI_na (by decide)) (50 + m)).trans m2
              refine ⟨(x + (P 2 m - P 2 c) * I 56 0 3 / nI 20, .int (nI m)), ?_, ?_⟩
              · rw [s216_19]
                simp (disch := first | omega | assumption) only [s216_0, s216_1, s216_3, s216_4, s216_7, s216_10, s216_11, s216_14, s216_15, s216_16, s216_17, s216_18, s216_20, s216_21, s216_24, s216_25, s216_26, s216_29, s216_32, s216_33, s216_34, s216_35, s216_38, s216_39, s216_40, s216_43, s216_44, s216_45, s216_46, s216_47, s216_48, s216_51, s216_54, s216_55, s216_58, s216_60, s216_61, s216_62, s216_63, s216_64, s216_67, s216_69, s216_70, s216_71, s216_72, s216_73, s216_74, s216_77, s216_78, s216_79, s216_80, s216_82, s216_83, s216_86, s216_87, s216_88, s216_89, s216_92, s216_95, s216_98, s216_101, s216_102, s216_104, s216_105, s216_108, s216_111, s216_112, s216_115, s216_117, s216_118, s216_119, s216_120, s216_123, s216_124, s216_127, s216_129, s216_130, s216_131, s216_132, s216_133, s216_136, s216_138, s216_139, s216_140, s216_141, s216_142, s216_143, s216_146, s216_147, s216_148, s216_151, s216_152, s216_155, s216_156, s216_159, s216_160, s216_163, s216_165, s216_166, s216_167, s216_168, s216_169, s216_172, s216_174, s216_175, s216_176, s216_177, s216_178, s216_181, s216_182, s216_183, s216_184, s216_187, s216_188, s216_191, s216_194, nI_le2, nI_lt2, nI_eq2, nI_lt0, nI_0le, nI_0lt, nI_le0, nI_eq0, nI_clamp, nI_add, bu_nI, bb_0, bb_1, rf_s, rf_n, tl_s, tl_n, am_th_some, if_true, if_false, sI_eq, uI_eq, and_self, true_and, and_true, not_false_eq_true, not_true_eq_false, Nat.reduceEqDiff, Nat.reduceLeDiff, Nat.reduceLT, Nat.reduceAdd, Nat.reduceMul, Nat.reduceSub, Nat.zero_add, mr31 hr, mr35 hr, mr24 hr, h4, hfo, hb, if_pos e, em, if_pos (em ▸ e2), r56, r60c, r60m, b3, sI_sI, uI_uI]
              · rw [fold_s, if_pos e2, ← hi, em, nI_clamp (by omega)]
            · refine ⟨(x, .int (sp_M w h c s)), ?_, ?_⟩
              · rw [s216_19]
                simp (disch := first | omega | assumption) only [s216_0, s216_1, s216_3, s216_4, s216_7, s216_10, s216_11, s216_14, s216_15, s216_16, s216_17, s216_18, s216_20, s216_21, s216_24, s216_25, s216_26, s216_29, s216_32, s216_33, s216_34, s216_35, s216_38, s216_39, s216_40, s216_43, s216_44, s216_45, s216_46, s216_47, s216_48, s216_51, s216_54, s216_55, s216_58, s216_60, s216_61, s216_62, s216_63, s216_64, s216_67, s216_69, s216_70, s216_71, s216_72, s216_73, s216_74, s216_77, s216_78, s216_79, s216_80, s216_82, s216_83, s216_86, s216_87, s216_88, s216_89, s216_92, s216_95, s216_98, s216_101, s216_102, s216_104, s216_105, s216_108, s216_111, s216_112, s216_115, s216_117, s216_118, s216_119, s216_120, s216_123, s216_124, s216_127, s216_129, s216_130, s216_131, s216_132, s216_133, s216_136, s216_138, s216_139, s216_140, s216_141, s216_142, s216_143, s216_146, s216_147, s216_148, s216_151, s216_152, s216_155, s216_156, s216_159, s216_160, s216_163, s216_165, s216_166, s216_167, s216_168, s216_169, s216_172, s216_174, s216_175, s216_176, s216_177, s216_178, s216_181, s216_182, s216_183, s216_184, s216_187, s216_188, s216_191, s216_194, nI_le2, nI_lt2, nI_eq2, nI_lt0, nI_0le, nI_0lt, nI_le0, nI_eq0, nI_clamp, nI_add, bu_nI, bb_0, bb_1, rf_s, rf_n, tl_s, tl_n, am_th_some, if_true, if_false, sI_eq, uI_eq, and_self, true_and, and_true, not_false_eq_true, not_true_eq_false, Nat.reduceEqDiff, Nat.reduceLeDiff, Nat.reduceLT, Nat.reduceAdd, Nat.reduceMul, Nat.reduceSub, Nat.zero_add, mr31 hr, mr35 hr, mr24 hr, h4, hfo, hb, if_pos e, if_neg e2, sI_sI, uI_uI, nI_0, Int32.add_zero]
              · rw [fold_s, if_neg e2, ← hi, nI_0, Int32.add_zero]
          · intro ⟨x, l3⟩ hi
            have hi : x = _ := hi
            rw [flow_M] at hi
            refine ⟨l3, ?_⟩
            rw [s216_19]
            simp (disch := first | omega | assumption) only [s216_0, s216_1, s216_3, s216_4, s216_7, s216_10, s216_11, s216_14, s216_15, s216_16, s216_17, s216_18, s216_20, s216_21, s216_24, s216_25, s216_26, s216_29, s216_32, s216_33, s216_34, s216_35, s216_38, s216_39, s216_40, s216_43, s216_44, s216_45, s216_46, s216_47, s216_48, s216_51, s216_54, s216_55, s216_58, s216_60, s216_61, s216_62, s216_63, s216_64, s216_67, s216_69, s216_70, s216_71, s216_72, s216_73, s216_74, s216_77, s216_78, s216_79, s216_80, s216_82, s216_83, s216_86, s216_87, s216_88, s216_89, s216_92, s216_95, s216_98, s216_101, s216_102, s216_104, s216_105, s216_108, s216_111, s216_112, s216_115, s216_117, s216_118, s216_119, s216_120, s216_123, s216_124, s216_127, s216_129, s216_130, s216_131, s216_132, s216_133, s216_136, s216_138, s216_139, s216_140, s216_141, s216_142, s216_143, s216_146, s216_147, s216_148, s216_151, s216_152, s216_155, s216_156, s216_159, s216_160, s216_163, s216_165, s216_166, s216_167, s216_168, s216_169, s216_172, s216_174, s216_175, s216_176, s216_177, s216_178, s216_181, s216_182, s216_183, s216_184, s216_187, s216_188, s216_191, s216_194, nI_le2, nI_lt2, nI_eq2, nI_lt0, nI_0le, nI_0lt, nI_le0, nI_eq0, nI_clamp, nI_add, bu_nI, bb_0, bb_1, rf_s, rf_n, tl_s, tl_n, am_th_some, if_true, if_false, sI_eq, uI_eq, and_self, true_and, and_true, not_false_eq_true, not_true_eq_false, Nat.reduceEqDiff, Nat.reduceLeDiff, Nat.reduceLT, Nat.reduceAdd, Nat.reduceMul, Nat.reduceSub, Nat.zero_add, Nat.le_refl]
            rw [hi]
        obtain ⟨l3', hin⟩ := inner
        exact ⟨(_, .int (nI 4), l3'), base.trans hin, fin _ (if_neg b0).symm⟩
    · intro ⟨K, l2, l3⟩ ⟨f1, f2⟩
      have f1 : am_fr (fun a _ _ => a = 62) I K := f1
      obtain ⟨s1, s2, s3, s4⟩ := sc f1
      rw [s216_2]
      simp (disch := first | omega | assumption) only [s216_0, s216_1, s216_3, s216_4, s216_7, s216_10, s216_11, s216_14, s216_15, s216_16, s216_17, s216_18, s216_20, s216_21, s216_24, s216_25, s216_26, s216_29, s216_32, s216_33, s216_34, s216_35, s216_38, s216_39, s216_40, s216_43, s216_44, s216_45, s216_46, s216_47, s216_48, s216_51, s216_54, s216_55, s216_58, s216_60, s216_61, s216_62, s216_63, s216_64, s216_67, s216_69, s216_70, s216_71, s216_72, s216_73, s216_74, s216_77, s216_78, s216_79, s216_80, s216_82, s216_83, s216_86, s216_87, s216_88, s216_89, s216_92, s216_95, s216_98, s216_101, s216_102, s216_104, s216_105, s216_108, s216_111, s216_112, s216_115, s216_117, s216_118, s216_119, s216_120, s216_123, s216_124, s216_127, s216_129, s216_130, s216_131, s216_132, s216_133, s216_136, s216_138, s216_139, s216_140, s216_141, s216_142, s216_143, s216_146, s216_147, s216_148, s216_151, s216_152, s216_155, s216_156, s216_159, s216_160, s216_163, s216_165, s216_166, s216_167, s216_168, s216_169, s216_172, s216_174, s216_175, s216_176, s216_177, s216_178, s216_181, s216_182, s216_183, s216_184, s216_187, s216_188, s216_191, s216_194, nI_le2, nI_lt2, nI_eq2, nI_lt0, nI_0le, nI_0lt, nI_le0, nI_eq0, nI_clamp, nI_add, bu_nI, bb_0, bb_1, rf_s, rf_n, tl_s, tl_n, am_th_some, if_true, if_false, sI_eq, uI_eq, and_self, true_and, and_true, not_false_eq_true, not_true_eq_false, Nat.reduceEqDiff, Nat.reduceLeDiff, Nat.reduceLT, Nat.reduceAdd, Nat.reduceMul, Nat.reduceSub, Nat.zero_add, s3, Nat.le_refl]
      exact loop2 K f1 f2 l2 l3
  obtain ⟨K, g1, g2⟩ := loop1 am_J am_J
  refine ⟨K, ?_, g2⟩
  rw [s216]
  simp (disch := first | omega | assumption) only [s216_0, s216_1, s216_3, s216_4, s216_7, s216_10, s216_11, s216_14, s216_15, s216_16, s216_17, s216_18, s216_20, s216_21, s216_24, s216_25, s216_26, s216_29, s216_32, s216_33, s216_34, s216_35, s216_38, s216_39, s216_40, s216_43, s216_44, s216_45, s216_46, s216_47, s216_48, s216_51, s216_54, s216_55, s216_58, s216_60, s216_61, s216_62, s216_63, s216_64, s216_67, s216_69, s216_70, s216_71, s216_72, s216_73, s216_74, s216_77, s216_78, s216_79, s216_80, s216_82, s216_83, s216_86, s216_87, s216_88, s216_89, s216_92, s216_95, s216_98, s216_101, s216_102, s216_104, s216_105, s216_108, s216_111, s216_112, s216_115, s216_117, s216_118, s216_119, s216_120, s216_123, s216_124, s216_127, s216_129, s216_130, s216_131, s216_132, s216_133, s216_136, s216_138, s216_139, s216_140, s216_141, s216_142, s216_143, s216_146, s216_147, s216_148, s216_151, s216_152, s216_155, s216_156, s216_159, s216_160, s216_163, s216_165, s216_166, s216_167, s216_168, s216_169, s216_172, s216_174, s216_175, s216_176, s216_177, s216_178, s216_181, s216_182, s216_183, s216_184, s216_187, s216_188, s216_191, s216_194, nI_le2, nI_lt2, nI_eq2, nI_lt0, nI_0le, nI_0lt, nI_le0, nI_eq0, nI_clamp, nI_add, bu_nI, bb_0, bb_1, rf_s, rf_n, tl_s, tl_n, am_th_some, if_true, if_false, sI_eq, uI_eq, and_self, true_and, and_true, not_false_eq_true, not_true_eq_false, Nat.reduceEqDiff, Nat.reduceLeDiff, Nat.reduceLT, Nat.reduceAdd, Nat.reduceMul, Nat.reduceSub, Nat.zero_add]
  exact g1
end
