/-! The same, asked of the model. -/
section
variable {d n b m w h u : Nat} {I : am_I} {R : am_R} {Q : am_Q} {P : Nat → Nat → Int32}
theorem or_0 (x : Int32) : x ||| nI 0 = x := by rw [nI_0, Int32.or_zero]
theorem m_bite (hr : mm_R R) (hP : mm_at I P) (hn : P 4 0 = nI n) (hn2 : n ≤ 25) : am_cal (d + 3) 264 [.ref (am_mk 12 0)] I R Q = some (some (.int (sp_bite P n)), I, R, Q) := by
  have hc4 : I 12 0 30 = nI n := hP.2.1.trans hn
  have loop : ∀ l3 : Value, am_ev (d + 3) 264 4 [.ref (am_mk 12 0), .int (-nI 1), .int (nI 0), l3] [] I R Q = some (some (.int (sp_bite P n)), I, R, Q) := by
    intro l3
    refine loop_inv (f := fun (a : Int32 × Value) c => am_ev (d + 3) 264 4 [.ref (am_mk 12 0), .int a.1, .int (nI c), a.2] [] I R Q) (Inv := fun c a => a.1 = sp_bite P c ∧ (a.1 = -nI 1 ∨ ∃ j, j < c ∧ a.1 = nI j)) (Post := fun y => y = some (some (.int (sp_bite P n)), I, R, Q)) (n := n) ?_ ?_ (Nat.zero_le _) (a := (-nI 1, l3)) ⟨rfl, Or.inl rfl⟩
    · intro c ⟨x, l3⟩ hc ⟨f0, f1⟩
      left
      have f0 : x = sp_bite P c := f0
      have h1 : ¬ n ≤ c := by omega
      have hf := m_isFood (d := d) (Q := Q) (x := nI c) hr hP hn hn2
      obtain ⟨a0, a1, a2, a3⟩ := hP.1 c (by omega)
      have no : ¬ (¬ P 0 c ≤ 0 ∧ (x = -nI 1 ∨ sp_cd P c x.toNatClampNeg)) → x = sp_bite P (c + 1) := fun q => by
        rw [sp_bite, fold_s, show am_fold _ (-nI 1) c = x from f0.symm, if_neg q]
      have yes : (¬ P 0 c ≤ 0 ∧ (x = -nI 1 ∨ sp_cd P c x.toNatClampNeg)) → nI c = sp_bite P (c + 1) := fun q => by
        rw [sp_bite, fold_s, show am_fold _ (-nI 1) c = x from f0.symm, if_pos q]
      have stay : (x = -nI 1 ∨ ∃ j, j < c + 1 ∧ x = nI j) := f1.imp id fun ⟨j, hj, e⟩ => ⟨j, by omega, e⟩
      rw [s264_4]
      by_cases b0 : P 0 c ≤ 0
      · rw [if_neg (fun q => ((pp_f_k hn hn2 (by omega)).mp q).2 b0)] at hf
        refine ⟨(x, .int (nI 0)), ?_, no (fun q => q.1 b0), stay⟩
        simp (disch := first | omega | assumption) only [s264_0, s264_1, s264_2, s264_3, s264_5, s264_6, s264_9, s264_12, s264_13, s264_14, s264_17, s264_20, s264_21, s264_22, s264_25, s264_26, s264_29, s264_31, s264_32, s264_33, s264_34, s264_35, s264_38, s264_40, s264_41, s264_42, s264_43, s264_46, s264_47, s264_50, s264_52, s264_53, s264_54, s264_55, s264_56, s264_59, s264_61, s264_62, s264_63, s264_64, s264_67, s264_68, s264_71, s264_73, s264_74, s264_75, s264_76, s264_77, s264_80, s264_82, s264_83, s264_84, s264_85, s264_88, s264_89, s264_92, s264_93, s264_94, s264_95, s264_98, s264_99, s264_102, s264_103, s264_104, s264_107, s264_110, s264_111, nI_le2, nI_lt2, nI_eq2, nI_lt0, nI_0le, nI_0lt, nI_le0, nI_eq0, nI_clamp, nI_add, bu_nI, bb_0, bb_1, rf_s, rf_n, tl_s, tl_n, am_th_some, if_true, if_false, sI_eq, uI_eq, and_self, true_and, and_true, not_false_eq_true, not_true_eq_false, Nat.reduceEqDiff, Nat.reduceLeDiff, Nat.reduceLT, Nat.reduceAdd, Nat.reduceMul, Nat.reduceSub, Nat.zero_add, hc4, h1, hf]
      · rw [if_pos ((pp_f_k hn hn2 (by omega)).mpr ⟨hc, b0⟩)] at hf
        rcases f1 with f1 | ⟨j, hj, f1⟩
        · have f1 : x = -nI 1 := f1
          refine ⟨(nI c, .int (nI 1)), ?_, yes ⟨b0, Or.inl f1⟩, Or.inr ⟨c, by omega, rfl⟩⟩
          simp (disch := first | omega | assumption) only [s264_0, s264_1, s264_2, s264_3, s264_5, s264_6, s264_9, s264_12, s264_13, s264_14, s264_17, s264_20, s264_21, s264_22, s264_25, s264_26, s264_29, s264_31, s264_32, s264_33, s264_34, s264_35, s264_38, s264_40, s264_41, s264_42, s264_43, s264_46, s264_47, s264_50, s264_52, s264_53, s264_54, s264_55, s264_56, s264_59, s264_61, s264_62, s264_63, s264_64, s264_67, s264_68, s264_71, s264_73, s264_74, s264_75, s264_76, s264_77, s264_80, s264_82, s264_83, s264_84, s264_85, s264_88, s264_89, s264_92, s264_93, s264_94, s264_95, s264_98, s264_99, s264_102, s264_103, s264_104, s264_107, s264_110, s264_111, nI_le2, nI_lt2, nI_eq2, nI_lt0, nI_0le, nI_0lt, nI_le0, nI_eq0, nI_clamp, nI_add, bu_nI, bb_0, bb_1, rf_s, rf_n, tl_s, tl_n, am_th_some, if_true, if_false, sI_eq, uI_eq, and_self, true_and, and_true, not_false_eq_true, not_true_eq_false, Nat.reduceEqDiff, Nat.reduceLeDiff, Nat.reduceLT, Nat.reduceAdd, Nat.reduceMul, Nat.reduceSub, Nat.zero_add, hc4, h1, hf, f1]
        · have f1 : x = nI j := f1
          have hj1 : (nI j = -nI 1) = False := eq_false (m1_ne (by omega))
          have hjc : x.toNatClampNeg = j := by rw [f1]; exact nI_clamp (by omega)
          obtain ⟨c0, c1, c2, c3⟩ := hP.1 j (by omega)
          have nocd : ¬ sp_cd P c j → x = sp_bite P (c + 1) := fun q => no (fun v => v.2.elim (fun e => m1_ne (show j < 2 ^ 31 by omega) (f1.symm.trans e)) (fun e => q (by rw [hjc] at e; exact e)))
          have yescd : sp_cd P c j → nI c = sp_bite P (c + 1) := fun q => yes ⟨b0, Or.inr (by rw [hjc]; exact q)⟩
          by_cases e : P 1 c = P 1 j
          · have ni : ¬ P 1 j < P 1 c := by rw [e]; exact Int32.lt_irrefl
            have ni2 : ¬ P 1 j < P 1 j := Int32.lt_irrefl
            by_cases e2 : P 2 c < P 2 j
            · have e3 := Int32.not_le.mpr e2
              refine ⟨(nI c, .int (nI 1)), ?_, yescd (Or.inr ⟨e, e2⟩), Or.inr ⟨c, by omega, rfl⟩⟩
              simp (disch := first | omega | assumption) only [s264_0, s264_1, s264_2, s264_3, s264_5, s264_6, s264_9, s264_12, s264_13, s264_14, s264_17, s264_20, s264_21, s264_22, s264_25, s264_26, s264_29, s264_31, s264_32, s264_33, s264_34, s264_35, s264_38, s264_40, s264_41, s264_42, s264_43, s264_46, s264_47, s264_50, s264_52, s264_53, s264_54, s264_55, s264_56, s264_59, s264_61, s264_62, s264_63, s264_64, s264_67, s264_68, s264_71, s264_73, s264_74, s264_75, s264_76, s264_77, s264_80, s264_82, s264_83, s264_84, s264_85, s264_88, s264_89, s264_92, s264_93, s264_94, s264_95, s264_98, s264_99, s264_102, s264_103, s264_104, s264_107, s264_110, s264_111, nI_le2, nI_lt2, nI_eq2, nI_lt0, nI_0le, nI_0lt, nI_le0, nI_eq0, nI_clamp, nI_add, bu_nI, bb_0, bb_1, rf_s, rf_n, tl_s, tl_n, am_th_some, if_true, if_false, sI_eq, uI_eq, and_self, true_and, and_true, not_false_eq_true, not_true_eq_false, Nat.reduceEqDiff, Nat.reduceLeDiff, Nat.reduceLT, Nat.reduceAdd, Nat.reduceMul, Nat.reduceSub, Nat.zero_add, hc4, h1, hf, f1, hj1, mr31 hr, a1, a2, c1, c2, e, e3, ni2]
            · have e3 := Int32.not_lt.mp e2
              refine ⟨(x, .int (nI 0)), ?_, nocd (fun q => q.elim ni fun q => e2 q.2), stay⟩
              simp (disch := first | omega | assumption) only [s264_0, s264_1, s264_2, s264_3, s264_5, s264_6, s264_9, s264_12, s264_13, s264_14, s264_17, s264_20, s264_21, s264_22, s264_25, s264_26, s264_29, s264_31, s264_32, s264_33, s264_34, s264_35, s264_38, s264_40, s264_41, s264_42, s264_43, s264_46, s264_47, s264_50, s264_52, s264_53, s264_54, s264_55, s264_56, s264_59, s264_61, s264_62, s264_63, s264_64, s264_67, s264_68, s264_71, s264_73, s264_74, s264_75, s264_76, s264_77, s264_80, s264_82, s264_83, s264_84, s264_85, s264_88, s264_89, s264_92, s264_93, s264_94, s264_95, s264_98, s264_99, s264_102, s264_103, s264_104, s264_107, s264_110, s264_111, nI_le2, nI_lt2, nI_eq2, nI_lt0, nI_0le, nI_0lt, nI_le0, nI_eq0, nI_clamp, nI_add, bu_nI, bb_0, bb_1, rf_s, rf_n, tl_s, tl_n, am_th_some, if_true, if_false, sI_eq, uI_eq, and_self, true_and, and_true, not_false_eq_true, not_true_eq_false, Nat.reduceEqDiff, Nat.reduceLeDiff, Nat.reduceLT, Nat.reduceAdd, Nat.reduceMul, Nat.reduceSub, Nat.zero_add, hc4, h1, hf, f1, hj1, mr31 hr, a1, a2, c1, c2, e, e3, ni2]
          · by_cases e2 : P 1 j < P 1 c
            · have e3 := Int32.not_le.mpr e2
              refine ⟨(nI c, .int (nI 1)), ?_, yescd (Or.inl e2), Or.inr ⟨c, by omega, rfl⟩⟩
              simp (disch := first | omega | assumption) only [s264_0, s264_1, s264_2, s264_3, s264_5, s264_6, s264_9, s264_12, s264_13, s264_14, s264_17, s264_20, s264_21, s264_22, s264_25, s264_26, s264_29, s264_31, s264_32, s264_33, s264_34, s264_35, s264_38, s264_40, s264_41, s264_42, s264_43, s264_46, s264_47, s264_50, s264_52, s264_53, s264_54, s264_55, s264_56, s264_59, s264_61, s264_62, s264_63, s264_64, s264_67, s264_68, s264_71, s264_73, s264_74, s264_75, s264_76, s264_77, s264_80, s264_82, s264_83, s264_84, s264_85, s264_88, s264_89, s264_92, s264_93, s264_94, s264_95, s264_98, s264_99, s264_102, s264_103, s264_104, s264_107, s264_110, s264_111, nI_le2, nI_lt2, nI_eq2, nI_lt0, nI_0le, nI_0lt, nI_le0, nI_eq0, nI_clamp, nI_add, bu_nI, bb_0, bb_1, rf_s, rf_n, tl_s, tl_n, am_th_some, if_true, if_false, sI_eq, uI_eq, and_self, true_and, and_true, not_false_eq_true, not_true_eq_false, Nat.reduceEqDiff, Nat.reduceLeDiff, Nat.reduceLT, Nat.reduceAdd, Nat.reduceMul, Nat.reduceSub, Nat.zero_add, hc4, h1, hf, f1, hj1, mr31 hr, a1, a2, c1, c2, e, e2]
            · have e3 := Int32.not_lt.mp e2
              refine ⟨(x, .int (nI 0)), ?_, nocd (fun q => q.elim e2 fun q => e q.1), stay⟩
              simp (disch := first | omega | assumption) only [s264_0, s264_1, s264_2, s264_3, s264_5, s264_6, s264_9, s264_12, s264_13, s264_14, s264_17, s264_20, s264_21, s264_22, s264_25, s264_26, s264_29, s264_31, s264_32, s264_33, s264_34, s264_35, s264_38, s264_40, s264_41, s264_42, s264_43, s264_46, s264_47, s264_50, s264_52, s264_53, s264_54, s264_55, s264_56, s264_59, s264_61, s264_62, s264_63, s264_64, s264_67, s264_68, s264_71, s264_73, s264_74, s264_75, s264_76, s264_77, s264_80, s264_82, s264_83, s264_84, s264_85, s264_88, s264_89, s264_92, s264_93, s264_94, s264_95, s264_98, s264_99, s264_102, s264_103, s264_104, s264_107, s264_110, s264_111, nI_le2, nI_lt2, nI_eq2, nI_lt0, nI_0le, nI_0lt, nI_le0, nI_eq0, nI_clamp, nI_add, bu_nI, bb_0, bb_1, rf_s, rf_n, tl_s, tl_n, am_th_some, if_true, if_false, sI_eq, uI_eq, and_self, true_and, and_true, not_false_eq_true, not_true_eq_false, Nat.reduceEqDiff, Nat.reduceLeDiff, Nat.reduceLT, Nat.reduceAdd, Nat.reduceMul, Nat.reduceSub, Nat.zero_add, hc4, h1, hf, f1, hj1, mr31 hr, a1, a2, c1, c2, e, e2]
    · intro ⟨x, l3⟩ ⟨f0, f1⟩
      have f0 : x = sp_bite P n := f0
      rw [s264_4, ← f0]
      simp (disch := first | omega | assumption) only [s264_0, s264_1, s264_2, s264_3, s264_5, s264_6, s264_9, s264_12, s264_13, s264_14, s264_17, s264_20, s264_21, s264_22, s264_25, s264_26, s264_29, s264_31, s264_32, s264_33, s264_34, s264_35, s264_38, s264_40, s264_41, s264_42, s264_43, s264_46, s264_47, s264_50, s264_52, s264_53, s264_54, s264_55, s264_56, s264_59, s264_61, s264_62, s264_63, s264_64, s264_67, s264_68, s264_71, s264_73, s264_74, s264_75, s264_76, s264_77, s264_80, s264_82, s264_83, s264_84, s264_85, s264_88, s264_89, s264_92, s264_93, s264_94, s264_95, s264_98, s264_99, s264_102, s264_103, s264_104, s264_107, s264_110, s264_111, nI_le2, nI_lt2, nI_eq2, nI_lt0, nI_0le, nI_0lt, nI_le0, nI_eq0, nI_clamp, nI_add, bu_nI, bb_0, bb_1, rf_s, rf_n, tl_s, tl_n, am_th_some, if_true, if_false, sI_eq, uI_eq, and_self, true_and, and_true, not_false_eq_true, not_true_eq_false, Nat.reduceEqDiff, Nat.reduceLeDiff, Nat.reduceLT, Nat.reduceAdd, Nat.reduceMul, Nat.reduceSub, Nat.zero_add, hc4, Nat.le_refl]
  rw [s264]
  simp (disch := first | omega | assumption) only [s264_0, s264_1, s264_2, s264_3, s264_5, s264_6, s264_9, s264_12, s264_13, s264_14, s264_17, s264_20, s264_21, s264_22, s264_25, s264_26, s264_29, s264_31, s264_32, s264_33, s264_34, s264_35, s264_38, s264_40, s264_41, s264_42, s264_43, s264_46, s264_47, s264_50, s264_52, s264_53, s264_54, s264_55, s264_56, s264_59, s264_61, s264_62, s264_63, s264_64, s264_67, s264_68, s264_71, s264_73, s264_74, s264_75, s264_76, s264_77, s264_80, s264_82, s264_83, s264_84, s264_85, s264_88, s264_89, s264_92, s264_93, s264_94, s264_95, s264_98, s264_99, s264_102, s264_103, s264_104, s264_107, s264_110, s264_111, nI_le2, nI_lt2, nI_eq2, nI_lt0, nI_0le, nI_0lt, nI_le0, nI_eq0, nI_clamp, nI_add, bu_nI, bb_0, bb_1, rf_s, rf_n, tl_s, tl_n, am_th_some, if_true, if_false, sI_eq, uI_eq, and_self, true_and, and_true, not_false_eq_true, not_true_eq_false, Nat.reduceEqDiff, Nat.reduceLeDiff, Nat.reduceLT, Nat.reduceAdd, Nat.reduceMul, Nat.reduceSub, Nat.zero_add]
  exact loop am_J
theorem m_hottest (hr : mm_R R) (hP : mm_at I P) (hn : P 4 0 = nI n) (hn2 : n ≤ 25) : am_cal (d + 4) 272 [.ref (am_mk 12 0)] I R Q = some (some (.int (sp_ext P true n)), I, R, Q) := by
  have e := m_extreme (d := d) (Q := Q) hr hP hn hn2 (most := true)
  rw [if_pos rfl] at e
  rw [s272]
  simp (disch := first | omega | assumption) only [s272_0, s272_1, s272_2, s272_5, nI_le2, nI_lt2, nI_eq2, nI_lt0, nI_0le, nI_0lt, nI_le0, nI_eq0, nI_clamp, nI_add, bu_nI, bb_0, bb_1, rf_s, rf_n, tl_s, tl_n, am_th_some, if_true, if_false, sI_eq, uI_eq, and_self, true_and, and_true, not_false_eq_true, not_true_eq_false, Nat.reduceEqDiff, Nat.reduceLeDiff, Nat.reduceLT, Nat.reduceAdd, Nat.reduceMul, Nat.reduceSub, Nat.zero_add, e]
theorem m_rim (hr : mm_R R) (ho : mo_at I w h n) (hP : mm_at I P) (hn : P 4 0 = nI n) (hn2 : n ≤ 25) (hn1 : 1 ≤ n) : am_cal (d + 4) 273 [.ref (am_mk 12 0)] I R Q = some (some (.int (sp_rim (sp_B w h) P n)), I, R, Q) := by
  have hc4 : I 12 0 30 = nI n := hP.2.1.trans hn
  have hl : ¬ I 12 0 30 ≤ 0 := by rw [hc4, nI_le0 (by omega)]; omega
  rw [s273]
  simp (disch := first | omega | assumption) only [s273_0, s273_1, s273_4, s273_7, s273_8, s273_9, s273_10, s273_11, s273_12, s273_14, s273_15, s273_18, s273_21, s273_22, s273_23, s273_24, s273_27, s273_30, s273_31, s273_32, s273_35, s273_36, s273_39, s273_40, s273_41, s273_42, s273_45, s273_46, s273_47, s273_48, s273_51, s273_54, s273_55, nI_le2, nI_lt2, nI_eq2, nI_lt0, nI_0le, nI_0lt, nI_le0, nI_eq0, nI_clamp, nI_add, bu_nI, bb_0, bb_1, rf_s, rf_n, tl_s, tl_n, am_th_some, if_true, if_false, sI_eq, uI_eq, and_self, true_and, and_true, not_false_eq_true, not_true_eq_false, Nat.reduceEqDiff, Nat.reduceLeDiff, Nat.reduceLT, Nat.reduceAdd, Nat.reduceMul, Nat.reduceSub, Nat.zero_add, m_isLunch (d := d + 3), hl]
  refine (loop_fold (fun (x : Int32) c => am_ev (d + 4) 273 13 [.ref (am_mk 12 0), .int x, .int (nI c)] [] I R Q) (fun a c => if ¬ P 0 c ≤ 0 ∧ ¬ sp_edges (sp_B w h) P c < nI 2 then a ||| nI (2 ^ c) else a) n (fun x c hc => ?_) (nI 0)).trans ?_
  · have h1 : ¬ n ≤ c := by omega
    have hf := m_isFood (d := d + 1) (Q := Q) (x := nI c) hr hP hn hn2
    have he := m_edges (d := d) (Q := Q) hr ho hP hn hn2 hc
    have e1 : nI 1 <<< (nI c &&& 31) = nI (2 ^ c) := nI_bit (by omega)
    rw [s273_13]
    by_cases b0 : P 0 c ≤ 0
    · rw [if_neg (fun q => ((pp_f_k hn hn2 (by omega)).mp q).2 b0)] at hf
      rw [if_neg (fun q => q.1 b0)]
      simp (disch := first | omega | assumption) only [s273_0, s273_1, s273_4, s273_7, s273_8, s273_9, s273_10, s273_11, s273_12, s273_14, s273_15, s273_18, s273_21, s273_22, s273_23, s273_24, s273_27, s273_30, s273_31, s273_32, s273_35, s273_36, s273_39, s273_40, s273_41, s273_42, s273_45, s273_46, s273_47, s273_48, s273_51, s273_54, s273_55, nI_le2, nI_lt2, nI_eq2, nI_lt0, nI_0le, nI_0lt, nI_le0, nI_eq0, nI_clamp, nI_add, bu_nI, bb_0, bb_1, rf_s, rf_n, tl_s, tl_n, am_th_some, if_true, if_false, sI_eq, uI_eq, and_self, true_and, and_true, not_false_eq_true, not_true_eq_false, Nat.reduceEqDiff, Nat.reduceLeDiff, Nat.reduceLT, Nat.reduceAdd, Nat.reduceMul, Nat.reduceSub, Nat.zero_add, hc4, h1, hf, or_0]
    · rw [if_pos ((pp_f_k hn hn2 (by omega)).mpr ⟨hc, b0⟩)] at hf
      by_cases q : sp_edges (sp_B w h) P c < nI 2
      · rw [if_neg (fun v => v.2 q)]
        simp (disch := first | omega | assumption) only [s273_0, s273_1, s273_4, s273_7, s273_8, s273_9, s273_10, s273_11, s273_12, s273_14, s273_15, s273_18, s273_21, s273_22, s273_23, s273_24, s273_27, s273_30, s273_31, s273_32, s273_35, s273_36, s273_39, s273_40, s273_41, s273_42, s273_45, s273_46, s273_47, s273_48, s273_51, s273_54, s273_55, nI_le2, nI_lt2, nI_eq2, nI_lt0, nI_0le, nI_0lt, nI_le0, nI_eq0, nI_clamp, nI_add, bu_nI, bb_0, bb_1, rf_s, rf_n, tl_s, tl_n, am_th_some, if_true, if_false, sI_eq, uI_eq, and_self, true_and, and_true, not_false_eq_true, not_true_eq_false, Nat.reduceEqDiff, Nat.reduceLeDiff, Nat.reduceLT, Nat.reduceAdd, Nat.reduceMul, Nat.reduceSub, Nat.zero_add, hc4, h1, hf, he, q, or_0]
      · rw [if_pos ⟨b0, q⟩]
        simp (disch := first | omega | assumption) only [s273_0, s273_1, s273_4, s273_7, s273_8, s273_9, s273_10, s273_11, s273_12, s273_14, s273_15, s273_18, s273_21, s273_22, s273_23, s273_24, s273_27, s273_30, s273_31, s273_32, s273_35, s273_36, s273_39, s273_40, s273_41, s273_42, s273_45, s273_46, s273_47, s273_48, s273_51, s273_54, s273_55, nI_le2, nI_lt2, nI_eq2, nI_lt0, nI_0le, nI_0lt, nI_le0, nI_eq0, nI_clamp, nI_add, bu_nI, bb_0, bb_1, rf_s, rf_n, tl_s, tl_n, am_th_some, if_true, if_false, sI_eq, uI_eq, and_self, true_and, and_true, not_false_eq_true, not_true_eq_false, Nat.reduceEqDiff, Nat.reduceLeDiff, Nat.reduceLT, Nat.reduceAdd, Nat.reduceMul, Nat.reduceSub, Nat.zero_add, hc4, h1, hf, he, q, e1]
  · rw [s273_13]
    simp (disch := first | omega | assumption) only [s273_0, s273_1, s273_4, s273_7, s273_8, s273_9, s273_10, s273_11, s273_12, s273_14, s273_15, s273_18, s273_21, s273_22, s273_23, s273_24, s273_27, s273_30, s273_31, s273_32, s273_35, s273_36, s273_39, s273_40, s273_41, s273_42, s273_45, s273_46, s273_47, s273_48, s273_51, s273_54, s273_55, nI_le2, nI_lt2, nI_eq2, nI_lt0, nI_0le, nI_0lt, nI_le0, nI_eq0, nI_clamp, nI_add, bu_nI, bb_0, bb_1, rf_s, rf_n, tl_s, tl_n, am_th_some, if_true, if_false, sI_eq, uI_eq, and_self, true_and, and_true, not_false_eq_true, not_true_eq_false, Nat.reduceEqDiff, Nat.reduceLeDiff, Nat.reduceLT, Nat.reduceAdd, Nat.reduceMul, Nat.reduceSub, Nat.zero_add, hc4, Nat.le_refl]
    rfl
theorem m_lump (hr : mm_R R) (hP : mm_at I P) (hn : P 4 0 = nI n) (hn2 : n ≤ 25) (hn1 : 1 ≤ n) : am_cal (d + 1) 274 [.ref (am_mk 12 0)] I R Q = some (some (.int (sp_lmp P n)), I, R, Q) := by
  have hc4 : I 12 0 30 = nI n := hP.2.1.trans hn
  have hl : ¬ I 12 0 30 ≤ 0 := by rw [hc4, nI_le0 (by omega)]; omega
  rw [s274]
  simp (disch := first | omega | assumption) only [s274_0, s274_1, s274_4, s274_7, s274_8, s274_9, s274_10, s274_11, s274_12, s274_14, s274_15, s274_18, s274_21, s274_22, s274_23, s274_26, s274_28, s274_29, s274_30, s274_31, s274_34, s274_35, s274_36, s274_37, s274_40, s274_41, s274_42, s274_43, s274_46, s274_49, s274_50, nI_le2, nI_lt2, nI_eq2, nI_lt0, nI_0le, nI_0lt, nI_le0, nI_eq0, nI_clamp, nI_add, bu_nI, bb_0, bb_1, rf_s, rf_n, tl_s, tl_n, am_th_some, if_true, if_false, sI_eq, uI_eq, and_self, true_and, and_true, not_false_eq_true, not_true_eq_false, Nat.reduceEqDiff, Nat.reduceLeDiff, Nat.reduceLT, Nat.reduceAdd, Nat.reduceMul, Nat.reduceSub, Nat.zero_add, m_isLunch (d := d), hl]
  refine (loop_fold (fun (x : Int32) c => am_ev (d + 1) 274 13 [.ref (am_mk 12 0), .int x, .int (nI c)] [] I R Q) (fun a c => if P 1 c ≤ 0 then a else a ||| nI (2 ^ c)) n (fun x c hc => ?_) (nI 0)).trans ?_
  · have h1 : ¬ n ≤ c := by omega
    have h2 : 25 + c < 283 := by omega
    obtain ⟨a0, a1, a2, a3⟩ := hP.1 c (by omega)
    have e1 : nI 1 <<< (nI c &&& 31) = nI (2 ^ c) := nI_bit (by omega)
    rw [s274_13]
    by_cases q : P 1 c ≤ 0
    · rw [if_pos q]
      simp (disch := first | omega | assumption) only [s274_0, s274_1, s274_4, s274_7, s274_8, s274_9, s274_10, s274_11, s274_12, s274_14, s274_15, s274_18, s274_21, s274_22, s274_23, s274_26, s274_28, s274_29, s274_30, s274_31, s274_34, s274_35, s274_36, s274_37, s274_40, s274_41, s274_42, s274_43, s274_46, s274_49, s274_50, nI_le2, nI_lt2, nI_eq2, nI_lt0, nI_0le, nI_0lt, nI_le0, nI_eq0, nI_clamp, nI_add, bu_nI, bb_0, bb_1, rf_s, rf_n, tl_s, tl_n, am_th_some, if_true, if_false, sI_eq, uI_eq, and_self, true_and, and_true, not_false_eq_true, not_true_eq_false, Nat.reduceEqDiff, Nat.reduceLeDiff, Nat.reduceLT, Nat.reduceAdd, Nat.reduceMul, Nat.reduceSub, Nat.zero_add, mr31 hr, hc4, h1, h2, a1, q, or_0]
    · rw [if_neg q]
      simp (disch := first | omega | assumption) only [s274_0, s274_1, s274_4, s274_7, s274_8, s274_9, s274_10, s274_11, s274_12, s274_14, s274_15, s274_18, s274_21, s274_22, s274_23, s274_26, s274_28, s274_29, s274_30, s274_31, s274_34, s274_35, s274_36, s274_37, s274_40, s274_41, s274_42, s274_43, s274_46, s274_49, s274_50, nI_le2, nI_lt2, nI_eq2, nI_lt0, nI_0le, nI_0lt, nI_le0, nI_eq0, nI_clamp, nI_add, bu_nI, bb_0, bb_1, rf_s, rf_n, tl_s, tl_n, am_th_some, if_true, if_false, sI_eq, uI_eq, and_self, true_and, and_true, not_false_eq_true, not_true_eq_false, Nat.reduceEqDiff, Nat.reduceLeDiff, Nat.reduceLT, Nat.reduceAdd, Nat.reduceMul, Nat.reduceSub, Nat.zero_add, mr31 hr, hc4, h1, h2, a1, q, e1]
  · rw [s274_13]
    simp (disch := first | omega | assumption) only [s274_0, s274_1, s274_4, s274_7, s274_8, s274_9, s274_10, s274_11, s274_12, s274_14, s274_15, s274_18, s274_21, s274_22, s274_23, s274_26, s274_28, s274_29, s274_30, s274_31, s274_34, s274_35, s274_36, s274_37, s274_40, s274_41, s274_42, s274_43, s274_46, s274_49, s274_50, nI_le2, nI_lt2, nI_eq2, nI_lt0, nI_0le, nI_0lt, nI_le0, nI_eq0, nI_clamp, nI_add, bu_nI, bb_0, bb_1, rf_s, rf_n, tl_s, tl_n, am_th_some, if_true, if_false, sI_eq, uI_eq, and_self, true_and, and_true, not_false_eq_true, not_true_eq_false, Nat.reduceEqDiff, Nat.reduceLeDiff, Nat.reduceLT, Nat.reduceAdd, Nat.reduceMul, Nat.reduceSub, Nat.zero_add, hc4, Nat.le_refl]
    rfl
theorem c_mean (hr : pa_R R) (hP : pp_at I 12 P) (hn : P 4 0 = nI n) (hn2 : n ≤ 25) (hn1 : 1 ≤ n) : am_cal (d + 2) 149 [.ref (am_mk 11 0)] I R Q = some (some (.int (sp_dv (sp_deg P) (sp_foods P))), I, R, Q) := by
  obtain ⟨r8, r10, r12, r11, r13, r14, rp, rl, rl1, ra⟩ := hr
  obtain ⟨p0, p1, p2, p3⟩ := rp 12 (by decide)
  have h4 := hP.2.1.trans hn
  have hL := c_lunch (d := d + 1) (Q := Q) r10 h4 hn2
  rw [if_neg (by omega)] at hL
  have e := c_meanDegrees (d := d) (I := I) (Q := Q) p0 p2
  have e1 : am_fold (fun a c => a + I 21 12 c) (nI 0) 25 = sp_deg P := fold_congr fun a c hc => by rw [(hP.1 c hc).2.2.1]
  have e2 : am_fold (sp_fd (I 19 12)) (nI 0) 25 = sp_foods P := fold_congr fun a c hc => by unfold sp_fd; rw [(hP.1 c hc).1]
  rw [e1, e2] at e
  rw [s149]
  simp (disch := first | omega | assumption) only [s149_0, s149_1, s149_4, s149_7, s149_8, s149_11, s149_14, s149_17, s149_18, nI_le2, nI_lt2, nI_eq2, nI_lt0, nI_0le, nI_0lt, nI_le0, nI_eq0, nI_clamp, nI_add, bu_nI, bb_0, bb_1, rf_s, rf_n, tl_s, tl_n, am_th_some, if_true, if_false, sI_eq, uI_eq, and_self, true_and, and_true, not_false_eq_true, not_true_eq_false, Nat.reduceEqDiff, Nat.reduceLeDiff, Nat.reduceLT, Nat.reduceAdd, Nat.reduceMul, Nat.reduceSub, Nat.zero_add, hL, r10, e]
theorem m_mean (hb : 1 ≤ b ∧ b ≤ 99) (hr : mm_R R) (hP : mm_at I P) (hn2 : n ≤ 25) (hn1 : 1 ≤ n) (hI : pt_I n b m P) : am_cal (d + 5) 271 [.ref (am_mk 12 0)] I R Q = some (some (.int (sp_dv (sp_deg P) (sp_foods P))), I, R, Q) := by
  have hc4 : I 12 0 30 = nI n := hP.2.1.trans hI.1
  have hl : ¬ I 12 0 30 ≤ 0 := by rw [hc4, nI_le0 (by omega)]; omega
  have e := m_meanOf2 (d := d) (Q := Q) hb hr hP hn2 hI
  rw [s271]
  simp (disch := first | omega | assumption) only [s271_0, s271_1, s271_4, s271_7, s271_8, s271_10, s271_13, s271_16, s271_17, nI_le2, nI_lt2, nI_eq2, nI_lt0, nI_0le, nI_0lt, nI_le0, nI_eq0, nI_clamp, nI_add, bu_nI, bb_0, bb_1, rf_s, rf_n, tl_s, tl_n, am_th_some, if_true, if_false, sI_eq, uI_eq, and_self, true_and, and_true, not_false_eq_true, not_true_eq_false, Nat.reduceEqDiff, Nat.reduceLeDiff, Nat.reduceLT, Nat.reduceAdd, Nat.reduceMul, Nat.reduceSub, Nat.zero_add, m_isLunch (d := d + 4), hl, e]
end
