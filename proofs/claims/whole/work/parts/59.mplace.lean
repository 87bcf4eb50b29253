/-! The model: where it gets warmest, the least by TURNING, how far apart. -/
section
variable {d n b m u q : Nat} {I : am_I} {R : am_R} {Q : am_Q} {P : Nat → Nat → Int32} {T : pl_T}
theorem ce_val {c : Nat} (hb : b ≤ 99) (h : ce_ok n b P c) : -nI 1000000000 < P 2 c - P 1 c ∧ P 2 c - P 1 c < nI 1000000 := by
  obtain ⟨t, i, g, u, h0, h1, h2, h3, ht, hi, hg, hu, hz, hn⟩ := h
  have e1 : ∀ g i : Nat, g < 99 → i < 100 → (-nI 1000000000 < nI g - nI i ∧ nI g - nI i < nI 1000000) := by
    intro g i hg hi
    have e : (nI g - nI i).toInt = (g : Int) - i := by
      rw [Int32.toInt_sub, nI_toInt (by omega), nI_toInt (by omega)]
      exact bm_32 (by omega) (by omega)
    have m9 : (-nI 1000000000).toInt = -1000000000 := by decide
    refine ⟨Int32.lt_iff_toInt_lt.mpr ?_, Int32.lt_iff_toInt_lt.mpr ?_⟩
    · rw [e, m9]; omega
    · rw [e, nI_toInt (by decide)]; omega
  rw [h1, h2]
  exact e1 g i (by omega) (by omega)
/-- the model's place out of the class's -/
theorem m_place (hr : mm_R R) (hkT : kT T n b) (hb : 1 ≤ b ∧ b ≤ 99) (hn2 : n ≤ 25) (hq : q ≤ 9) (hT : mT T n b R Q I) (hfu : I 56 0 2 = nI q) (hI : pt_I n b m P) (hm : m < 2 ^ 27) (hP : mm_at I P) {k cnt : Nat} (hc : 1 ≤ cnt ∧ cnt ≤ 20) (hkn : k < n) (hk0 : ¬ P 0 k ≤ 0) : ∃ J, am_cal (d + 10) 248 [.ref (am_mk 12 0), .int (nI k), .int (nI cnt)] I R Q = some (some (.int (sp_place T (nI q) k cnt n P)), J, R, Q) ∧ am_fr (ma_S 0) I J ∧ mm_at J P := by
  have hn := hI.1
  have e56 : ∀ {J} j, am_fr (ma_S 0) I J → J 56 0 j = I 56 0 j := fun {J} j hf => hf _ _ _ (fun w => by unfold ma_S at w; omega)
  have bu2 : am_bu (nI 2) 6 = True := bu_nI (by decide)
  have loop : ∀ l6 : Value, ∃ J, am_ev (d + 10) 248 28 [.ref (am_mk 12 0), .int (nI k), .int (nI cnt), .int (-nI 1), .int (nI 0), .int (nI 0), l6] [] I R Q = some (some (.int (sp_place T (nI q) k cnt n P)), J, R, Q) ∧ am_fr (ma_S 0) I J ∧ mm_at J P := by
    intro l6
    refine loop_inv (f := fun (a : am_I × (Int32 × Int32) × Value) c => am_ev (d + 10) 248 28 [.ref (am_mk 12 0), .int (nI k), .int (nI cnt), .int a.2.1.2, .int a.2.1.1, .int (nI c), a.2.2] [] a.1 R Q) (Inv := fun c a => am_fr (ma_S 0) I a.1 ∧ mm_at a.1 P ∧ ((a.2.1.2 = -nI 1 ∧ am_fold (sp_pl1 T (nI q) k cnt P) (-nI 1000000000, -nI 1) c = (-nI 1000000000, -nI 1)) ∨ ∃ j, j < c ∧ a.2.1.2 = nI j ∧ a.2.1 = am_fold (sp_pl1 T (nI q) k cnt P) (-nI 1000000000, -nI 1) c)) (Post := fun y => ∃ J, y = some (some (.int (sp_place T (nI q) k cnt n P)), J, R, Q) ∧ am_fr (ma_S 0) I J ∧ mm_at J P) (n := n) ?_ ?_ (Nat.zero_le _) (a := (I, (nI 0, -nI 1), l6)) ⟨fr_rf, hP, Or.inl ⟨rfl, rfl⟩⟩
    · intro c ⟨J, a, l6⟩ hcn ⟨f1, f2, f3⟩
      left
      have f1 : am_fr (ma_S 0) I J := f1
      have f2 : mm_at J P := f2
      have f3 : (a.2 = -nI 1 ∧ am_fold (sp_pl1 T (nI q) k cnt P) (-nI 1000000000, -nI 1) c = (-nI 1000000000, -nI 1)) ∨ ∃ j, j < c ∧ a.2 = nI j ∧ a = am_fold (sp_pl1 T (nI q) k cnt P) (-nI 1000000000, -nI 1) c := f3
      have h1 : ¬ n ≤ c := by omega
      have hc4 : J 12 0 30 = nI n := f2.2.1.trans hn
      have hf := m_isFood (d := d + 7) (Q := Q) (x := nI c) hr f2 hn hn2
      by_cases hcond : c = k ∨ P 0 c ≤ 0
      · obtain ⟨J1, a1, a2, a3, a4⟩ := m_putAside (d := d + 9) (Q := Q) hr f2 (dep := 0) (by decide)
        have g1 := fr_x f1 a2 (asS_ma (dep := 0))
        obtain ⟨J2, b1, b2, b3⟩ : ∃ J2, am_ev (d + 10) 248 57 [.ref (am_mk 12 0), .int (nI k), .int (nI cnt), .int a.2, .int a.1, .int (nI c), l6] [] J1 R Q = am_ev (d + 10) 248 70 [.ref (am_mk 12 0), .int (nI k), .int (nI cnt), .int a.2, .int a.1, .int (nI c), l6] [] J2 R Q ∧ am_fr mm_S J1 J2 ∧ mm_at J2 (sp_shift P k c) := by
          by_cases e : c = k
          · subst e
            refine ⟨J1, ?_, fr_rf, by rw [shift_same hk0]; exact a4⟩
            simp (disch := first | omega | assumption) only [s248_0, s248_1, s248_2, s248_5, s248_8, s248_9, s248_10, s248_12, s248_15, s248_18, s248_19, s248_20, s248_21, s248_22, s248_23, s248_25, s248_26, s248_30, s248_31, s248_34, s248_37, s248_39, s248_40, s248_43, s248_44, s248_46, s248_49, s248_52, s248_53, s248_54, s248_57, s248_59, s248_60, s248_63, s248_64, s248_65, s248_67, s248_71, s248_72, s248_73, s248_76, s248_77, s248_78, s248_81, s248_82, s248_85, s248_87, s248_89, s248_90, s248_91, s248_92, s248_95, s248_97, s248_99, s248_100, s248_101, s248_102, s248_104, s248_105, s248_106, s248_109, s248_110, s248_111, s248_114, s248_116, s248_118, s248_121, s248_123, s248_124, s248_126, s248_128, s248_131, s248_134, s248_135, nI_le2, nI_lt2, nI_eq2, nI_lt0, nI_0le, nI_0lt, nI_le0, nI_eq0, nI_clamp, nI_add, bu_nI, bb_0, bb_1, rf_s, rf_n, tl_s, tl_n, am_th_some, if_true, if_false, sI_eq, uI_eq, and_self, true_and, and_true, not_false_eq_true, not_true_eq_false, Nat.reduceEqDiff, Nat.reduceLeDiff, Nat.reduceLT, Nat.reduceAdd, Nat.reduceMul, Nat.reduceSub, Nat.zero_add]
          · have hc0 : P 0 c ≤ 0 := hcond.resolve_left e
            obtain ⟨J2, b1, b2, b3⟩ := m_moveNow (d := d + 9) (R := R) (Q := Q) hr a4 (show k < 25 by omega) (show c < 25 by omega) (fun w => e w.symm)
            refine ⟨J2, ?_, b2, by rw [sp_shift, if_pos hc0]; exact b3⟩
            simp (disch := first | omega | assumption) only [s248_0, s248_1, s248_2, s248_5, s248_8, s248_9, s248_10, s248_12, s248_15, s248_18, s248_19, s248_20, s248_21, s248_22, s248_23, s248_25, s248_26, s248_30, s248_31, s248_34, s248_37, s248_39, s248_40, s248_43, s248_44, s248_46, s248_49, s248_52, s248_53, s248_54, s248_57, s248_59, s248_60, s248_63, s248_64, s248_65, s248_67, s248_71, s248_72, s248_73, s248_76, s248_77, s248_78, s248_81, s248_82, s248_85, s248_87, s248_89, s248_90, s248_91, s248_92, s248_95, s248_97, s248_99, s248_100, s248_101, s248_102, s248_104, s248_105, s248_106, s248_109, s248_110, s248_111, s248_114, s248_116, s248_118, s248_121, s248_123, s248_124, s248_126, s248_128, s248_131, s248_134, s248_135, nI_le2, nI_lt2, nI_eq2, nI_lt0, nI_0le, nI_0lt, nI_le0, nI_eq0, nI_clamp, nI_add, bu_nI, bb_0, bb_1, rf_s, rf_n, tl_s, tl_n, am_th_some, if_true, if_false, sI_eq, uI_eq, and_self, true_and, and_true, not_false_eq_true, not_true_eq_false, Nat.reduceEqDiff, Nat.reduceLeDiff, Nat.reduceLT, Nat.reduceAdd, Nat.reduceMul, Nat.reduceSub, Nat.zero_add, e, b1]
        have g2 := fr_x g1 b2 (mmS_ma (dep := 0))
        have hIs := shift_I hb.1 hkn hk0 hcn hn2 hI
        obtain ⟨J3, c1, c2, c3⟩ := m_heatMany (d := d) (q := q) hr (mT_fr hT (fr_mo g2 ma_ev)) hkT hIs (by omega) hq b3 (show cnt ≤ 60 by omega)
        have g3 := fr_x g2 c2 (mkS_ma (dep := 0))
        have aA : ma_at J3 0 P := ma_fr (ma_fr a3 b2 (fun j _ _ v => by unfold mm_S at v; omega)) c2 (fun j _ _ v => by unfold mk_S at v; omega)
        have hIt := it_I (q := q) hkT hIs cnt
        obtain ⟨J4, t1, t2, t3⟩ := m_takeBack (d := d + 9) (R := R) (Q := Q) hr (by decide) aA (c3.2.1.trans (hIt.1.trans hn.symm))
        have g4 := fr_x g3 t2 (mmS_ma (dep := 0))
        obtain ⟨y0, y1, y2, y3⟩ := c3.1 c (by omega)
        have o2 := (e56 2 g2).trans hfu
        have val := ce_val hb.2 (hIt.2.2.2.1 c (by omega))
        generalize hv : sp_it T (nI q) (sp_shift P k c) cnt 2 c - sp_it T (nI q) (sp_shift P k c) cnt 1 c = v at val
        have toV : am_ev (d + 10) 248 28 [.ref (am_mk 12 0), .int (nI k), .int (nI cnt), .int a.2, .int a.1, .int (nI c), l6] [] J R Q = am_ev (d + 10) 248 109 [.ref (am_mk 12 0), .int (nI k), .int (nI cnt), .int a.2, .int a.1, .int (nI c), .int v] [] J4 R Q := by
          have back : am_ev (d + 10) 248 70 [.ref (am_mk 12 0), .int (nI k), .int (nI cnt), .int a.2, .int a.1, .int (nI c), l6] [] J2 R Q = am_ev (d + 10) 248 109 [.ref (am_mk 12 0), .int (nI k), .int (nI cnt), .int a.2, .int a.1, .int (nI c), .int v] [] J4 R Q := by
            simp (disch := first | omega | assumption) only [s248_0, s248_1, s248_2, s248_5, s248_8, s248_9, s248_10, s248_12, s248_15, s248_18, s248_19, s248_20, s248_21, s248_22, s248_23, s248_25, s248_26, s248_30, s248_31, s248_34, s248_37, s248_39, s248_40, s248_43, s248_44, s248_46, s248_49, s248_52, s248_53, s248_54, s248_57, s248_59, s248_60, s248_63, s248_64, s248_65, s248_67, s248_70, s248_71, s248_72, s248_73, s248_76, s248_77, s248_78, s248_81, s248_82, s248_85, s248_87, s248_89, s248_90, s248_91, s248_92, s248_95, s248_97, s248_99, s248_100, s248_101, s248_102, s248_104, s248_105, s248_106, s248_110, s248_111, s248_114, s248_116, s248_118, s248_121, s248_123, s248_124, s248_126, s248_128, s248_131, s248_134, s248_135, nI_le2, nI_lt2, nI_eq2, nI_lt0, nI_0le, nI_0lt, nI_le0, nI_eq0, nI_clamp, nI_add, bu_nI, bb_0, bb_1, rf_s, rf_n, tl_s, tl_n, am_th_some, if_true, if_false, sI_eq, uI_eq, and_self, true_and, and_true, not_false_eq_true, not_true_eq_false, Nat.reduceEqDiff, Nat.reduceLeDiff, Nat.reduceLT, Nat.reduceAdd, Nat.reduceMul, Nat.reduceSub, Nat.zero_add, mr24 hr, mr31 hr, o2, bu2, c1, y1, y2, t1, hv]
          refine Eq.trans ?_ (b1.trans back)
          rw [s248_28]
          by_cases e : c = k
          · subst e
            simp (disch := first | omega | assumption) only [s248_0, s248_1, s248_2, s248_5, s248_8, s248_9, s248_10, s248_12, s248_15, s248_18, s248_19, s248_20, s248_21, s248_22, s248_23, s248_25, s248_26, s248_30, s248_31, s248_34, s248_37, s248_39, s248_40, s248_43, s248_44, s248_46, s248_49, s248_52, s248_53, s248_54, s248_59, s248_60, s248_63, s248_64, s248_65, s248_67, s248_70, s248_71, s248_72, s248_73, s248_76, s248_77, s248_78, s248_81, s248_82, s248_85, s248_87, s248_89, s248_90, s248_91, s248_92, s248_95, s248_97, s248_99, s248_100, s248_101, s248_102, s248_104, s248_105, s248_106, s248_109, s248_110, s248_111, s248_114, s248_116, s248_118, s248_121, s248_123, s248_124, s248_126, s248_128, s248_131, s248_134, s248_135, nI_le2, nI_lt2, nI_eq2, nI_lt0, nI_0le, nI_0lt, nI_le0, nI_eq0, nI_clamp, nI_add, bu_nI, bb_0, bb_1, rf_s, rf_n, tl_s, tl_n, am_th_some, if_true, if_false, sI_eq, uI_eq, and_self, true_and, and_true, not_false_eq_true, not_true_eq_false, Nat.reduceEqDiff, Nat.reduceLeDiff, Nat.reduceLT, Nat.reduceAdd, Nat.reduceMul, Nat.reduceSub, Nat.zero_add, hc4, h1, a1]
          · have hc0 : P 0 c ≤ 0 := hcond.resolve_left e
            rw [if_neg (fun w => ((pp_f_k hn hn2 (by omega)).mp w).2 hc0)] at hf
            simp (disch := first | omega | assumption) only [s248_0, s248_1, s248_2, s248_5, s248_8, s248_9, s248_10, s248_12, s248_15, s248_18, s248_19, s248_20, s248_21, s248_22, s248_23, s248_25, s248_26, s248_30, s248_31, s248_34, s248_37, s248_39, s248_40, s248_43, s248_44, s248_46, s248_49, s248_52, s248_53, s248_54, s248_59, s248_60, s248_63, s248_64, s248_65, s248_67, s248_70, s248_71, s248_72, s248_73, s248_76, s248_77, s248_78, s248_81, s248_82, s248_85, s248_87, s248_89, s248_90, s248_91, s248_92, s248_95, s248_97, s248_99, s248_100, s248_101, s248_102, s248_104, s248_105, s248_106, s248_109, s248_110, s248_111, s248_114, s248_116, s248_118, s248_121, s248_123, s248_124, s248_126, s248_128, s248_131, s248_134, s248_135, nI_le2, nI_lt2, nI_eq2, nI_lt0, nI_0le, nI_0lt, nI_le0, nI_eq0, nI_clamp, nI_add, bu_nI, bb_0, bb_1, rf_s, rf_n, tl_s, tl_n, am_th_some, if_true, if_false, sI_eq, uI_eq, and_self, true_and, and_true, not_false_eq_true, not_true_eq_false, Nat.reduceEqDiff, Nat.reduceLeDiff, Nat.reduceLT, Nat.reduceAdd, Nat.reduceMul, Nat.reduceSub, Nat.zero_add, hc4, h1, e, hf, a1]
        have F1 : ∀ X : Int32 × Int32, X.1 < v → am_fold (sp_pl1 T (nI q) k cnt P) (-nI 1000000000, -nI 1) c = X → am_fold (sp_pl1 T (nI q) k cnt P) (-nI 1000000000, -nI 1) (c + 1) = (v, nI c) := fun X h1 h2 => by
          rw [fold_s, h2, sp_pl1, if_pos hcond, hv, if_pos h1]
        have F2 : ∀ X : Int32 × Int32, ¬ X.1 < v → am_fold (sp_pl1 T (nI q) k cnt P) (-nI 1000000000, -nI 1) c = X → am_fold (sp_pl1 T (nI q) k cnt P) (-nI 1000000000, -nI 1) (c + 1) = X := fun X h1 h2 => by
          rw [fold_s, h2, sp_pl1, if_pos hcond, hv, if_neg h1]
        rcases f3 with ⟨e1, e2⟩ | ⟨j, hj, e1, e2⟩
        · refine ⟨(J4, (v, nI c), .int v), toV.trans ?_, g4, t3, Or.inr ⟨c, by omega, rfl, (F1 _ val.1 e2).symm⟩⟩
          rw [e1]
          simp (disch := first | omega | assumption) only [s248_0, s248_1, s248_2, s248_5, s248_8, s248_9, s248_10, s248_12, s248_15, s248_18, s248_19, s248_20, s248_21, s248_22, s248_23, s248_25, s248_26, s248_30, s248_31, s248_34, s248_37, s248_39, s248_40, s248_43, s248_44, s248_46, s248_49, s248_52, s248_53, s248_54, s248_57, s248_59, s248_60, s248_63, s248_64, s248_65, s248_67, s248_70, s248_71, s248_72, s248_73, s248_76, s248_77, s248_78, s248_81, s248_82, s248_85, s248_87, s248_89, s248_90, s248_91, s248_92, s248_95, s248_97, s248_99, s248_100, s248_101, s248_102, s248_104, s248_105, s248_106, s248_109, s248_110, s248_111, s248_114, s248_116, s248_118, s248_121, s248_123, s248_124, s248_126, s248_128, s248_131, s248_134, s248_135, nI_le2, nI_lt2, nI_eq2, nI_lt0, nI_0le, nI_0lt, nI_le0, nI_eq0, nI_clamp, nI_add, bu_nI, bb_0, bb_1, rf_s, rf_n, tl_s, tl_n, am_th_some, if_true, if_false, sI_eq, uI_eq, and_self, true_and, and_true, not_false_eq_true, not_true_eq_false, Nat.reduceEqDiff, Nat.reduceLeDiff, Nat.reduceLT, Nat.reduceAdd, Nat.reduceMul, Nat.reduceSub, Nat.zero_add]
        · have hj1 : (nI j = -nI 1) = False := eq_false (m1_ne (by omega))
          by_cases hlt : a.1 < v
          · refine ⟨(J4, (v, nI c), .int v), toV.trans ?_, g4, t3, Or.inr ⟨c, by omega, rfl, (F1 _ hlt e2.symm).symm⟩⟩
            have := Int32.not_le.mpr hlt
            simp (disch := first | omega | assumption) only [s248_0, s248_1, s248_2, s248_5, s248_8, s248_9, s248_10, s248_12, s248_15, s248_18, s248_19, s248_20, s248_21, s248_22, s248_23, s248_25, s248_26, s248_30, s248_31, s248_34, s248_37, s248_39, s248_40, s248_43, s248_44, s248_46, s248_49, s248_52, s248_53, s248_54, s248_57, s248_59, s248_60, s248_63, s248_64, s248_65, s248_67, s248_70, s248_71, s248_72, s248_73, s248_76, s248_77, s248_78, s248_81, s248_82, s248_85, s248_87, s248_89, s248_90, s248_91, s248_92, s248_95, s248_97, s248_99, s248_100, s248_101, s248_102, s248_104, s248_105, s248_106, s248_109, s248_110, s248_111, s248_114, s248_116, s248_118, s248_121, s248_123, s248_124, s248_126, s248_128, s248_131, s248_134, s248_135, nI_le2, nI_lt2, nI_eq2, nI_lt0, nI_0le, nI_0lt, nI_le0, nI_eq0, nI_clamp, nI_add, bu_nI, bb_0, bb_1, rf_s, rf_n, tl_s, tl_n, am_th_some, if_true, if_false, sI_eq, uI_eq, and_self, true_and, and_true, not_false_eq_true, not_true_eq_false, Nat.reduceEqDiff, Nat.reduceLeDiff, Nat.reduceLT, Nat.reduceAdd, Nat.reduceMul, Nat.reduceSub, Nat.zero_add, e1, hj1, this]
          · refine ⟨(J4, a, .int v), toV.trans ?_, g4, t3, Or.inr ⟨j, by omega, e1, e2.trans (F2 _ hlt e2.symm ▸ e2.symm ▸ rfl)⟩⟩
            have := Int32.not_lt.mp hlt
            simp (disch := first | omega | assumption) only [s248_0, s248_1, s248_2, s248_5, s248_8, s248_9, s248_10, s248_12, s248_15, s248_18, s248_19, s248_20, s248_21, s248_22, s248_23, s248_25, s248_26, s248_30, s248_31, s248_34, s248_37, s248_39, s248_40, s248_43, s248_44, s248_46, s248_49, s248_52, s248_53, s248_54, s248_57, s248_59, s248_60, s248_63, s248_64, s248_65, s248_67, s248_70, s248_71, s248_72, s248_73, s248_76, s248_77, s248_78, s248_81, s248_82, s248_85, s248_87, s248_89, s248_90, s248_91, s248_92, s248_95, s248_97, s248_99, s248_100, s248_101, s248_102, s248_104, s248_105, s248_106, s248_109, s248_110, s248_111, s248_114, s248_116, s248_118, s248_121, s248_123, s248_124, s248_126, s248_128, s248_131, s248_134, s248_135, nI_le2, nI_lt2, nI_eq2, nI_lt0, nI_0le, nI_0lt, nI_le0, nI_eq0, nI_clamp, nI_add, bu_nI, bb_0, bb_1, rf_s, rf_n, tl_s, tl_n, am_th_some, if_true, if_false, sI_eq, uI_eq, and_self, true_and, and_true, not_false_eq_true, not_true_eq_false, Nat.reduceEqDiff, Nat.reduceLeDiff, Nat.reduceLT, Nat.reduceAdd, Nat.reduceMul, Nat.reduceSub, Nat.zero_add, e1, hj1, this]
      · have e : ¬ c = k := fun w => hcond (Or.inl w)
        have hc0 : ¬ P 0 c ≤ 0 := fun w => hcond (Or.inr w)
        rw [if_pos ((pp_f_k hn hn2 (by omega)).mpr ⟨hcn, hc0⟩)] at hf
        have F0 : am_fold (sp_pl1 T (nI q) k cnt P) (-nI 1000000000, -nI 1) (c + 1) = am_fold (sp_pl1 T (nI q) k cnt P) (-nI 1000000000, -nI 1) c := by rw [fold_s, sp_pl1, if_neg hcond]
        refine ⟨(J, a, l6), ?_, f1, f2, ?_⟩
        · rw [s248_28]
          simp (disch := first | omega | assumption) only [s248_0, s248_1, s248_2, s248_5, s248_8, s248_9, s248_10, s248_12, s248_15, s248_18, s248_19, s248_20, s248_21, s248_22, s248_23, s248_25, s248_26, s248_30, s248_31, s248_34, s248_37, s248_39, s248_40, s248_43, s248_44, s248_46, s248_49, s248_52, s248_53, s248_54, s248_57, s248_59, s248_60, s248_63, s248_64, s248_65, s248_67, s248_70, s248_71, s248_72, s248_73, s248_76, s248_77, s248_78, s248_81, s248_82, s248_85, s248_87, s248_89, s248_90, s248_91, s248_92, s248_95, s248_97, s248_99, s248_100, s248_101, s248_102, s248_104, s248_105, s248_106, s248_109, s248_110, s248_111, s248_114, s248_116, s248_118, s248_121, s248_123, s248_124, s248_126, s248_128, s248_131, s248_134, s248_135, nI_le2, nI_lt2, nI_eq2, nI_lt0, nI_0le, nI_0lt, nI_le0, nI_eq0, nI_clamp, nI_add, bu_nI, bb_0, bb_1, rf_s, rf_n, tl_s, tl_n, am_th_some, if_true, if_false, sI_eq, uI_eq, and_self, true_and, and_true, not_false_eq_true, not_true_eq_false, Nat.reduceEqDiff, Nat.reduceLeDiff, Nat.reduceLT, Nat.reduceAdd, Nat.reduceMul, Nat.reduceSub, Nat.zero_add, hc4, h1, e, hf]
        · rw [F0]
          exact f3.imp id fun ⟨j, hj, q⟩ => ⟨j, by omega, q⟩
    · intro ⟨J, a, l6⟩ ⟨f1, f2, f3⟩
      have f1 : am_fr (ma_S 0) I J := f1
      have f2 : mm_at J P := f2
      have f3 : (a.2 = -nI 1 ∧ am_fold (sp_pl1 T (nI q) k cnt P) (-nI 1000000000, -nI 1) n = (-nI 1000000000, -nI 1)) ∨ ∃ j, j < n ∧ a.2 = nI j ∧ a = am_fold (sp_pl1 T (nI q) k cnt P) (-nI 1000000000, -nI 1) n := f3
      have hc4 : J 12 0 30 = nI n := f2.2.1.trans hn
      have res : a.2 = sp_place T (nI q) k cnt n P := by
        rw [sp_place]
        rcases f3 with ⟨e1, e2⟩ | ⟨j, hj, e1, e2⟩
        · rw [e2, e1]
        · rw [← e2]
      refine ⟨J, ?_, f1, f2⟩
      rw [s248_28]
      simp (disch := first | omega | assumption) only [s248_0, s248_1, s248_2, s248_5, s248_8, s248_9, s248_10, s248_12, s248_15, s248_18, s248_19, s248_20, s248_21, s248_22, s248_23, s248_25, s248_26, s248_30, s248_31, s248_34, s248_37, s248_39, s248_40, s248_43, s248_44, s248_46, s248_49, s248_52, s248_53, s248_54, s248_57, s248_59, s248_60, s248_63, s248_64, s248_65, s248_67, s248_70, s248_71, s248_72, s248_73, s248_76, s248_77, s248_78, s248_81, s248_82, s248_85, s248_87, s248_89, s248_90, s248_91, s248_92, s248_95, s248_97, s248_99, s248_100, s248_101, s248_102, s248_104, s248_105, s248_106, s248_109, s248_110, s248_111, s248_114, s248_116, s248_118, s248_121, s248_123, s248_124, s248_126, s248_128, s248_131, s248_134, s248_135, nI_le2, nI_lt2, nI_eq2, nI_lt0, nI_0le, nI_0lt, nI_le0, nI_eq0, nI_clamp, nI_add, bu_nI, bb_0, bb_1, rf_s, rf_n, tl_s, tl_n, am_th_some, if_true, if_false, sI_eq, uI_eq, and_self, true_and, and_true, not_false_eq_true, not_true_eq_false, Nat.reduceEqDiff, Nat.reduceLeDiff, Nat.reduceLT, Nat.reduceAdd, Nat.reduceMul, Nat.reduceSub, Nat.zero_add, hc4, Nat.le_refl]
      rw [res]
  obtain ⟨J, g1, g2⟩ := loop am_J
  refine ⟨J, ?_, g2⟩
  have hf := m_isFood (d := d + 7) (Q := Q) (x := nI k) hr hP hn hn2
  rw [if_pos ((pp_f_k hn hn2 (by omega)).mpr ⟨hkn, hk0⟩)] at hf
  have i1 : ¬ cnt < 1 := by omega
  have i2 : ¬ 20 < cnt := by omega
  rw [s248]
  simp (disch := first | omega | assumption) only [s248_0, s248_1, s248_2, s248_5, s248_8, s248_9, s248_10, s248_12, s248_15, s248_18, s248_19, s248_20, s248_21, s248_22, s248_23, s248_25, s248_26, s248_30, s248_31, s248_34, s248_37, s248_39, s248_40, s248_43, s248_44, s248_46, s248_49, s248_52, s248_53, s248_54, s248_57, s248_59, s248_60, s248_63, s248_64, s248_65, s248_67, s248_70, s248_71, s248_72, s248_73, s248_76, s248_77, s248_78, s248_81, s248_82, s248_85, s248_87, s248_89, s248_90, s248_91, s248_92, s248_95, s248_97, s248_99, s248_100, s248_101, s248_102, s248_104, s248_105, s248_106, s248_109, s248_110, s248_111, s248_114, s248_116, s248_118, s248_121, s248_123, s248_124, s248_126, s248_128, s248_131, s248_134, s248_135, nI_le2, nI_lt2, nI_eq2, nI_lt0, nI_0le, nI_0lt, nI_le0, nI_eq0, nI_clamp, nI_add, bu_nI, bb_0, bb_1, rf_s, rf_n, tl_s, tl_n, am_th_some, if_true, if_false, sI_eq, uI_eq, and_self, true_and, and_true, not_false_eq_true, not_true_eq_false, Nat.reduceEqDiff, Nat.reduceLeDiff, Nat.reduceLT, Nat.reduceAdd, Nat.reduceMul, Nat.reduceSub, Nat.zero_add, hf, m_in (d := d + 9), i1, i2]
  exact g1
theorem lli_nat (hb : b ≤ 99) (h : ∀ c, c < 25 → ce_ok n b P c) : ∀ N, N ≤ 25 → ((∀ c, c < N → P 0 c ≤ 0) ∧ am_fold (fun a c => if P 0 c ≤ 0 then a else if P 2 c - P 1 c < a then P 2 c - P 1 c else a) (nI 1000000000) N = nI 1000000000 ∧ am_fold (fun a c => if P 0 c ≤ 0 then a else if P 2 c - P 1 c < a then P 2 c - P 1 c else a) (nI 1000000) N = nI 1000000) ∨ ((∃ c, c < N ∧ ¬ P 0 c ≤ 0) ∧ am_fold (fun a c => if P 0 c ≤ 0 then a else if P 2 c - P 1 c < a then P 2 c - P 1 c else a) (nI 1000000000) N = am_fold (fun a c => if P 0 c ≤ 0 then a else if P 2 c - P 1 c < a then P 2 c - P 1 c else a) (nI 1000000) N) := by
  intro N
  induction N with
  | zero => exact fun _ => Or.inl ⟨fun c hc => absurd hc (Nat.not_lt_zero _), rfl, rfl⟩
  | succ N ih =>
    intro hN
    by_cases q : P 0 N ≤ 0
    · rcases ih (by omega) with ⟨e1, e2, e3⟩ | ⟨⟨c, hc, hf⟩, e2⟩
      · left
        refine ⟨fun c hc => (Nat.lt_succ_iff_lt_or_eq.mp hc).elim (e1 c) (fun e => by rw [e]; exact q), ?_, ?_⟩
        · rw [fold_s, e2, if_pos q]
        · rw [fold_s, e3, if_pos q]
      · right
        refine ⟨⟨c, by omega, hf⟩, ?_⟩
        rw [fold_s, fold_s, if_pos q, if_pos q, e2]
    · right
      refine ⟨⟨N, by omega, q⟩, ?_⟩
      obtain ⟨v1, v2⟩ := ce_val hb (h N (by omega))
      rcases ih (by omega) with ⟨e1, e2, e3⟩ | ⟨-, e2⟩
      · rw [fold_s, fold_s, e2, e3, if_neg q, if_neg q, if_pos v2, if_pos (Int32.lt_trans v2 (by decide))]
      · rw [fold_s, fold_s, e2]
theorem m_leastBy (hr : mm_R R) (hkT : kT T n b) (hb : 1 ≤ b ∧ b ≤ 99) (hn2 : n ≤ 25) (hq : q ≤ 9) (hT : mT T n b R Q I) (hfu : I 56 0 2 = nI q) (hI : pt_I n b m P) (hm : m < 2 ^ 27) (hP : mm_at I P) {cnt t : Nat} (hc : cnt ≤ 60) (ht : t ≤ 1) : ∃ J, am_cal (d + 10) 249 [.ref (am_mk 12 0), .int (nI cnt), .int (nI t)] I R Q = some (some (.int (sp_lli (sp_it T (nI q) (sp_up P 4 2 (nI t)) cnt))), J, R, Q) ∧ am_fr (ma_S 0) I J ∧ mm_at J P := by
  have hn := hI.1
  have e56 : ∀ {J} j, am_fr (ma_S 0) I J → J 56 0 j = I 56 0 j := fun {J} j hf => hf _ _ _ (fun w => by unfold ma_S at w; omega)
  have bu2 : am_bu (nI 2) 6 = True := bu_nI (by decide)
  obtain ⟨J1, a1, a2, a3, a4⟩ := m_putAside (d := d + 9) (Q := Q) hr hP (dep := 0) (by decide)
  have g1 := fr_mo a2 (asS_ma (dep := 0))
  have b3 := mm_u5 a4 (nI t)
  have g2 : am_fr (ma_S 0) I (am_sI J1 60 0 (am_uI (J1 60 0) 100 (nI t))) := fr_s g1 (by unfold ma_S; omega)
  obtain ⟨J3, c1, c2, c3⟩ := m_heatMany (d := d) (q := q) hr (mT_fr hT (fr_mo g2 ma_ev)) hkT (turn_I ht hI) (by omega) hq b3 hc
  have g3 := fr_x g2 c2 (mkS_ma (dep := 0))
  have aA : ma_at J3 0 P := ma_fr (ma_fr a3 (fr_s (S := fun a _ _ => a = 60) fr_rf rfl) (fun j _ _ v => by omega)) c2 (fun j _ _ v => by unfold mk_S at v; omega)
  have hIt := it_I (q := q) hkT (turn_I ht hI) cnt
  obtain ⟨J4, t1, t2, t3⟩ := m_takeBack (d := d + 9) (R := R) (Q := Q) hr (by decide) aA (c3.2.1.trans (hIt.1.trans hn.symm))
  have g4 := fr_x g3 t2 (mmS_ma (dep := 0))
  have o2 := (e56 2 g2).trans hfu
  generalize hX : sp_it T (nI q) (sp_up P 4 2 (nI t)) cnt = X at c1 c3 hIt
  have hnX := hIt.1
  have lli : sp_lli X = am_fold (fun a c => if X 0 c ≤ 0 then a else if X 2 c - X 1 c < a then X 2 c - X 1 c else a) (nI 1000000) n := by
    have tr : sp_lli X = am_fold (fun a c => if X 0 c ≤ 0 then a else if X 2 c - X 1 c < a then X 2 c - X 1 c else a) (nI 1000000000) n := fold_trunc hn2 fun x c h1 h2 => if_pos (ce_out (hIt.2.2.2.1 c h2) h1)
    rw [tr]
    rcases lli_nat hb.2 hIt.2.2.2.1 n hn2 with ⟨e1, -, -⟩ | ⟨-, e2⟩
    · obtain ⟨c, hc, hf⟩ := hIt.2.2.2.2
      exact absurd (e1 c (ce_food (hIt.2.2.2.1 c hc) hf)) hf
    · exact e2
  have loop : am_ev (d + 10) 249 31 [.ref (am_mk 12 0), .int (nI cnt), .int (nI t), .int (nI 1000000), .int (nI 0)] [] J3 R Q = some (some (.int (sp_lli X)), J4, R, Q) := by
    rw [lli]
    have hc4 : J3 12 0 30 = nI n := c3.2.1.trans hnX
    refine (loop_fold (fun a c => am_ev (d + 10) 249 31 [.ref (am_mk 12 0), .int (nI cnt), .int (nI t), .int a, .int (nI c)] [] J3 R Q) (fun a c => if X 0 c ≤ 0 then a else if X 2 c - X 1 c < a then X 2 c - X 1 c else a) n (fun a c hc => ?_) (nI 1000000)).trans ?_
    · have h1 : ¬ n ≤ c := by omega
      have hf := m_isFood (d := d + 7) (Q := Q) (x := nI c) hr c3 hnX hn2
      obtain ⟨y0, y1, y2, y3⟩ := c3.1 c (by omega)
      rw [s249_31]
      by_cases q0 : X 0 c ≤ 0
      · rw [if_neg (fun w => ((pp_f_k hnX hn2 (by omega)).mp w).2 q0)] at hf
        simp (disch := first | omega | assumption) only [s249_0, s249_1, s249_2, s249_5, s249_6, s249_9, s249_11, s249_12, s249_13, s249_14, s249_15, s249_16, s249_19, s249_20, s249_21, s249_24, s249_27, s249_28, s249_29, s249_33, s249_34, s249_37, s249_40, s249_41, s249_43, s249_46, s249_49, s249_50, s249_51, s249_54, s249_56, s249_58, s249_59, s249_60, s249_61, s249_64, s249_66, s249_68, s249_69, s249_70, s249_71, s249_74, s249_77, s249_78, s249_79, s249_82, s249_85, s249_86, s249_87, s249_90, s249_91, nI_le2, nI_lt2, nI_eq2, nI_lt0, nI_0le, nI_0lt, nI_le0, nI_eq0, nI_clamp, nI_add, bu_nI, bb_0, bb_1, rf_s, rf_n, tl_s, tl_n, am_th_some, if_true, if_false, sI_eq, uI_eq, and_self, true_and, and_true, not_false_eq_true, not_true_eq_false, Nat.reduceEqDiff, Nat.reduceLeDiff, Nat.reduceLT, Nat.reduceAdd, Nat.reduceMul, Nat.reduceSub, Nat.zero_add, hc4, h1, hf, if_pos q0]
      · rw [if_pos ((pp_f_k hnX hn2 (by omega)).mpr ⟨hc, q0⟩)] at hf
        simp (disch := first | omega | assumption) only [s249_0, s249_1, s249_2, s249_5, s249_6, s249_9, s249_11, s249_12, s249_13, s249_14, s249_15, s249_16, s249_19, s249_20, s249_21, s249_24, s249_27, s249_28, s249_29, s249_33, s249_34, s249_37, s249_40, s249_41, s249_43, s249_46, s249_49, s249_50, s249_51, s249_54, s249_56, s249_58, s249_59, s249_60, s249_61, s249_64, s249_66, s249_68, s249_69, s249_70, s249_71, s249_74, s249_77, s249_78, s249_79, s249_82, s249_85, s249_86, s249_87, s249_90, s249_91, nI_le2, nI_lt2, nI_eq2, nI_lt0, nI_0le, nI_0lt, nI_le0, nI_eq0, nI_clamp, nI_add, bu_nI, bb_0, bb_1, rf_s, rf_n, tl_s, tl_n, am_th_some, if_true, if_false, sI_eq, uI_eq, and_self, true_and, and_true, not_false_eq_true, not_true_eq_false, Nat.reduceEqDiff, Nat.reduceLeDiff, Nat.reduceLT, Nat.reduceAdd, Nat.reduceMul, Nat.reduceSub, Nat.zero_add, hc4, h1, hf, if_neg q0, mr31 hr, y1, y2]
    · rw [s249_31]
      simp (disch := first | omega | assumption) only [s249_0, s249_1, s249_2, s249_5, s249_6, s249_9, s249_11, s249_12, s249_13, s249_14, s249_15, s249_16, s249_19, s249_20, s249_21, s249_24, s249_27, s249_28, s249_29, s249_33, s249_34, s249_37, s249_40, s249_41, s249_43, s249_46, s249_49, s249_50, s249_51, s249_54, s249_56, s249_58, s249_59, s249_60, s249_61, s249_64, s249_66, s249_68, s249_69, s249_70, s249_71, s249_74, s249_77, s249_78, s249_79, s249_82, s249_85, s249_86, s249_87, s249_90, s249_91, nI_le2, nI_lt2, nI_eq2, nI_lt0, nI_0le, nI_0lt, nI_le0, nI_eq0, nI_clamp, nI_add, bu_nI, bb_0, bb_1, rf_s, rf_n, tl_s, tl_n, am_th_some, if_true, if_false, sI_eq, uI_eq, and_self, true_and, and_true, not_false_eq_true, not_true_eq_false, Nat.reduceEqDiff, Nat.reduceLeDiff, Nat.reduceLT, Nat.reduceAdd, Nat.reduceMul, Nat.reduceSub, Nat.zero_add, hc4, Nat.le_refl, t1]
  refine ⟨J4, ?_, g4, t3⟩
  rw [s249]
  simp (disch := first | omega | assumption) only [s249_0, s249_1, s249_2, s249_5, s249_6, s249_9, s249_11, s249_12, s249_13, s249_14, s249_15, s249_16, s249_19, s249_20, s249_21, s249_24, s249_27, s249_28, s249_29, s249_33, s249_34, s249_37, s249_40, s249_41, s249_43, s249_46, s249_49, s249_50, s249_51, s249_54, s249_56, s249_58, s249_59, s249_60, s249_61, s249_64, s249_66, s249_68, s249_69, s249_70, s249_71, s249_74, s249_77, s249_78, s249_79, s249_82, s249_85, s249_86, s249_87, s249_90, s249_91, nI_le2, nI_lt2, nI_eq2, nI_lt0, nI_0le, nI_0lt, nI_le0, nI_eq0, nI_clamp, nI_add, bu_nI, bb_0, bb_1, rf_s, rf_n, tl_s, tl_n, am_th_some, if_true, if_false, sI_eq, uI_eq, and_self, true_and, and_true, not_false_eq_true, not_true_eq_false, Nat.reduceEqDiff, Nat.reduceLeDiff, Nat.reduceLT, Nat.reduceAdd, Nat.reduceMul, Nat.reduceSub, Nat.zero_add, a1, mr31 hr, mr24 hr, o2, bu2, c1]
  exact loop
/-- how many DEGREES the warmest has -/
def sp_most (P : Nat → Nat → Int32) : Int32 := am_fold (fun a c => if P 0 c ≤ 0 then a else if a < P 2 c then P 2 c else a) (nI 0) 25
theorem most_nat (hb : b ≤ 99) (h : ∀ c, c < 25 → ce_ok n b P c) : ∀ N, N ≤ 25 → (am_fold (fun a c => if ¬ P 0 c ≤ 0 ∧ (a = -nI 1 ∨ if (true = true) then P 2 a.toNatClampNeg < P 2 c else P 2 c < P 2 a.toNatClampNeg) then nI c else a) (-nI 1) N = -nI 1 ∧ (∀ c, c < N → P 0 c ≤ 0) ∧ am_fold (fun a c => if P 0 c ≤ 0 then a else if a < P 2 c then P 2 c else a) (nI 0) N = nI 0) ∨ (∃ j, j < N ∧ am_fold (fun a c => if ¬ P 0 c ≤ 0 ∧ (a = -nI 1 ∨ if (true = true) then P 2 a.toNatClampNeg < P 2 c else P 2 c < P 2 a.toNatClampNeg) then nI c else a) (-nI 1) N = nI j ∧ ¬ P 0 j ≤ 0 ∧ am_fold (fun a c => if P 0 c ≤ 0 then a else if a < P 2 c then P 2 c else a) (nI 0) N = P 2 j) := by
  intro N
  induction N with
  | zero => exact fun _ => Or.inl ⟨rfl, fun c hc => absurd hc (Nat.not_lt_zero _), rfl⟩
  | succ N ih =>
    intro hN
    obtain ⟨t, i, g, u, h0, h1, h2, h3, ht, hi, hg, hu, hz, hn⟩ := h N (by omega)
    rcases ih (by omega) with ⟨e1, e2, e3⟩ | ⟨j, hj, e1, e2, e3⟩
    · by_cases q : P 0 N ≤ 0
      · left
        refine ⟨?_, fun c hc => (Nat.lt_succ_iff_lt_or_eq.mp hc).elim (e2 c) (fun e => by rw [e]; exact q), ?_⟩
        · rw [fold_s, e1, if_neg (fun w => w.1 q)]
        · rw [fold_s, e3, if_pos q]
      · right
        refine ⟨N, by omega, ?_, q, ?_⟩
        · rw [fold_s, e1, if_pos ⟨q, Or.inl rfl⟩]
        · rw [fold_s, e3, if_neg q]
          by_cases q2 : nI 0 < P 2 N
          · rw [if_pos q2]
          · rw [if_neg q2, h2]
            rw [h2, nI_lt2 (by decide) (by omega)] at q2
            rw [show g = 0 by omega]
    · right
      have hjc : (nI j).toNatClampNeg = j := nI_clamp (by omega)
      by_cases q : P 0 N ≤ 0
      · refine ⟨j, by omega, ?_, e2, ?_⟩
        · rw [fold_s, e1, if_neg (fun w => w.1 q)]
        · rw [fold_s, e3, if_pos q]
      · by_cases q2 : P 2 j < P 2 N
        · refine ⟨N, by omega, ?_, q, ?_⟩
          · rw [fold_s, e1, if_pos ⟨q, Or.inr (by rw [if_pos rfl, hjc]; exact q2)⟩]
          · rw [fold_s, e3, if_neg q, if_pos q2]
        · refine ⟨j, by omega, ?_, e2, ?_⟩
          · rw [fold_s, e1, if_neg (fun w => w.2.elim (m1_ne (by omega)) (fun v => by rw [if_pos rfl, hjc] at v; exact q2 v))]
          · rw [fold_s, e3, if_neg q, if_neg q2]
theorem m_apartNow (hb : 1 ≤ b ∧ b ≤ 99) (hr : mm_R R) (hP : mm_at I P) (hn2 : n ≤ 25) (hI : pt_I n b m P) : am_cal (d + 5) 251 [.ref (am_mk 12 0)] I R Q = some (some (.int (sp_most P - sp_least P)), I, R, Q) := by
  have hm := m_extreme (d := d + 1) (Q := Q) hr hP hI.1 hn2 (most := true)
  rw [if_pos rfl] at hm
  obtain ⟨c, hc, hf⟩ := hI.2.2.2.2
  have hcn := ce_food (hI.2.2.2.1 c hc) hf
  have ht : sp_most P = am_fold (fun a c => if P 0 c ≤ 0 then a else if a < P 2 c then P 2 c else a) (nI 0) n := fold_trunc hn2 fun x c h1 h2 => if_pos (ce_out (hI.2.2.2.1 c h2) h1)
  rw [s251]
  rcases most_nat hb.2 hI.2.2.2.1 n hn2 with ⟨-, e2, -⟩ | ⟨j, hj, e1, e2, e3⟩
  · exact absurd (e2 c hcn) hf
  · have e1 : sp_ext P true n = nI j := e1
    rw [e1] at hm
    obtain ⟨c0, c1, c2, c3⟩ := hP.1 j (by omega)
    simp (disch := first | omega | assumption) only [s251_0, s251_1, s251_4, s251_6, s251_7, s251_8, s251_11, s251_12, s251_13, s251_14, s251_17, s251_18, nI_le2, nI_lt2, nI_eq2, nI_lt0, nI_0le, nI_0lt, nI_le0, nI_eq0, nI_clamp, nI_add, bu_nI, bb_0, bb_1, rf_s, rf_n, tl_s, tl_n, am_th_some, if_true, if_false, sI_eq, uI_eq, and_self, true_and, and_true, not_false_eq_true, not_true_eq_false, Nat.reduceEqDiff, Nat.reduceLeDiff, Nat.reduceLT, Nat.reduceAdd, Nat.reduceMul, Nat.reduceSub, Nat.zero_add, hm, mr31 hr, c2, m_least (d := d) hb hr hP hn2 hI]
    rw [ht, e3]
theorem c_apartP {p : Nat} (hp : pp_R R p) (hP : pp_at I p P) : am_cal (d + 1) 86 [.ref (am_mk 9 p)] I R Q = some (some (.int (sp_most P - sp_least P)), I, R, Q) := by
  rw [c_apart hp.1 hp.2.2.1]
  have e1 : am_fold (fun a c => if I 19 p c ≤ 0 then a else if a < I 21 p c then I 21 p c else a) (nI 0) 25 = sp_most P := fold_congr fun x c hc => by
    obtain ⟨a0, a1, a2, a3⟩ := hP.1 c hc
    rw [a0, a2]
  have e2 : am_fold (fun a c => if I 19 p c ≤ 0 then a else if I 21 p c < a then I 21 p c else a) (nI 1000000000) 25 = sp_least P := fold_congr fun x c hc => by
    obtain ⟨a0, a1, a2, a3⟩ := hP.1 c hc
    rw [a0, a2]
  rw [e1, e2]
theorem c_leastP {p : Nat} (hp : pp_R R p) (hP : pp_at I p P) : am_cal d 84 [.ref (am_mk 9 p)] I R Q = some (some (.int (sp_least P)), I, R, Q) := by
  rw [c_leastDegrees hp.1 hp.2.2.1]
  have e2 : am_fold (fun a c => if I 19 p c ≤ 0 then a else if I 21 p c < a then I 21 p c else a) (nI 1000000000) 25 = sp_least P := fold_congr fun x c hc => by
    obtain ⟨a0, a1, a2, a3⟩ := hP.1 c hc
    rw [a0, a2]
  rw [e2]
end
