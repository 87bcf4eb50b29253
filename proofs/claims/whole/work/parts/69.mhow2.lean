/-! HOW: the model, its answer. -/
def mh_S : Nat → Nat → Nat → Prop := fun a b _ => a = 62 ∨ a = 50 ∨ a = 51 ∨ a = 70 ∨ (a = 60 ∧ ¬ b = 0)
def mv_S : Nat → Nat → Nat → Prop := fun a _ j => (a = 60 ∧ j < 283) ∨ a = 62 ∨ a = 50 ∨ a = 51 ∨ a = 70
section
variable {d n b m u v k p q f : Nat} {I : am_I} {R : am_R} {Q : am_Q} {N : Nat → Nat → Nat} {P : Nat → Nat → Int32} {T : pl_T} {i : Int32} {C : Nat → Nat}
theorem ms_fr {S : Nat → Nat → Nat → Prop} {J : am_I} (h : ms_at I k N) (hf : am_fr S I J) (h1 : ¬ S 12 0 49) (h2 : ∀ a j, (a = 67 ∨ a = 68 ∨ a = 69) → ¬ S a 0 j) : ms_at J k N := ⟨(hf _ _ _ h1).trans h.1, fun i hi => ⟨(hf _ _ _ (h2 _ _ (by omega))).trans (h.2 i hi).1, (hf _ _ _ (h2 _ _ (by omega))).trans (h.2 i hi).2.1, (hf _ _ _ (h2 _ _ (by omega))).trans (h.2 i hi).2.2⟩⟩
theorem m_how (hr : mm_R R) (hD : md_at I f n C P) (hc : I 12 0 30 = nI n) (hn0 : 1 ≤ n) (hn2 : n ≤ 25) (hT : mT T n b R Q I) (hk : kT T n b) (hI : pt_I n b m P) (hm : m < 2 ^ 28) (hq : I 56 0 2 = nI q) (hq9 : q ≤ 9) (nk : nt_ok k N) (nh : ms_at I k N) : ∃ J, am_cal (d + 9) 270 [.ref (am_mk 12 0), .int i] I R Q = some (some (.int (sp_weak (sp_ho T k N P q) i)), J, R, Q) ∧ am_fr mh_S I J := by
  have hl : ¬ I 12 0 30 ≤ 0 := by rw [hc, nI_le0 (by omega)]; omega
  by_cases hi : i < -nI 1
  · refine ⟨I, ?_, fr_rf⟩
    have h1 : ¬ -nI 1 ≤ i := Int32.not_le.mpr hi
    have h0 : sp_weak (sp_ho T k N P q) i = -nI 1 := by
      rw [sp_weak, if_neg (fun q => by rw [q] at hi; exact Int32.lt_irrefl hi), if_pos (Int32.lt_trans hi (by decide))]
    rw [h0, s270]
    simp (disch := first | omega | assumption) only [s270_0, s270_1, s270_4, s270_7, s270_8, s270_9, s270_12, s270_13, s270_14, s270_15, s270_17, s270_20, s270_23, s270_24, s270_27, s270_28, s270_29, s270_32, s270_33, s270_34, s270_35, s270_38, s270_41, s270_42, s270_43, s270_44, s270_45, s270_46, s270_48, s270_50, s270_51, s270_54, s270_55, s270_56, s270_59, s270_60, s270_63, s270_64, s270_66, s270_68, s270_70, s270_73, s270_74, s270_76, s270_79, s270_80, s270_81, s270_84, s270_87, s270_88, s270_89, s270_92, s270_94, s270_96, s270_97, s270_99, s270_100, s270_103, s270_104, s270_105, s270_108, s270_111, s270_114, s270_117, s270_120, s270_121, s270_123, s270_125, s270_128, s270_131, s270_132, s270_135, s270_137, s270_138, s270_141, s270_143, s270_144, s270_145, s270_148, s270_151, s270_152, s270_153, s270_156, s270_157, s270_160, s270_161, nI_le2, nI_lt2, nI_eq2, nI_lt0, nI_0le, nI_0lt, nI_le0, nI_eq0, nI_clamp, nI_add, bu_nI, bb_0, bb_1, rf_s, rf_n, tl_s, tl_n, am_th_some, if_true, if_false, sI_eq, uI_eq, and_self, true_and, and_true, not_false_eq_true, not_true_eq_false, Nat.reduceEqDiff, Nat.reduceLeDiff, Nat.reduceLT, Nat.reduceAdd, Nat.reduceMul, Nat.reduceSub, Nat.zero_add, m_isLunch (d := d + 8), hl, h1]
  · have h1 : (-nI 1 ≤ i) = True := eq_true (Int32.not_lt.mp hi)
    let Post : Option am_X → Prop := fun y => ∃ J, y = some (some (.int (sp_weak (sp_ho T k N P q) i)), J, R, Q) ∧ am_fr mh_S I J
    let Inv : am_I → Prop := fun J => am_fr mv_S I J ∧ ∀ j, j < 283 → J 70 0 j = I 60 0 j
    have back : ∀ (J : am_I) (x y l5 : Value), Inv J → ∃ K, am_ev (d + 9) 270 123 [.ref (am_mk 12 0), .int i, x, y, .int (nI 0), l5] [] J R Q = am_ev (d + 9) 270 151 [.ref (am_mk 12 0), .int i, x, y, .int (nI 283), l5] [] K R Q ∧ am_fr mh_S I K := by
      intro J x y l5 ⟨f1, f2⟩
      refine loop_inv (f := fun J c => am_ev (d + 9) 270 123 [.ref (am_mk 12 0), .int i, x, y, .int (nI c), l5] [] J R Q) (Inv := fun c J => am_fr mv_S I J ∧ (∀ j, j < 283 → J 70 0 j = I 60 0 j) ∧ ∀ j, j < c → J 60 0 j = I 60 0 j) (Post := fun z => ∃ K, z = am_ev (d + 9) 270 151 [.ref (am_mk 12 0), .int i, x, y, .int (nI 283), l5] [] K R Q ∧ am_fr mh_S I K) (n := 283) ?_ ?_ (Nat.zero_le _) ⟨f1, f2, fun j hj => absurd hj (Nat.not_lt_zero _)⟩
      · intro c J hcc ⟨g1, g2, g3⟩
        left
        have h1 : ¬ 283 ≤ c := by omega
        refine ⟨am_sI J 60 0 (am_uI (J 60 0) c (I 60 0 c)), ?_, fr_s g1 (Or.inl ⟨rfl, hcc⟩), fun j hj => ?_, fun j hj => ?_⟩
        · have e := g2 c hcc
          rw [s270_123]
          simp (disch := first | omega | assumption) only [s270_0, s270_1, s270_4, s270_7, s270_8, s270_9, s270_12, s270_13, s270_14, s270_15, s270_17, s270_20, s270_23, s270_24, s270_27, s270_28, s270_29, s270_32, s270_33, s270_34, s270_35, s270_38, s270_41, s270_42, s270_43, s270_44, s270_45, s270_46, s270_50, s270_51, s270_54, s270_55, s270_56, s270_59, s270_60, s270_63, s270_64, s270_68, s270_70, s270_73, s270_74, s270_76, s270_79, s270_80, s270_81, s270_84, s270_87, s270_88, s270_89, s270_92, s270_94, s270_96, s270_97, s270_99, s270_100, s270_103, s270_104, s270_105, s270_108, s270_111, s270_114, s270_117, s270_120, s270_121, s270_125, s270_128, s270_131, s270_132, s270_135, s270_137, s270_138, s270_141, s270_143, s270_144, s270_145, s270_148, s270_152, s270_153, s270_156, s270_157, s270_160, s270_161, nI_le2, nI_lt2, nI_eq2, nI_lt0, nI_0le, nI_0lt, nI_le0, nI_eq0, nI_clamp, nI_add, bu_nI, bb_0, bb_1, rf_s, rf_n, tl_s, tl_n, am_th_some, if_true, if_false, sI_eq, uI_eq, and_self, true_and, and_true, not_false_eq_true, not_true_eq_false, Nat.reduceEqDiff, Nat.reduceLeDiff, Nat.reduceLT, Nat.reduceAdd, Nat.reduceMul, Nat.reduceSub, Nat.zero_add, mr31 hr, mr50 hr, h1, e]
        · rw [sI_na (by omega), g2 j hj]
        · rw [sI_eq]
          by_cases e : j = c
          · rw [e, uI_eq]
          · rw [uI_ne e, g3 j (by omega)]
      · intro J ⟨g1, g2, g3⟩
        refine ⟨J, ?_, fun y z j w => ?_⟩
        · rw [s270_123]
          simp (disch := first | omega | assumption) only [s270_0, s270_1, s270_4, s270_7, s270_8, s270_9, s270_12, s270_13, s270_14, s270_15, s270_17, s270_20, s270_23, s270_24, s270_27, s270_28, s270_29, s270_32, s270_33, s270_34, s270_35, s270_38, s270_41, s270_42, s270_43, s270_44, s270_45, s270_46, s270_50, s270_51, s270_54, s270_55, s270_56, s270_59, s270_60, s270_63, s270_64, s270_68, s270_70, s270_73, s270_74, s270_76, s270_79, s270_80, s270_81, s270_84, s270_87, s270_88, s270_89, s270_92, s270_94, s270_96, s270_97, s270_99, s270_100, s270_103, s270_104, s270_105, s270_108, s270_111, s270_114, s270_117, s270_120, s270_121, s270_125, s270_128, s270_131, s270_132, s270_135, s270_137, s270_138, s270_141, s270_143, s270_144, s270_145, s270_148, s270_152, s270_153, s270_156, s270_157, s270_160, s270_161, nI_le2, nI_lt2, nI_eq2, nI_lt0, nI_0le, nI_0lt, nI_le0, nI_eq0, nI_clamp, nI_add, bu_nI, bb_0, bb_1, rf_s, rf_n, tl_s, tl_n, am_th_some, if_true, if_false, sI_eq, uI_eq, and_self, true_and, and_true, not_false_eq_true, not_true_eq_false, Nat.reduceEqDiff, Nat.reduceLeDiff, Nat.reduceLT, Nat.reduceAdd, Nat.reduceMul, Nat.reduceSub, Nat.zero_add]
        · by_cases e : y = 60 ∧ z = 0 ∧ j < 283
          · obtain ⟨rfl, rfl, hj⟩ := e
            exact g3 j hj
          · exact g1 _ _ _ (fun w2 => by unfold mh_S at w; unfold mv_S at w2; omega)
    have inner : ∀ (a : Nat) (J : am_I), a < q → Inv J → ∀ l5 : Value, ∃ J', am_ev (d + 9) 270 48 [.ref (am_mk 12 0), .int i, .int (nI (sp_ho T k N P a).length), .int (sp_lk (sp_ho T k N P a) i), .int (nI (a + 1)), l5] [] J R Q = am_ev (d + 9) 270 48 [.ref (am_mk 12 0), .int i, .int (nI (sp_ho T k N P (a + 1)).length), .int (sp_lk (sp_ho T k N P (a + 1)) i), .int (nI (a + 1 + 1)), .int (nI 21)] [] J' R Q ∧ Inv J' := by
      intro a J ha ⟨f1, f2⟩ l5
      have hq' : J 56 0 2 = nI q := (f1 _ _ _ (fun w => by unfold mv_S at w; omega)).trans hq
      have hc' : J 12 0 30 = nI n := (f1 _ _ _ (fun w => by unfold mv_S at w; omega)).trans hc
      obtain ⟨J0, a1, a2, a3, -⟩ := m_begin (d := d + 8) (Q := Q) hr (md_fr hD f1 (fun w => by unfold mv_S at w; omega) (fun j w => by unfold mv_S at w; omega)) hc'
      have h0 : ¬ q < a + 1 := by omega
      have start : am_ev (d + 9) 270 48 [.ref (am_mk 12 0), .int i, .int (nI (sp_ho T k N P a).length), .int (sp_lk (sp_ho T k N P a) i), .int (nI (a + 1)), l5] [] J R Q = am_ev (d + 9) 270 66 [.ref (am_mk 12 0), .int i, .int (nI (sp_ho T k N P a).length), .int (sp_lk (sp_ho T k N P a) i), .int (nI (a + 1)), .int (nI 1)] [] J0 R Q := by
        rw [s270_48]
        simp (disch := first | omega | assumption) only [s270_0, s270_1, s270_4, s270_7, s270_8, s270_9, s270_12, s270_13, s270_14, s270_15, s270_17, s270_20, s270_23, s270_24, s270_27, s270_28, s270_29, s270_32, s270_33, s270_34, s270_35, s270_38, s270_41, s270_42, s270_43, s270_44, s270_45, s270_46, s270_50, s270_51, s270_54, s270_55, s270_56, s270_59, s270_60, s270_63, s270_64, s270_68, s270_70, s270_73, s270_74, s270_76, s270_79, s270_80, s270_81, s270_84, s270_87, s270_88, s270_89, s270_92, s270_94, s270_96, s270_97, s270_99, s270_100, s270_103, s270_104, s270_105, s270_108, s270_111, s270_114, s270_117, s270_120, s270_121, s270_125, s270_128, s270_131, s270_132, s270_135, s270_137, s270_138, s270_141, s270_143, s270_144, s270_145, s270_148, s270_152, s270_153, s270_156, s270_157, s270_160, s270_161, nI_le2, nI_lt2, nI_eq2, nI_lt0, nI_0le, nI_0lt, nI_le0, nI_eq0, nI_clamp, nI_add, bu_nI, bb_0, bb_1, rf_s, rf_n, tl_s, tl_n, am_th_some, if_true, if_false, sI_eq, uI_eq, and_self, true_and, and_true, not_false_eq_true, not_true_eq_false, Nat.reduceEqDiff, Nat.reduceLeDiff, Nat.reduceLT, Nat.reduceAdd, Nat.reduceMul, Nat.reduceSub, Nat.zero_add, mr24 hr, hq', h0, a1]
      rw [start]
      have key := loop_inv (f := fun J t => am_ev (d + 9) 270 66 [.ref (am_mk 12 0), .int i, .int (nI (sp_ho T k N P a ++ sp_hi T k N P (a + 1) t).length), .int (sp_lk (sp_ho T k N P a ++ sp_hi T k N P (a + 1) t) i), .int (nI (a + 1)), .int (nI (t + 1))] [] J R Q) (Inv := fun t J => Inv J ∧ mm_at J (sp_it T (nI (a + 1)) P t)) (Post := fun y => ∃ J', y = am_ev (d + 9) 270 48 [.ref (am_mk 12 0), .int i, .int (nI (sp_ho T k N P (a + 1)).length), .int (sp_lk (sp_ho T k N P (a + 1)) i), .int (nI (a + 1 + 1)), .int (nI 21)] [] J' R Q ∧ Inv J') (n := 20) ?_ ?_ (Nat.zero_le _) (a := J0) ⟨⟨fr_x f1 a2 (fun a b j w => Or.inl w), fun j hj => (a2 _ _ _ (fun w => by unfold md_S at w; omega)).trans (f2 j hj)⟩, a3⟩
      · rw [show sp_hi T k N P (a + 1) 0 = [] from rfl, List.append_nil] at key
        exact key
      · intro t J ht' ⟨⟨g1, g4⟩, g2⟩
        left
        have h1 : ¬ 20 < t + 1 := by omega
        obtain ⟨K, w1, w2, w3⟩ := hT d J (m + t) (a + 1) _ (fr_mo g1 (fun a b j w => by unfold mv_S at w; unfold mev_S; omega)) g2 (it_I hk hI t) (by omega) (by omega)
        have gK : am_fr mv_S I K := fr_x g1 w2 (fun a b j w => by unfold mk_S at w; unfold mv_S; omega)
        have g7 : ∀ j, j < 283 → K 70 0 j = I 60 0 j := fun j hj => (w2 _ _ _ (fun w => by unfold mk_S at w; omega)).trans (g4 j hj)
        have so := m_isSetSo (d := d + 8) (Q := Q) hr nk (ms_fr nh gK (fun w => by unfold mv_S at w; omega) (fun a j ha w => by unfold mv_S at w; omega)) w3
        have hle := hi_len (T := T) (k := k) (N := N) (P := P) (q := a + 1) (t := t)
        have hoe := ho_len (T := T) (k := k) (N := N) (P := P) (a := a)
        have hlen : (sp_ho T k N P a ++ sp_hi T k N P (a + 1) t).length < 2 ^ 31 := by rw [List.length_append]; omega
        by_cases q1 : sp_hs k N (T (nI (a + 1)) (sp_it T (nI (a + 1)) P t)).1
        · rw [if_pos q1] at so
          have e1 : sp_hi T k N P (a + 1) (t + 1) = sp_hi T k N P (a + 1) t ++ [100 * (a + 1) + (t + 1)] := by rw [hi_s]; exact if_pos q1
          have e2 : (sp_ho T k N P a ++ sp_hi T k N P (a + 1) (t + 1)).length = (sp_ho T k N P a ++ sp_hi T k N P (a + 1) t).length + 1 := by rw [e1]; simp only [List.length_append, List.length_singleton]; omega
          have e3 : sp_lk (sp_ho T k N P a ++ sp_hi T k N P (a + 1) (t + 1)) i = if nI (sp_ho T k N P a ++ sp_hi T k N P (a + 1) t).length = i then nI (100 * (a + 1) + (t + 1)) else sp_lk (sp_ho T k N P a ++ sp_hi T k N P (a + 1) t) i := by rw [e1, ← List.append_assoc, lk_app hlen]
          refine ⟨K, ?_, ⟨gK, g7⟩, w3⟩
          rw [e2, e3, s270_66]
          by_cases hfi : nI (sp_ho T k N P a ++ sp_hi T k N P (a + 1) t).length = i
          · have hfi' := eq_true hfi
            rw [if_pos hfi]
            simp (disch := first | omega | assumption) only [s270_0, s270_1, s270_4, s270_7, s270_8, s270_9, s270_12, s270_13, s270_14, s270_15, s270_17, s270_20, s270_23, s270_24, s270_27, s270_28, s270_29, s270_32, s270_33, s270_34, s270_35, s270_38, s270_41, s270_42, s270_43, s270_44, s270_45, s270_46, s270_50, s270_51, s270_54, s270_55, s270_56, s270_59, s270_60, s270_63, s270_64, s270_68, s270_70, s270_73, s270_74, s270_76, s270_79, s270_80, s270_81, s270_84, s270_87, s270_88, s270_89, s270_92, s270_94, s270_96, s270_97, s270_99, s270_100, s270_103, s270_104, s270_105, s270_108, s270_111, s270_114, s270_117, s270_120, s270_121, s270_125, s270_128, s270_131, s270_132, s270_135, s270_137, s270_138, s270_141, s270_143, s270_144, s270_145, s270_148, s270_152, s270_153, s270_156, s270_157, s270_160, s270_161, nI_le2, nI_lt2, nI_eq2, nI_lt0, nI_0le, nI_0lt, nI_le0, nI_eq0, nI_clamp, nI_add, bu_nI, bb_0, bb_1, rf_s, rf_n, tl_s, tl_n, am_th_some, if_true, if_false, sI_eq, uI_eq, and_self, true_and, and_true, not_false_eq_true, not_true_eq_false, Nat.reduceEqDiff, Nat.reduceLeDiff, Nat.reduceLT, Nat.reduceAdd, Nat.reduceMul, Nat.reduceSub, Nat.zero_add, h1, w1, so, hfi', nI_mul, nI_add]
          · rw [if_neg hfi]
            simp (disch := first | omega | assumption) only [s270_0, s270_1, s270_4, s270_7, s270_8, s270_9, s270_12, s270_13, s270_14, s270_15, s270_17, s270_20, s270_23, s270_24, s270_27, s270_28, s270_29, s270_32, s270_33, s270_34, s270_35, s270_38, s270_41, s270_42, s270_43, s270_44, s270_45, s270_46, s270_50, s270_51, s270_54, s270_55, s270_56, s270_59, s270_60, s270_63, s270_64, s270_68, s270_70, s270_73, s270_74, s270_76, s270_79, s270_80, s270_81, s270_84, s270_87, s270_88, s270_89, s270_92, s270_94, s270_96, s270_97, s270_99, s270_100, s270_103, s270_104, s270_105, s270_108, s270_111, s270_114, s270_117, s270_120, s270_121, s270_125, s270_128, s270_131, s270_132, s270_135, s270_137, s270_138, s270_141, s270_143, s270_144, s270_145, s270_148, s270_152, s270_153, s270_156, s270_157, s270_160, s270_161, nI_le2, nI_lt2, nI_eq2, nI_lt0, nI_0le, nI_0lt, nI_le0, nI_eq0, nI_clamp, nI_add, bu_nI, bb_0, bb_1, rf_s, rf_n, tl_s, tl_n, am_th_some, if_true, if_false, sI_eq, uI_eq, and_self, true_and, and_true, not_false_eq_true, not_true_eq_false, Nat.reduceEqDiff, Nat.reduceLeDiff, Nat.reduceLT, Nat.reduceAdd, Nat.reduceMul, Nat.reduceSub, Nat.zero_add, h1, w1, so, hfi, nI_mul, nI_add]
        · rw [if_neg q1] at so
          have e1 : sp_hi T k N P (a + 1) (t + 1) = sp_hi T k N P (a + 1) t := by rw [hi_s]; exact if_neg q1
          refine ⟨K, ?_, ⟨gK, g7⟩, w3⟩
          rw [e1, s270_66]
          simp (disch := first | omega | assumption) only [s270_0, s270_1, s270_4, s270_7, s270_8, s270_9, s270_12, s270_13, s270_14, s270_15, s270_17, s270_20, s270_23, s270_24, s270_27, s270_28, s270_29, s270_32, s270_33, s270_34, s270_35, s270_38, s270_41, s270_42, s270_43, s270_44, s270_45, s270_46, s270_50, s270_51, s270_54, s270_55, s270_56, s270_59, s270_60, s270_63, s270_64, s270_68, s270_70, s270_73, s270_74, s270_76, s270_79, s270_80, s270_81, s270_84, s270_87, s270_88, s270_89, s270_92, s270_94, s270_96, s270_97, s270_99, s270_100, s270_103, s270_104, s270_105, s270_108, s270_111, s270_114, s270_117, s270_120, s270_121, s270_125, s270_128, s270_131, s270_132, s270_135, s270_137, s270_138, s270_141, s270_143, s270_144, s270_145, s270_148, s270_152, s270_153, s270_156, s270_157, s270_160, s270_161, nI_le2, nI_lt2, nI_eq2, nI_lt0, nI_0le, nI_0lt, nI_le0, nI_eq0, nI_clamp, nI_add, bu_nI, bb_0, bb_1, rf_s, rf_n, tl_s, tl_n, am_th_some, if_true, if_false, sI_eq, uI_eq, and_self, true_and, and_true, not_false_eq_true, not_true_eq_false, Nat.reduceEqDiff, Nat.reduceLeDiff, Nat.reduceLT, Nat.reduceAdd, Nat.reduceMul, Nat.reduceSub, Nat.zero_add, h1, w1, so]
      · intro J ⟨g1, g2⟩
        refine ⟨J, ?_, g1⟩
        rw [← ho_s, s270_66]
        simp (disch := first | omega | assumption) only [s270_0, s270_1, s270_4, s270_7, s270_8, s270_9, s270_12, s270_13, s270_14, s270_15, s270_17, s270_20, s270_23, s270_24, s270_27, s270_28, s270_29, s270_32, s270_33, s270_34, s270_35, s270_38, s270_41, s270_42, s270_43, s270_44, s270_45, s270_46, s270_50, s270_51, s270_54, s270_55, s270_56, s270_59, s270_60, s270_63, s270_64, s270_68, s270_70, s270_73, s270_74, s270_76, s270_79, s270_80, s270_81, s270_84, s270_87, s270_88, s270_89, s270_92, s270_94, s270_96, s270_97, s270_99, s270_100, s270_103, s270_104, s270_105, s270_108, s270_111, s270_114, s270_117, s270_120, s270_121, s270_125, s270_128, s270_131, s270_132, s270_135, s270_137, s270_138, s270_141, s270_143, s270_144, s270_145, s270_148, s270_152, s270_153, s270_156, s270_157, s270_160, s270_161, nI_le2, nI_lt2, nI_eq2, nI_lt0, nI_0le, nI_0lt, nI_le0, nI_eq0, nI_clamp, nI_add, bu_nI, bb_0, bb_1, rf_s, rf_n, tl_s, tl_n, am_th_some, if_true, if_false, sI_eq, uI_eq, and_self, true_and, and_true, not_false_eq_true, not_true_eq_false, Nat.reduceEqDiff, Nat.reduceLeDiff, Nat.reduceLT, Nat.reduceAdd, Nat.reduceMul, Nat.reduceSub, Nat.zero_add]
    have loop : ∀ (J : am_I) (l5 : Value), Inv J → Post (am_ev (d + 9) 270 48 [.ref (am_mk 12 0), .int i, .int (nI 0), .int (-nI 1), .int (nI 1), l5] [] J R Q) := by
      intro J l5 hJ
      have e0 : sp_lk [] i = -nI 1 := by
        rw [sp_lk]
        by_cases e : i < 0
        · rw [if_pos e]
        · rw [if_neg e]; rfl
      have key := loop_inv (f := fun (a : am_I × Value) c => am_ev (d + 9) 270 48 [.ref (am_mk 12 0), .int i, .int (nI (sp_ho T k N P c).length), .int (sp_lk (sp_ho T k N P c) i), .int (nI (c + 1)), a.2] [] a.1 R Q) (Inv := fun c a => Inv a.1) (Post := Post) (n := q) ?_ ?_ (Nat.zero_le _) (a := (J, l5)) hJ
      · rw [show sp_ho T k N P 0 = [] from rfl, e0] at key
        exact key
      · intro c ⟨J, l5⟩ hc f1
        obtain ⟨J', g1, g2⟩ := inner c J hc f1 l5
        exact Or.inl ⟨(J', _), g1, g2⟩
      · intro ⟨J, l5⟩ f1
        have f1 : Inv J := f1
        have hq' : J 56 0 2 = nI q := (f1.1 _ _ _ (fun w => by unfold mv_S at w; omega)).trans hq
        have h0 : q < q + 1 := by omega
        obtain ⟨K, b1, b2⟩ := back J (.int (nI (sp_ho T k N P q).length)) (.int (sp_lk (sp_ho T k N P q) i)) l5 f1
        refine ⟨K, ?_, b2⟩
        rw [s270_48]
        simp (disch := first | omega | assumption) only [s270_0, s270_1, s270_4, s270_7, s270_8, s270_9, s270_12, s270_13, s270_14, s270_15, s270_17, s270_20, s270_23, s270_24, s270_27, s270_28, s270_29, s270_32, s270_33, s270_34, s270_35, s270_38, s270_41, s270_42, s270_43, s270_44, s270_45, s270_46, s270_50, s270_51, s270_54, s270_55, s270_56, s270_59, s270_60, s270_63, s270_64, s270_68, s270_70, s270_73, s270_74, s270_76, s270_79, s270_80, s270_81, s270_84, s270_87, s270_88, s270_89, s270_92, s270_94, s270_96, s270_97, s270_99, s270_100, s270_103, s270_104, s270_105, s270_108, s270_111, s270_114, s270_117, s270_120, s270_121, s270_125, s270_128, s270_131, s270_132, s270_135, s270_137, s270_138, s270_141, s270_143, s270_144, s270_145, s270_148, s270_152, s270_153, s270_156, s270_157, s270_160, s270_161, nI_le2, nI_lt2, nI_eq2, nI_lt0, nI_0le, nI_0lt, nI_le0, nI_eq0, nI_clamp, nI_add, bu_nI, bb_0, bb_1, rf_s, rf_n, tl_s, tl_n, am_th_some, if_true, if_false, sI_eq, uI_eq, and_self, true_and, and_true, not_false_eq_true, not_true_eq_false, Nat.reduceEqDiff, Nat.reduceLeDiff, Nat.reduceLT, Nat.reduceAdd, Nat.reduceMul, Nat.reduceSub, Nat.zero_add, mr24 hr, hq', h0]
        rw [b1, weak_lk]
        by_cases e : i = -nI 1
        · rw [if_pos e]
          simp (disch := first | omega | assumption) only [s270_0, s270_1, s270_4, s270_7, s270_8, s270_9, s270_12, s270_13, s270_14, s270_15, s270_17, s270_20, s270_23, s270_24, s270_27, s270_28, s270_29, s270_32, s270_33, s270_34, s270_35, s270_38, s270_41, s270_42, s270_43, s270_44, s270_45, s270_46, s270_50, s270_51, s270_54, s270_55, s270_56, s270_59, s270_60, s270_63, s270_64, s270_68, s270_70, s270_73, s270_74, s270_76, s270_79, s270_80, s270_81, s270_84, s270_87, s270_88, s270_89, s270_92, s270_94, s270_96, s270_97, s270_99, s270_100, s270_103, s270_104, s270_105, s270_108, s270_111, s270_114, s270_117, s270_120, s270_121, s270_125, s270_128, s270_131, s270_132, s270_135, s270_137, s270_138, s270_141, s270_143, s270_144, s270_145, s270_148, s270_151, s270_152, s270_153, s270_156, s270_157, s270_160, s270_161, nI_le2, nI_lt2, nI_eq2, nI_lt0, nI_0le, nI_0lt, nI_le0, nI_eq0, nI_clamp, nI_add, bu_nI, bb_0, bb_1, rf_s, rf_n, tl_s, tl_n, am_th_some, if_true, if_false, sI_eq, uI_eq, and_self, true_and, and_true, not_false_eq_true, not_true_eq_false, Nat.reduceEqDiff, Nat.reduceLeDiff, Nat.reduceLT, Nat.reduceAdd, Nat.reduceMul, Nat.reduceSub, Nat.zero_add, e]
        · rw [if_neg e]
          simp (disch := first | omega | assumption) only [s270_0, s270_1, s270_4, s270_7, s270_8, s270_9, s270_12, s270_13, s270_14, s270_15, s270_17, s270_20, s270_23, s270_24, s270_27, s270_28, s270_29, s270_32, s270_33, s270_34, s270_35, s270_38, s270_41, s270_42, s270_43, s270_44, s270_45, s270_46, s270_50, s270_51, s270_54, s270_55, s270_56, s270_59, s270_60, s270_63, s270_64, s270_68, s270_70, s270_73, s270_74, s270_76, s270_79, s270_80, s270_81, s270_84, s270_87, s270_88, s270_89, s270_92, s270_94, s270_96, s270_97, s270_99, s270_100, s270_103, s270_104, s270_105, s270_108, s270_111, s270_114, s270_117, s270_120, s270_121, s270_125, s270_128, s270_131, s270_132, s270_135, s270_137, s270_138, s270_141, s270_143, s270_144, s270_145, s270_148, s270_151, s270_152, s270_153, s270_156, s270_157, s270_160, s270_161, nI_le2, nI_lt2, nI_eq2, nI_lt0, nI_0le, nI_0lt, nI_le0, nI_eq0, nI_clamp, nI_add, bu_nI, bb_0, bb_1, rf_s, rf_n, tl_s, tl_n, am_th_some, if_true, if_false, sI_eq, uI_eq, and_self, true_and, and_true, not_false_eq_true, not_true_eq_false, Nat.reduceEqDiff, Nat.reduceLeDiff, Nat.reduceLT, Nat.reduceAdd, Nat.reduceMul, Nat.reduceSub, Nat.zero_add, e]
    have first : ∀ l3 l4 l5 : Value, Post (am_ev (d + 9) 270 16 [.ref (am_mk 12 0), .int i, .int (nI 0), l3, l4, l5] [] I R Q) := by
      intro l3 l4 l5
      refine loop_inv (f := fun J c => am_ev (d + 9) 270 16 [.ref (am_mk 12 0), .int i, .int (nI c), l3, l4, l5] [] J R Q) (Inv := fun c J => am_fr (fun a b _ => a = 70) I J ∧ ∀ j, j < c → J 70 0 j = I 60 0 j) (Post := Post) (n := 283) ?_ ?_ (Nat.zero_le _) ⟨fr_rf, fun j hj => absurd hj (Nat.not_lt_zero _)⟩
      · intro c J hcc ⟨g1, g2⟩
        left
        have h1 : ¬ 283 ≤ c := by omega
        refine ⟨am_sI J 70 0 (am_uI (J 70 0) c (I 60 0 c)), ?_, fr_s g1 rfl, fun j hj => ?_⟩
        · have e := g1 60 0 c (by omega)
          rw [s270_16]
          simp (disch := first | omega | assumption) only [s270_0, s270_1, s270_4, s270_7, s270_8, s270_9, s270_12, s270_13, s270_14, s270_15, s270_17, s270_20, s270_23, s270_24, s270_27, s270_28, s270_29, s270_32, s270_33, s270_34, s270_35, s270_38, s270_41, s270_42, s270_43, s270_44, s270_45, s270_46, s270_50, s270_51, s270_54, s270_55, s270_56, s270_59, s270_60, s270_63, s270_64, s270_68, s270_70, s270_73, s270_74, s270_76, s270_79, s270_80, s270_81, s270_84, s270_87, s270_88, s270_89, s270_92, s270_94, s270_96, s270_97, s270_99, s270_100, s270_103, s270_104, s270_105, s270_108, s270_111, s270_114, s270_117, s270_120, s270_121, s270_125, s270_128, s270_131, s270_132, s270_135, s270_137, s270_138, s270_141, s270_143, s270_144, s270_145, s270_148, s270_152, s270_153, s270_156, s270_157, s270_160, s270_161, nI_le2, nI_lt2, nI_eq2, nI_lt0, nI_0le, nI_0lt, nI_le0, nI_eq0, nI_clamp, nI_add, bu_nI, bb_0, bb_1, rf_s, rf_n, tl_s, tl_n, am_th_some, if_true, if_false, sI_eq, uI_eq, and_self, true_and, and_true, not_false_eq_true, not_true_eq_false, Nat.reduceEqDiff, Nat.reduceLeDiff, Nat.reduceLT, Nat.reduceAdd, Nat.reduceMul, Nat.reduceSub, Nat.zero_add, mr31 hr, mr50 hr, h1, e]
        · rw [sI_eq]
          by_cases e : j = c
          · rw [e, uI_eq]
          · rw [uI_ne e, g2 j (by omega)]
      · intro J ⟨g1, g2⟩
        rw [s270_16]
        simp (disch := first | omega | assumption) only [s270_0, s270_1, s270_4, s270_7, s270_8, s270_9, s270_12, s270_13, s270_14, s270_15, s270_17, s270_20, s270_23, s270_24, s270_27, s270_28, s270_29, s270_32, s270_33, s270_34, s270_35, s270_38, s270_41, s270_42, s270_43, s270_44, s270_45, s270_46, s270_50, s270_51, s270_54, s270_55, s270_56, s270_59, s270_60, s270_63, s270_64, s270_68, s270_70, s270_73, s270_74, s270_76, s270_79, s270_80, s270_81, s270_84, s270_87, s270_88, s270_89, s270_92, s270_94, s270_96, s270_97, s270_99, s270_100, s270_103, s270_104, s270_105, s270_108, s270_111, s270_114, s270_117, s270_120, s270_121, s270_125, s270_128, s270_131, s270_132, s270_135, s270_137, s270_138, s270_141, s270_143, s270_144, s270_145, s270_148, s270_152, s270_153, s270_156, s270_157, s270_160, s270_161, nI_le2, nI_lt2, nI_eq2, nI_lt0, nI_0le, nI_0lt, nI_le0, nI_eq0, nI_clamp, nI_add, bu_nI, bb_0, bb_1, rf_s, rf_n, tl_s, tl_n, am_th_some, if_true, if_false, sI_eq, uI_eq, and_self, true_and, and_true, not_false_eq_true, not_true_eq_false, Nat.reduceEqDiff, Nat.reduceLeDiff, Nat.reduceLT, Nat.reduceAdd, Nat.reduceMul, Nat.reduceSub, Nat.zero_add]
        exact loop J _ ⟨fr_mo g1 (fun a b j w => by unfold mv_S; omega), g2⟩
    obtain ⟨J, g1, g2⟩ := first am_J am_J am_J
    refine ⟨J, ?_, g2⟩
    rw [s270]
    simp (disch := first | omega | assumption) only [s270_0, s270_1, s270_4, s270_7, s270_8, s270_9, s270_12, s270_13, s270_14, s270_15, s270_17, s270_20, s270_23, s270_24, s270_27, s270_28, s270_29, s270_32, s270_33, s270_34, s270_35, s270_38, s270_41, s270_42, s270_43, s270_44, s270_45, s270_46, s270_48, s270_50, s270_51, s270_54, s270_55, s270_56, s270_59, s270_60, s270_63, s270_64, s270_66, s270_68, s270_70, s270_73, s270_74, s270_76, s270_79, s270_80, s270_81, s270_84, s270_87, s270_88, s270_89, s270_92, s270_94, s270_96, s270_97, s270_99, s270_100, s270_103, s270_104, s270_105, s270_108, s270_111, s270_114, s270_117, s270_120, s270_121, s270_123, s270_125, s270_128, s270_131, s270_132, s270_135, s270_137, s270_138, s270_141, s270_143, s270_144, s270_145, s270_148, s270_151, s270_152, s270_153, s270_156, s270_157, s270_160, s270_161, nI_le2, nI_lt2, nI_eq2, nI_lt0, nI_0le, nI_0lt, nI_le0, nI_eq0, nI_clamp, nI_add, bu_nI, bb_0, bb_1, rf_s, rf_n, tl_s, tl_n, am_th_some, if_true, if_false, sI_eq, uI_eq, and_self, true_and, and_true, not_false_eq_true, not_true_eq_false, Nat.reduceEqDiff, Nat.reduceLeDiff, Nat.reduceLT, Nat.reduceAdd, Nat.reduceMul, Nat.reduceSub, Nat.zero_add, m_isLunch (d := d + 8), hl, h1]
    exact g1
end
