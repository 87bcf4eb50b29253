/-! The model: heat. -/
section
variable {d n w h : Nat} {I : am_I} {R : am_R} {Q : am_Q} {P : Nat → Nat → Int32} {V : (Nat → Int32) → Int32} {pw : Int32} {G : (Nat → Int32) → Prop}
theorem m_heat (hr : mm_R R) (ho : mo_at I w h n) (hP : mm_at I P) (hn : P 4 0 = nI n) (hn2 : n ≤ 25) (hok : pt_ok P) (hz : pt_z n P) (hV : mk_V G R Q (d + 3) I V) (hVc : ∀ f g : Nat → Int32, (∀ j, j < 6 → f j = g j) → V f = V g) (hG : ∀ k, k < n → ¬ P 0 k ≤ 0 → ∀ f : Nat → Int32, (∀ j, j < 6 → f j = sp_let (sp_B w h) (I 58 0) n pw P k j) → G f) : ∃ J, am_cal (d + 6) 217 [.ref (am_mk 12 0), .int pw] I R Q = some (some (.int (sp_ten V (sp_B w h) (I 58 0) (I 56 0 3) (I 56 0 4) n pw P).2), J, R, Q) ∧ am_fr mk_S I J ∧ mm_at J (sp_ten V (sp_B w h) (I 58 0) (I 56 0 3) (I 56 0 4) n pw P).1 := by
  have e56 : ∀ {J : am_I} (j : Nat), am_fr mk_S I J → J 56 0 j = I 56 0 j := fun j hf => hf _ _ _ (fun q => by unfold mk_S at q; omega)
  obtain ⟨J1, a1, a2, a3⟩ := m_warm (d := d) hr ho hP hn hn2 hok hz hV hVc hG
  have n1 : (if pw ≤ 0 then P else sp_warm V (sp_B w h) (I 58 0) n pw P) 4 0 = nI n := by
    by_cases e : pw ≤ 0
    · rw [if_pos e, hn]
    · rw [if_neg e, sp_warm, if_pos rfl, hn]
  have t1 : (if pw ≤ 0 then P else sp_warm V (sp_B w h) (I 58 0) n pw P) 4 1 = P 4 1 := by
    by_cases e : pw ≤ 0
    · rw [if_pos e]
    · rw [if_neg e, sp_warm, if_pos rfl]
  obtain ⟨J2, b1, b2, b3⟩ := m_spread (d := d + 2) (Q := Q) hr (mo_fr ho a2 (fun j q => by unfold mk_S at q; omega)) a3 n1 hn2
  rw [e56 3 a2] at b3
  have f2 := fr_tr a2 b2
  generalize hP1 : (if pw ≤ 0 then P else sp_warm V (sp_B w h) (I 58 0) n pw P) = P1 at a3 n1 t1 b3
  generalize hP2 : (fun a j => if a = 4 then P1 a j else sp_spread (sp_B w h) (I 56 0 3) n P1 a j) = P2 at b3
  have n2 : P2 4 0 = nI n := by rw [← hP2]; exact (if_pos rfl).trans n1
  have t2 : P2 4 1 = P 4 1 := by rw [← hP2]; exact (if_pos rfl).trans t1
  have b4 : am_bu (nI 4) 6 = True := bu_nI (by decide)
  have e4 : J2 56 0 4 = I 56 0 4 := e56 4 f2
  have loop : ∃ K, am_ev (d + 6) 217 13 [.ref (am_mk 12 0), .int pw, .int (nI 0), .int (nI 0)] [] J2 R Q = some (some (.int (sp_bursts (I 56 0 4) n P2)), K, R, Q) ∧ am_fr mk_S I K ∧ mm_at K (sp_up (sp_burst (I 56 0 4) n P2) 4 1 (P 4 1 + nI 1)) := by
    refine loop_inv (f := fun (a : am_I × Int32) c => am_ev (d + 6) 217 13 [.ref (am_mk 12 0), .int pw, .int a.2, .int (nI c)] [] a.1 R Q) (Inv := fun c a => a.2 = am_fold (fun a c => if sp_bt (I 56 0 4) P2 c then a + nI 1 else a) (nI 0) c ∧ am_fr mk_S I a.1 ∧ mm_at a.1 (fun a j => if j < c ∧ a < 4 then sp_burst (I 56 0 4) n P2 a j else P2 a j)) (Post := fun y => ∃ K, y = some (some (.int (sp_bursts (I 56 0 4) n P2)), K, R, Q) ∧ am_fr mk_S I K ∧ mm_at K (sp_up (sp_burst (I 56 0 4) n P2) 4 1 (P 4 1 + nI 1))) (n := n) ?_ ?_ (Nat.zero_le _) (a := (J2, nI 0)) ⟨rfl, f2, mm_congr b3 (fun a j _ => by rw [if_neg (fun q => absurd q.1 (Nat.not_lt_zero _))])⟩
    · intro c ⟨K, x⟩ hc ⟨f0, f1, f3⟩
      left
      have f0 : x = am_fold (fun a c => if sp_bt (I 56 0 4) P2 c then a + nI 1 else a) (nI 0) c := f0
      have f1 : am_fr mk_S I K := f1
      have h1 : ¬ n ≤ c := by omega
      have nc : (fun a j => if j < c ∧ a < 4 then sp_burst (I 56 0 4) n P2 a j else P2 a j) 4 0 = nI n := (if_neg (fun q => absurd q.2 (by decide))).trans n2
      have hc4 : K 12 0 30 = nI n := f3.2.1.trans nc
      have h14 : K 56 0 4 = I 56 0 4 := e56 4 f1
      have hf := m_isFood (d := d + 3) (Q := Q) (x := nI c) hr f3 nc hn2
      have hfo : pp_f (fun a j => if j < c ∧ a < 4 then sp_burst (I 56 0 4) n P2 a j else P2 a j) (nI c) ↔ c < n ∧ ¬ P2 0 c ≤ 0 := by
        rw [pp_f_k nc hn2 (by omega)]
        simp only [Nat.lt_irrefl, false_and, if_false]
      obtain ⟨a0, a1, a2, a3⟩ := f3.1 c (by omega)
      simp only [Nat.lt_irrefl, false_and, if_false] at a0 a1 a2 a3
      have same : ¬ sp_bt (I 56 0 4) P2 c → mm_at K (fun a j => if j < c + 1 ∧ a < 4 then sp_burst (I 56 0 4) n P2 a j else P2 a j) := fun hb => mm_congr f3 fun a j hj => by
        by_cases e4 : a < 4
        · by_cases e1 : j = c
          · subst e1
            rw [if_neg (fun q => absurd q.1 (Nat.lt_irrefl _)), if_pos ⟨Nat.lt_succ_self _, e4⟩, sp_burst, if_neg (by omega), if_neg (fun q => hb q.2)]
          · by_cases e2 : j < c
            · rw [if_pos ⟨e2, e4⟩, if_pos ⟨by omega, e4⟩]
            · rw [if_neg (fun q => e2 q.1), if_neg (fun q => absurd q.1 (by omega))]
        · rw [if_neg (fun q => e4 q.2), if_neg (fun q => e4 q.2)]
      by_cases b0 : P2 0 c ≤ 0
      · rw [if_neg (fun q => (hfo.mp q).2 b0)] at hf
        refine ⟨(K, x), ?_, ?_, f1, same (fun q => q.1 b0)⟩
        · rw [s217_13]
          simp (disch := first | omega | assumption) only [s217_0, s217_1, s217_2, s217_5, s217_6, s217_9, s217_10, s217_11, s217_12, s217_14, s217_15, s217_18, s217_21, s217_22, s217_23, s217_26, s217_29, s217_30, s217_33, s217_35, s217_36, s217_37, s217_38, s217_39, s217_42, s217_43, s217_44, s217_47, s217_48, s217_51, s217_53, s217_54, s217_55, s217_56, s217_59, s217_60, s217_61, s217_63, s217_64, s217_65, s217_66, s217_69, s217_71, s217_72, s217_73, s217_74, s217_75, s217_78, s217_81, s217_84, s217_85, s217_88, s217_90, s217_91, s217_92, s217_93, s217_94, s217_95, s217_96, nI_le2, nI_lt2, nI_eq2, nI_lt0, nI_0le, nI_0lt, nI_le0, nI_eq0, nI_clamp, nI_add, bu_nI, bb_0, bb_1, rf_s, rf_n, tl_s, tl_n, am_th_some, if_true, if_false, sI_eq, uI_eq, and_self, true_and, and_true, not_false_eq_true, not_true_eq_false, Nat.reduceEqDiff, Nat.reduceLeDiff, Nat.reduceLT, Nat.reduceAdd, Nat.reduceMul, Nat.reduceSub, Nat.zero_add, hc4, h1, hf]
        · rw [fold_s, if_neg (fun q => q.1 b0), ← f0]
      · rw [if_pos (hfo.mpr ⟨hc, b0⟩)] at hf
        by_cases b1 : P2 2 c < I 56 0 4
        · refine ⟨(K, x), ?_, ?_, f1, same (fun q => q.2 b1)⟩
          · rw [s217_13]
            simp (disch := first | omega | assumption) only [s217_0, s217_1, s217_2, s217_5, s217_6, s217_9, s217_10, s217_11, s217_12, s217_14, s217_15, s217_18, s217_21, s217_22, s217_23, s217_26, s217_29, s217_30, s217_33, s217_35, s217_36, s217_37, s217_38, s217_39, s217_42, s217_43, s217_44, s217_47, s217_48, s217_51, s217_53, s217_54, s217_55, s217_56, s217_59, s217_60, s217_61, s217_63, s217_64, s217_65, s217_66, s217_69, s217_71, s217_72, s217_73, s217_74, s217_75, s217_78, s217_81, s217_84, s217_85, s217_88, s217_90, s217_91, s217_92, s217_93, s217_94, s217_95, s217_96, nI_le2, nI_lt2, nI_eq2, nI_lt0, nI_0le, nI_0lt, nI_le0, nI_eq0, nI_clamp, nI_add, bu_nI, bb_0, bb_1, rf_s, rf_n, tl_s, tl_n, am_th_some, if_true, if_false, sI_eq, uI_eq, and_self, true_and, and_true, not_false_eq_true, not_true_eq_false, Nat.reduceEqDiff, Nat.reduceLeDiff, Nat.reduceLT, Nat.reduceAdd, Nat.reduceMul, Nat.reduceSub, Nat.zero_add, hc4, h1, hf, mr31 hr, mr24 hr, h14, b4, a2, b1]
          · rw [fold_s, if_neg (fun q => q.2 b1), ← f0]
        · have h14b : ∀ f, am_sI K 60 0 f 56 0 4 = I 56 0 4 := fun f => (congrFun (sI_na (by decide)) 4).trans h14
          have m2 := mm_u2 f3 (I 56 0 4 - nI 10) (show c < 25 by omega)
          have m3 := mm_u3 m2 (nI 1) (show c < 25 by omega)
          rw [sI_eq, sI_sI] at m3
          refine ⟨(_, x + nI 1), by rw [s217_13]; simp (disch := first | omega | assumption) only [s217_0, s217_1, s217_2, s217_5, s217_6, s217_9, s217_10, s217_11, s217_12, s217_14, s217_15, s217_18, s217_21, s217_22, s217_23, s217_26, s217_29, s217_30, s217_33, s217_35, s217_36, s217_37, s217_38, s217_39, s217_42, s217_43, s217_44, s217_47, s217_48, s217_51, s217_53, s217_54, s217_55, s217_56, s217_59, s217_60, s217_61, s217_63, s217_64, s217_65, s217_66, s217_69, s217_71, s217_72, s217_73, s217_74, s217_75, s217_78, s217_81, s217_84, s217_85, s217_88, s217_90, s217_91, s217_92, s217_93, s217_94, s217_95, s217_96, nI_le2, nI_lt2, nI_eq2, nI_lt0, nI_0le, nI_0lt, nI_le0, nI_eq0, nI_clamp, nI_add, bu_nI, bb_0, bb_1, rf_s, rf_n, tl_s, tl_n, am_th_some, if_true, if_false, sI_eq, uI_eq, and_self, true_and, and_true, not_false_eq_true, not_true_eq_false, Nat.reduceEqDiff, Nat.reduceLeDiff, Nat.reduceLT, Nat.reduceAdd, Nat.reduceMul, Nat.reduceSub, Nat.zero_add, hc4, h1, hf, mr31 hr, mr24 hr, h14, h14b, b4, a2, b1, sI_sI] <;> rfl, ?_, ?_, ?_⟩
          · rw [fold_s, if_pos ⟨b0, b1⟩, ← f0]
          · have := fr_s (fr_s f1 (a := 60) (b := 0) (k := 50 + c) (x := I 56 0 4 - nI 10) (Or.inl ⟨rfl, by omega⟩)) (a := 60) (b := 0) (k := 75 + c) (x := nI 1) (Or.inl ⟨rfl, by omega⟩)
            rw [sI_eq, sI_sI] at this
            exact this
          · refine mm_congr m3 fun a j hj => ?_
            by_cases e4 : a < 4
            · by_cases e1 : j = c
              · subst e1
                rw [if_pos ⟨Nat.lt_succ_self _, e4⟩, sp_burst, if_neg (show ¬ a = 4 by omega), if_pos (show j < n ∧ sp_bt (I 56 0 4) P2 j from ⟨hc, b0, b1⟩)]
                by_cases e3 : a = 3
                · subst e3; rw [up_eq, if_pos rfl]
                · rw [up_na e3, if_neg e3]
                  by_cases e2 : a = 2
                  · subst e2; rw [up_eq, if_pos rfl]
                  · rw [up_na e2, if_neg e2, if_neg (fun q => absurd q.1 (Nat.lt_irrefl _))]
              · rw [up_nc e1, up_nc e1]
                by_cases e2 : j < c
                · rw [if_pos ⟨e2, e4⟩, if_pos ⟨by omega, e4⟩]
                · rw [if_neg (fun q => e2 q.1), if_neg (fun q => absurd q.1 (by omega))]
            · rw [up_na (by omega), up_na (by omega), if_neg (fun q => e4 q.2), if_neg (fun q => e4 q.2)]
    · intro ⟨K, x⟩ ⟨f0, f1, f3⟩
      have f0 : x = am_fold (fun a c => if sp_bt (I 56 0 4) P2 c then a + nI 1 else a) (nI 0) n := f0
      have f1 : am_fr mk_S I K := f1
      have f3 : mm_at K (fun a j => if j < n ∧ a < 4 then sp_burst (I 56 0 4) n P2 a j else P2 a j) := f3
      have hc4 : K 12 0 30 = nI n := f3.2.1.trans ((if_neg (fun q => absurd q.2 (by decide))).trans n2)
      have hten : K 60 0 101 = P 4 1 := f3.2.2.1.trans ((if_neg (fun q => absurd q.2 (by decide))).trans t2)
      refine ⟨_, by rw [s217_13]; simp (disch := first | omega | assumption) only [s217_0, s217_1, s217_2, s217_5, s217_6, s217_9, s217_10, s217_11, s217_12, s217_14, s217_15, s217_18, s217_21, s217_22, s217_23, s217_26, s217_29, s217_30, s217_33, s217_35, s217_36, s217_37, s217_38, s217_39, s217_42, s217_43, s217_44, s217_47, s217_48, s217_51, s217_53, s217_54, s217_55, s217_56, s217_59, s217_60, s217_61, s217_63, s217_64, s217_65, s217_66, s217_69, s217_71, s217_72, s217_73, s217_74, s217_75, s217_78, s217_81, s217_84, s217_85, s217_88, s217_90, s217_91, s217_92, s217_93, s217_94, s217_95, s217_96, nI_le2, nI_lt2, nI_eq2, nI_lt0, nI_0le, nI_0lt, nI_le0, nI_eq0, nI_clamp, nI_add, bu_nI, bb_0, bb_1, rf_s, rf_n, tl_s, tl_n, am_th_some, if_true, if_false, sI_eq, uI_eq, and_self, true_and, and_true, not_false_eq_true, not_true_eq_false, Nat.reduceEqDiff, Nat.reduceLeDiff, Nat.reduceLT, Nat.reduceAdd, Nat.reduceMul, Nat.reduceSub, Nat.zero_add, hc4, Nat.le_refl, mr31 hr, hten]; rw [f0]; rfl, fr_s f1 (Or.inl ⟨rfl, by decide⟩), mm_congr (mm_u4 f3 _) fun a j hj => ?_⟩
      by_cases e1 : a = 4 ∧ j = 1
      · obtain ⟨rfl, rfl⟩ := e1; rw [up_eq, up_eq]
      · have e2 : ∀ (X : Nat → Nat → Int32) x, sp_up X 4 1 x a j = X a j := fun X x => if_neg e1
        rw [e2, e2]
        by_cases e3 : j < n ∧ a < 4
        · rw [if_pos e3]
        · rw [if_neg e3, sp_burst]
          by_cases e4 : a = 4
          · rw [if_pos e4]
          · rw [if_neg e4, if_neg (fun q => e3 ⟨q.1, by omega⟩)]
  obtain ⟨K, g1, g2, g3⟩ := loop
  refine ⟨K, ?_, g2, ?_⟩
  · rw [s217]
    simp (disch := first | omega | assumption) only [s217_0, s217_1, s217_2, s217_5, s217_6, s217_9, s217_10, s217_11, s217_12, s217_14, s217_15, s217_18, s217_21, s217_22, s217_23, s217_26, s217_29, s217_30, s217_33, s217_35, s217_36, s217_37, s217_38, s217_39, s217_42, s217_43, s217_44, s217_47, s217_48, s217_51, s217_53, s217_54, s217_55, s217_56, s217_59, s217_60, s217_61, s217_63, s217_64, s217_65, s217_66, s217_69, s217_71, s217_72, s217_73, s217_74, s217_75, s217_78, s217_81, s217_84, s217_85, s217_88, s217_90, s217_91, s217_92, s217_93, s217_94, s217_95, s217_96, nI_le2, nI_lt2, nI_eq2, nI_lt0, nI_0le, nI_0lt, nI_le0, nI_eq0, nI_clamp, nI_add, bu_nI, bb_0, bb_1, rf_s, rf_n, tl_s, tl_n, am_th_some, if_true, if_false, sI_eq, uI_eq, and_self, true_and, and_true, not_false_eq_true, not_true_eq_false, Nat.reduceEqDiff, Nat.reduceLeDiff, Nat.reduceLT, Nat.reduceAdd, Nat.reduceMul, Nat.reduceSub, Nat.zero_add, a1, b1]
    rw [g1]
    simp only [sp_ten, hP1, hP2]
  · simp only [sp_ten, hP1, hP2]
    exact g3
end
