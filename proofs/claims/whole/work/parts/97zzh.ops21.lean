/-! LAW. -/
section
variable {s : zSt} {x y : Int32}
theorem in_law {D : Nat} (hD : D < 2 ^ 31) (h0 : ¬ x = -nI 1) : (-nI 1 ≤ x ∧ x ≤ nI D - nI 1) ↔ (0 ≤ x ∧ x < nI D) := by
  rw [← in_pred hD]
  constructor
  · intro ⟨h1, h2⟩
    refine ⟨?_, h2⟩
    have h1 := Int32.le_iff_toInt_le.mp h1
    have e : (-nI 1 : Int32).toInt = -1 := by decide
    have e0 : (nI 0 : Int32).toInt = 0 := by decide
    rw [Int32.le_iff_toInt_le, e0]
    rw [e] at h1
    have : ¬ x.toInt = -1 := fun w => h0 (Int32.toInt_inj.mp (w.trans e.symm))
    omega
  · intro ⟨h1, h2⟩
    exact ⟨Int32.le_trans (by decide) h1, h2⟩
theorem op_law (hok : rel_ok s) : op1 112 213 [.int x] s := by
  obtain ⟨tp, ⟨c, Ks, p⟩, st, rf, o⟩ := s
  have hc4 : c ≤ 4 := hok.2.1.1
  by_cases e0 : x = -nI 1
  · subst e0
    refine ⟨nI 1, (tp, (c, Ks, none), st, rf, o), fun d u I R Q h => ?_, fun d I R Q hr h => ?_, ⟨hok.1, ⟨hok.2.1.1, hok.2.1.2.1, fun l hl => by cases hl⟩, hok.2.2⟩⟩
    · obtain ⟨X, x0, x1, x2⟩ := wr I 11 0 5 (-nI 1)
      have r8 := h.1.1.1.1
      refine ⟨X, am_sR R 2 0 (am_uR (R 2 0) 1 none), u, ?_, fr_mo x2 fun a b j w => by unfold clS; omega, law_c h hok rfl rfl x1 x2, fun a b j ha => ?_⟩
      · rw [s112]
        simp (disch := first | omega | assumption) only [s112_0, s112_1, s112_2, s112_5, s112_6, s112_9, s112_10, s112_11, s112_14, s112_17, s112_18, s112_19, s112_22, s112_23, s112_26, s112_27, s112_28, s112_29, s112_30, s112_33, s112_34, s112_37, s112_38, s112_39, s112_42, s112_43, s112_46, s112_47, s112_50, s112_51, s112_52, s112_52n, s112_55, s112_56, nI_le2, nI_lt2, nI_eq2, nI_lt0, nI_0le, nI_0lt, nI_le0, nI_eq0, nI_clamp, nI_add, bu_nI, bb_0, bb_1, rf_s, rf_n, tl_s, tl_n, am_th_some, if_true, if_false, sI_eq, uI_eq, and_self, true_and, and_true, not_false_eq_true, not_true_eq_false, Nat.reduceEqDiff, Nat.reduceLeDiff, Nat.reduceLT, Nat.reduceAdd, Nat.reduceMul, Nat.reduceSub, Nat.zero_add, r8, x0]
      · unfold am_sR
        rw [if_neg (fun w => ha (Or.inl w.1))]
    · obtain ⟨X, x0, x1, x2⟩ := wr I 12 0 33 (-nI 1)
      have hl : I 12 0 13 = nI c := h.1.2.1.1
      have p0 := m_inX (d := d + 89) (x := -nI 1) (lo := -nI 1) (hi := nI c - nI 1) (I := I) (R := R) (Q := Q)
      rw [if_pos ⟨Int32.le_refl _, by rcases (show c = 0 ∨ c = 1 ∨ c = 2 ∨ c = 3 ∨ c = 4 by omega) with rfl | rfl | rfl | rfl | rfl <;> decide⟩] at p0
      refine ⟨X, Q, ?_, fr_mo x2 fun a b j w => by unfold mdS; omega, law_m h rfl x1 x2, fun _ _ _ _ => rfl⟩
      rw [s213]
      simp (disch := first | omega | assumption) only [s213_0, s213_1, s213_2, s213_3, s213_6, s213_7, s213_8, s213_11, s213_14, s213_15, s213_16, s213_17, s213_18, s213_21, s213_22, nI_le2, nI_lt2, nI_eq2, nI_lt0, nI_0le, nI_0lt, nI_le0, nI_eq0, nI_clamp, nI_add, bu_nI, bb_0, bb_1, rf_s, rf_n, tl_s, tl_n, am_th_some, if_true, if_false, sI_eq, uI_eq, and_self, true_and, and_true, not_false_eq_true, not_true_eq_false, Nat.reduceEqDiff, Nat.reduceLeDiff, Nat.reduceLT, Nat.reduceAdd, Nat.reduceMul, Nat.reduceSub, Nat.zero_add, p0, hl, x0]
  · by_cases e1 : 0 ≤ x ∧ x < nI c
    · obtain ⟨i, hi, rfl⟩ := am_in e1.1 e1.2 (by omega)
      refine ⟨nI 1, (tp, (c, Ks, some i), st, rf, o), fun d u I R Q h => ?_, fun d I R Q hr h => ?_, ⟨hok.1, ⟨hok.2.1.1, hok.2.1.2.1, fun l hl => by cases hl; exact hi⟩, hok.2.2⟩⟩
      · obtain ⟨X, x0, x1, x2⟩ := wr I 11 0 5 (nI i)
        have r8 := h.1.1.1.1
        have r3 := (rF_11 h.1.1).2.2.2.2.1
        have r29 := rF_29 h.1.1 i (by omega)
        have hl : I 11 0 4 = nI c := h.2.1.2.2.2.1.1
        have i4 : i < 4 := by omega
        have ic : ¬ c ≤ i := by omega
        have i4' : ¬ 4 ≤ i := by omega
        refine ⟨X, am_sR R 2 0 (am_uR (R 2 0) 1 (some (am_mk 3 (i + 1)))), u, ?_, fr_mo x2 fun a b j w => by unfold clS; omega, law_c h hok rfl rfl x1 x2, fun a b j ha => ?_⟩
        · rw [s112]
          simp (disch := first | omega | assumption) only [s112_0, s112_1, s112_2, s112_5, s112_6, s112_9, s112_10, s112_11, s112_14, s112_17, s112_18, s112_19, s112_22, s112_23, s112_26, s112_27, s112_28, s112_29, s112_30, s112_33, s112_34, s112_37, s112_38, s112_39, s112_42, s112_43, s112_46, s112_47, s112_50, s112_51, s112_52, s112_52n, s112_55, s112_56, nI_le2, nI_lt2, nI_eq2, nI_lt0, nI_0le, nI_0lt, nI_le0, nI_eq0, nI_clamp, nI_add, bu_nI, bb_0, bb_1, rf_s, rf_n, tl_s, tl_n, am_th_some, if_true, if_false, sI_eq, uI_eq, and_self, true_and, and_true, not_false_eq_true, not_true_eq_false, Nat.reduceEqDiff, Nat.reduceLeDiff, Nat.reduceLT, Nat.reduceAdd, Nat.reduceMul, Nat.reduceSub, Nat.zero_add, r8, r3, r29, hl, hi, ic, i4, i4', e0, x0]
        · unfold am_sR
          rw [if_neg (fun w => ha (Or.inl w.1))]
      · obtain ⟨X, x0, x1, x2⟩ := wr I 12 0 33 (nI i)
        have hl : I 12 0 13 = nI c := h.1.2.1.1
        have p0 := m_inX (d := d + 89) (x := nI i) (lo := -nI 1) (hi := nI c - nI 1) (I := I) (R := R) (Q := Q)
        rw [if_pos ((in_law (by omega) e0).mpr e1)] at p0
        refine ⟨X, Q, ?_, fr_mo x2 fun a b j w => by unfold mdS; omega, law_m h rfl x1 x2, fun _ _ _ _ => rfl⟩
        rw [s213]
        simp (disch := first | omega | assumption) only [s213_0, s213_1, s213_2, s213_3, s213_6, s213_7, s213_8, s213_11, s213_14, s213_15, s213_16, s213_17, s213_18, s213_21, s213_22, nI_le2, nI_lt2, nI_eq2, nI_lt0, nI_0le, nI_0lt, nI_le0, nI_eq0, nI_clamp, nI_add, bu_nI, bb_0, bb_1, rf_s, rf_n, tl_s, tl_n, am_th_some, if_true, if_false, sI_eq, uI_eq, and_self, true_and, and_true, not_false_eq_true, not_true_eq_false, Nat.reduceEqDiff, Nat.reduceLeDiff, Nat.reduceLT, Nat.reduceAdd, Nat.reduceMul, Nat.reduceSub, Nat.zero_add, p0, hl, x0]
    · refine op_k (v := nI 0) hok (fun d u I R Q h => ?_) (fun d I R Q hr h => ?_)
      · have hl : I 11 0 4 = nI c := h.2.1.2.2.2.1.1
        rw [s112]
        by_cases h0 : x < 0
        · simp (disch := first | omega | assumption) only [s112_0, s112_1, s112_2, s112_5, s112_6, s112_9, s112_10, s112_11, s112_14, s112_17, s112_18, s112_19, s112_22, s112_23, s112_26, s112_27, s112_28, s112_29, s112_30, s112_33, s112_34, s112_37, s112_38, s112_39, s112_42, s112_43, s112_46, s112_47, s112_50, s112_51, s112_52, s112_52n, s112_55, s112_56, nI_le2, nI_lt2, nI_eq2, nI_lt0, nI_0le, nI_0lt, nI_le0, nI_eq0, nI_clamp, nI_add, bu_nI, bb_0, bb_1, rf_s, rf_n, tl_s, tl_n, am_th_some, if_true, if_false, sI_eq, uI_eq, and_self, true_and, and_true, not_false_eq_true, not_true_eq_false, Nat.reduceEqDiff, Nat.reduceLeDiff, Nat.reduceLT, Nat.reduceAdd, Nat.reduceMul, Nat.reduceSub, Nat.zero_add, hl, e0, h0]
        · obtain ⟨j, hj, rfl⟩ := nI_of h0
          have hjc : ¬ j < c := fun w => e1 ⟨nI_pos' hj, by rw [nI_lt2 hj (by omega)]; exact w⟩
          have hjc2 : c ≤ j := by omega
          simp (disch := first | omega | assumption) only [s112_0, s112_1, s112_2, s112_5, s112_6, s112_9, s112_10, s112_11, s112_14, s112_17, s112_18, s112_19, s112_22, s112_23, s112_26, s112_27, s112_28, s112_29, s112_30, s112_33, s112_34, s112_37, s112_38, s112_39, s112_42, s112_43, s112_46, s112_47, s112_50, s112_51, s112_52, s112_52n, s112_55, s112_56, nI_le2, nI_lt2, nI_eq2, nI_lt0, nI_0le, nI_0lt, nI_le0, nI_eq0, nI_clamp, nI_add, bu_nI, bb_0, bb_1, rf_s, rf_n, tl_s, tl_n, am_th_some, if_true, if_false, sI_eq, uI_eq, and_self, true_and, and_true, not_false_eq_true, not_true_eq_false, Nat.reduceEqDiff, Nat.reduceLeDiff, Nat.reduceLT, Nat.reduceAdd, Nat.reduceMul, Nat.reduceSub, Nat.zero_add, hl, e0, hjc, hjc2]
      · have hl : I 12 0 13 = nI c := h.1.2.1.1
        have p0 := m_inX (d := d + 89) (x := x) (lo := -nI 1) (hi := nI c - nI 1) (I := I) (R := R) (Q := Q)
        rw [if_neg (fun w => e1 ((in_law (by omega) e0).mp w))] at p0
        rw [s213]
        simp (disch := first | omega | assumption) only [s213_0, s213_1, s213_2, s213_3, s213_6, s213_7, s213_8, s213_11, s213_14, s213_15, s213_16, s213_17, s213_18, s213_21, s213_22, nI_le2, nI_lt2, nI_eq2, nI_lt0, nI_0le, nI_0lt, nI_le0, nI_eq0, nI_clamp, nI_add, bu_nI, bb_0, bb_1, rf_s, rf_n, tl_s, tl_n, am_th_some, if_true, if_false, sI_eq, uI_eq, and_self, true_and, and_true, not_false_eq_true, not_true_eq_false, Nat.reduceEqDiff, Nat.reduceLeDiff, Nat.reduceLT, Nat.reduceAdd, Nat.reduceMul, Nat.reduceSub, Nat.zero_add, p0, hl]
end
