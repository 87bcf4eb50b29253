/-! ACTS kept: the model. -/
section
variable {d n b m v lo t f k : Nat} {I : am_I} {R : am_R} {Q : am_Q} {P : Nat → Nat → Int32} {E : Nat → Nat → Int32}
theorem m_keepS (hr : mm_R R) {k : Nat} (hk : I 12 0 37 = nI k) (hk4 : k < 40) : ∃ J, am_ev d 224 54 [.ref (am_mk 12 0), .int (nI 0)] [] I R Q = some (none, J, R, Q) ∧ am_fr kp_S I J ∧ J 12 0 37 = nI (k + 1) ∧ (∀ i, i < 283 → J 63 0 (283 * k + i) = I 60 0 i) ∧ ∀ j, j < 283 * k → J 63 0 j = I 63 0 j := by
  have loop : ∃ J, am_ev d 224 54 [.ref (am_mk 12 0), .int (nI 0)] [] I R Q = am_ev d 224 88 [.ref (am_mk 12 0), .int (nI 283)] [] J R Q ∧ am_fr (fun a _ _ => a = 63) I J ∧ (∀ i, i < 283 → J 63 0 (283 * k + i) = I 60 0 i) ∧ ∀ j, j < 283 * k → J 63 0 j = I 63 0 j := by
    refine loop_inv (f := fun J c => am_ev d 224 54 [.ref (am_mk 12 0), .int (nI c)] [] J R Q) (Inv := fun c J => am_fr (fun a _ _ => a = 63) I J ∧ (∀ i, i < c → J 63 0 (283 * k + i) = I 60 0 i) ∧ ∀ j, j < 283 * k → J 63 0 j = I 63 0 j) (Post := fun y => ∃ J, y = am_ev d 224 88 [.ref (am_mk 12 0), .int (nI 283)] [] J R Q ∧ am_fr (fun a _ _ => a = 63) I J ∧ (∀ i, i < 283 → J 63 0 (283 * k + i) = I 60 0 i) ∧ ∀ j, j < 283 * k → J 63 0 j = I 63 0 j) (n := 283) ?_ ?_ (Nat.zero_le _) ⟨fr_rf, fun i hi => absurd hi (Nat.not_lt_zero _), fun _ _ => rfl⟩
    · intro c J hc ⟨f1, f2, f3⟩
      left
      have h1 : ¬ 283 ≤ c := by omega
      have h2 : 283 * k + c < 11320 := by omega
      have hk' := (f1 12 0 37 (by omega)).trans hk
      refine ⟨am_sI J 63 0 (am_uI (J 63 0) (283 * k + c) (I 60 0 c)), ?_, fr_s f1 rfl, fun j hj => ?_, fun j hj => ?_⟩
      · have e := f1 60 0 c (by omega)
        rw [s224_54]
        simp (disch := first | omega | assumption) only [s224_0, s224_1, s224_4, s224_6, s224_9, s224_12, s224_14, s224_17, s224_20, s224_21, s224_24, s224_25, s224_28, s224_29, s224_30, s224_33, s224_34, s224_35, s224_36, s224_39, s224_42, s224_43, s224_44, s224_47, s224_48, s224_49, s224_52, s224_53, s224_55, s224_58, s224_61, s224_62, s224_65, s224_68, s224_69, s224_72, s224_73, s224_74, s224_75, s224_76, s224_79, s224_80, s224_81, s224_82, s224_85, s224_89, s224_90, s224_93, s224_94, s224_95, s224_98, nI_le2, nI_lt2, nI_eq2, nI_lt0, nI_0le, nI_0lt, nI_le0, nI_eq0, nI_clamp, nI_add, bu_nI, bb_0, bb_1, rf_s, rf_n, tl_s, tl_n, am_th_some, if_true, if_false, sI_eq, uI_eq, and_self, true_and, and_true, not_false_eq_true, not_true_eq_false, Nat.reduceEqDiff, Nat.reduceLeDiff, Nat.reduceLT, Nat.reduceAdd, Nat.reduceMul, Nat.reduceSub, Nat.zero_add, mr31 hr, mr36 hr, h1, h2, hk', nI_mul, nI_add, e]
      · rw [sI_eq]
        by_cases e : j = c
        · rw [e, uI_eq]
        · rw [uI_ne (by omega), f2 j (by omega)]
      · rw [sI_eq, uI_ne (by omega)]; exact f3 j hj
    · intro J ⟨f1, f2, f3⟩
      refine ⟨J, ?_, f1, f2, f3⟩
      rw [s224_54]
      simp (disch := first | omega | assumption) only [s224_0, s224_1, s224_4, s224_6, s224_9, s224_12, s224_14, s224_17, s224_20, s224_21, s224_24, s224_25, s224_28, s224_29, s224_30, s224_33, s224_34, s224_35, s224_36, s224_39, s224_42, s224_43, s224_44, s224_47, s224_48, s224_49, s224_52, s224_53, s224_55, s224_58, s224_61, s224_62, s224_65, s224_68, s224_69, s224_72, s224_73, s224_74, s224_75, s224_76, s224_79, s224_80, s224_81, s224_82, s224_85, s224_89, s224_90, s224_93, s224_94, s224_95, s224_98, nI_le2, nI_lt2, nI_eq2, nI_lt0, nI_0le, nI_0lt, nI_le0, nI_eq0, nI_clamp, nI_add, bu_nI, bb_0, bb_1, rf_s, rf_n, tl_s, tl_n, am_th_some, if_true, if_false, sI_eq, uI_eq, and_self, true_and, and_true, not_false_eq_true, not_true_eq_false, Nat.reduceEqDiff, Nat.reduceLeDiff, Nat.reduceLT, Nat.reduceAdd, Nat.reduceMul, Nat.reduceSub, Nat.zero_add]
  obtain ⟨J, g1, g2, g3, g4⟩ := loop
  have hk' := (g2 12 0 37 (by omega)).trans hk
  refine ⟨am_sI J 12 0 (am_uI (J 12 0) 37 (nI (k + 1))), ?_, fr_s (fr_mo g2 fun a b j w => Or.inl w) (Or.inr ⟨rfl, rfl⟩), by rw [sI_eq, uI_eq], fun i hi => by rw [sI_na (by omega)]; exact g3 i hi, fun j hj => by rw [sI_na (by omega)]; exact g4 j hj⟩
  rw [g1]
  simp (disch := first | omega | assumption) only [s224_0, s224_1, s224_4, s224_6, s224_9, s224_12, s224_14, s224_17, s224_20, s224_21, s224_24, s224_25, s224_28, s224_29, s224_30, s224_33, s224_34, s224_35, s224_36, s224_39, s224_42, s224_43, s224_44, s224_47, s224_48, s224_49, s224_52, s224_53, s224_55, s224_58, s224_61, s224_62, s224_65, s224_68, s224_69, s224_72, s224_73, s224_74, s224_75, s224_76, s224_79, s224_80, s224_81, s224_82, s224_85, s224_88, s224_89, s224_90, s224_93, s224_94, s224_95, s224_98, nI_le2, nI_lt2, nI_eq2, nI_lt0, nI_0le, nI_0lt, nI_le0, nI_eq0, nI_clamp, nI_add, bu_nI, bb_0, bb_1, rf_s, rf_n, tl_s, tl_n, am_th_some, if_true, if_false, sI_eq, uI_eq, and_self, true_and, and_true, not_false_eq_true, not_true_eq_false, Nat.reduceEqDiff, Nat.reduceLeDiff, Nat.reduceLT, Nat.reduceAdd, Nat.reduceMul, Nat.reduceSub, Nat.zero_add, hk']
/-- how many go, where there is no room -/
abbrev sp_go (k : Nat) : Nat := if k = 40 then 1 else 0
theorem m_keep (hr : mm_R R) {k : Nat} (hk : I 12 0 37 = nI k) (hk4 : k ≤ 40) : ∃ J, am_cal d 224 [.ref (am_mk 12 0)] I R Q = some (none, J, R, Q) ∧ am_fr kp_S I J ∧ J 12 0 37 = nI (k - sp_go k + 1) ∧ (∀ i, i < 283 → J 63 0 (283 * (k - sp_go k) + i) = I 60 0 i) ∧ ∀ j, j < k - sp_go k → ∀ i, i < 283 → J 63 0 (283 * j + i) = I 63 0 (283 * (j + sp_go k) + i) := by
  by_cases e : k = 40
  · subst e
    have loop : ∀ l1 : Nat, l1 = 283 → ∃ J, am_ev d 224 13 [.ref (am_mk 12 0), .int (nI l1)] [] I R Q = am_ev d 224 42 [.ref (am_mk 12 0), .int (nI 11320)] [] J R Q ∧ am_fr (fun a _ _ => a = 63) I J ∧ ∀ j, j < 11037 → J 63 0 j = I 63 0 (j + 283) := by
      intro l1 hl1
      subst hl1
      have key := loop_inv (f := fun J c => am_ev d 224 13 [.ref (am_mk 12 0), .int (nI (283 + c))] [] J R Q) (Inv := fun c J => am_fr (fun a _ _ => a = 63) I J ∧ (∀ j, j < c → J 63 0 j = I 63 0 (j + 283)) ∧ ∀ j, c ≤ j → J 63 0 j = I 63 0 j) (Post := fun y => ∃ J, y = am_ev d 224 42 [.ref (am_mk 12 0), .int (nI 11320)] [] J R Q ∧ am_fr (fun a _ _ => a = 63) I J ∧ ∀ j, j < 11037 → J 63 0 j = I 63 0 (j + 283)) (n := 11037) ?_ ?_ (Nat.zero_le _) (a := I) ⟨fr_rf, fun i hi => absurd hi (Nat.not_lt_zero _), fun _ _ => rfl⟩
      · exact key
      · intro c J hc ⟨f1, f2, f3⟩
        left
        have h1 : ¬ 11320 ≤ 283 + c := by omega
        have h2 : 283 + c < 11320 := by omega
        have h3 : c < 11320 := by omega
        have e1 : nI (283 + c) - nI 283 = nI c := by rw [nI_sub (by omega), Nat.add_sub_cancel_left]
        refine ⟨am_sI J 63 0 (am_uI (J 63 0) c (I 63 0 (283 + c))), ?_, fr_s f1 rfl, fun j hj => ?_, fun j hj => ?_⟩
        · have e := f3 (283 + c) (by omega)
          rw [s224_13]
          simp (disch := first | omega | assumption) only [s224_0, s224_1, s224_4, s224_6, s224_9, s224_12, s224_14, s224_17, s224_20, s224_21, s224_24, s224_25, s224_28, s224_29, s224_30, s224_33, s224_34, s224_35, s224_36, s224_39, s224_43, s224_44, s224_47, s224_48, s224_49, s224_52, s224_53, s224_55, s224_58, s224_61, s224_62, s224_65, s224_68, s224_69, s224_72, s224_73, s224_74, s224_75, s224_76, s224_79, s224_80, s224_81, s224_82, s224_85, s224_88, s224_89, s224_90, s224_93, s224_94, s224_95, s224_98, nI_le2, nI_lt2, nI_eq2, nI_lt0, nI_0le, nI_0lt, nI_le0, nI_eq0, nI_clamp, nI_add, bu_nI, bb_0, bb_1, rf_s, rf_n, tl_s, tl_n, am_th_some, if_true, if_false, sI_eq, uI_eq, and_self, true_and, and_true, not_false_eq_true, not_true_eq_false, Nat.reduceEqDiff, Nat.reduceLeDiff, Nat.reduceLT, Nat.reduceAdd, Nat.reduceMul, Nat.reduceSub, Nat.zero_add, mr36 hr, h1, h2, h3, e1, e, Nat.add_assoc]
        · rw [sI_eq]
          by_cases e : j = c
          · rw [e, uI_eq, Nat.add_comm]
          · rw [uI_ne e, f2 j (by omega)]
        · rw [sI_eq, uI_ne (by omega)]; exact f3 j (by omega)
      · intro J ⟨f1, f2, f3⟩
        refine ⟨J, ?_, f1, f2⟩
        show am_ev d 224 13 [.ref (am_mk 12 0), .int (nI 11320)] [] J R Q = _
        rw [s224_13]
        simp (disch := first | omega | assumption) only [s224_0, s224_1, s224_4, s224_6, s224_9, s224_12, s224_14, s224_17, s224_20, s224_21, s224_24, s224_25, s224_28, s224_29, s224_30, s224_33, s224_34, s224_35, s224_36, s224_39, s224_43, s224_44, s224_47, s224_48, s224_49, s224_52, s224_53, s224_55, s224_58, s224_61, s224_62, s224_65, s224_68, s224_69, s224_72, s224_73, s224_74, s224_75, s224_76, s224_79, s224_80, s224_81, s224_82, s224_85, s224_88, s224_89, s224_90, s224_93, s224_94, s224_95, s224_98, nI_le2, nI_lt2, nI_eq2, nI_lt0, nI_0le, nI_0lt, nI_le0, nI_eq0, nI_clamp, nI_add, bu_nI, bb_0, bb_1, rf_s, rf_n, tl_s, tl_n, am_th_some, if_true, if_false, sI_eq, uI_eq, and_self, true_and, and_true, not_false_eq_true, not_true_eq_false, Nat.reduceEqDiff, Nat.reduceLeDiff, Nat.reduceLT, Nat.reduceAdd, Nat.reduceMul, Nat.reduceSub, Nat.zero_add]
    obtain ⟨J, g1, g2, g3⟩ := loop 283 rfl
    have hk' : J 12 0 37 = nI 40 := (g2 12 0 37 (by omega)).trans hk
    have e9 : nI 40 - nI 1 = nI 39 := by decide
    obtain ⟨K, w1, w2, w3, w4, w5⟩ := m_keepS (d := d) (Q := Q) (I := am_sI J 12 0 (am_uI (J 12 0) 37 (nI 39))) hr (k := 39) (by rw [sI_eq, uI_eq]) (by decide)
    refine ⟨K, ?_, fr_tr (fr_s (fr_mo g2 fun a b j w => Or.inl w) (Or.inr ⟨rfl, rfl⟩)) w2, w3, fun i hi => ?_, fun j hj i hi => ?_⟩
    · rw [s224]
      simp (disch := first | omega | assumption) only [s224_0, s224_1, s224_4, s224_6, s224_9, s224_12, s224_14, s224_17, s224_20, s224_21, s224_24, s224_25, s224_28, s224_29, s224_30, s224_33, s224_34, s224_35, s224_36, s224_39, s224_42, s224_43, s224_44, s224_47, s224_48, s224_49, s224_52, s224_53, s224_55, s224_58, s224_61, s224_62, s224_65, s224_68, s224_69, s224_72, s224_73, s224_74, s224_75, s224_76, s224_79, s224_80, s224_81, s224_82, s224_85, s224_88, s224_89, s224_90, s224_93, s224_94, s224_95, s224_98, nI_le2, nI_lt2, nI_eq2, nI_lt0, nI_0le, nI_0lt, nI_le0, nI_eq0, nI_clamp, nI_add, bu_nI, bb_0, bb_1, rf_s, rf_n, tl_s, tl_n, am_th_some, if_true, if_false, sI_eq, uI_eq, and_self, true_and, and_true, not_false_eq_true, not_true_eq_false, Nat.reduceEqDiff, Nat.reduceLeDiff, Nat.reduceLT, Nat.reduceAdd, Nat.reduceMul, Nat.reduceSub, Nat.zero_add, hk]
      rw [g1]
      simp (disch := first | omega | assumption) only [s224_0, s224_1, s224_4, s224_6, s224_9, s224_12, s224_14, s224_17, s224_20, s224_21, s224_24, s224_25, s224_28, s224_29, s224_30, s224_33, s224_34, s224_35, s224_36, s224_39, s224_42, s224_43, s224_44, s224_47, s224_48, s224_49, s224_52, s224_53, s224_55, s224_58, s224_61, s224_62, s224_65, s224_68, s224_69, s224_72, s224_73, s224_74, s224_75, s224_76, s224_79, s224_80, s224_81, s224_82, s224_85, s224_88, s224_89, s224_90, s224_93, s224_94, s224_95, s224_98, nI_le2, nI_lt2, nI_eq2, nI_lt0, nI_0le, nI_0lt, nI_le0, nI_eq0, nI_clamp, nI_add, bu_nI, bb_0, bb_1, rf_s, rf_n, tl_s, tl_n, am_th_some, if_true, if_false, sI_eq, uI_eq, and_self, true_and, and_true, not_false_eq_true, not_true_eq_false, Nat.reduceEqDiff, Nat.reduceLeDiff, Nat.reduceLT, Nat.reduceAdd, Nat.reduceMul, Nat.reduceSub, Nat.zero_add, hk', e9]
      exact w1
    · have := w4 i hi
      rw [sI_na (by omega), g2 60 0 i (by omega)] at this
      exact this
    · have hj : j < 39 := hj
      show K 63 0 (283 * j + i) = I 63 0 (283 * (j + 1) + i)
      rw [w5 _ (by omega), sI_na (by omega), g3 _ (by omega)]
      congr 1
      omega
  · have hs : sp_go k = 0 := if_neg e
    rw [hs]
    obtain ⟨K, w1, w2, w3, w4, w5⟩ := m_keepS (d := d) (Q := Q) (I := I) hr hk (by omega)
    refine ⟨K, ?_, w2, w3, w4, fun j hj i hi => w5 _ ?_⟩
    · rw [s224]
      simp (disch := first | omega | assumption) only [s224_0, s224_1, s224_4, s224_6, s224_9, s224_12, s224_14, s224_17, s224_20, s224_21, s224_24, s224_25, s224_28, s224_29, s224_30, s224_33, s224_34, s224_35, s224_36, s224_39, s224_42, s224_43, s224_44, s224_47, s224_48, s224_49, s224_52, s224_53, s224_55, s224_58, s224_61, s224_62, s224_65, s224_68, s224_69, s224_72, s224_73, s224_74, s224_75, s224_76, s224_79, s224_80, s224_81, s224_82, s224_85, s224_88, s224_89, s224_90, s224_93, s224_94, s224_95, s224_98, nI_le2, nI_lt2, nI_eq2, nI_lt0, nI_0le, nI_0lt, nI_le0, nI_eq0, nI_clamp, nI_add, bu_nI, bb_0, bb_1, rf_s, rf_n, tl_s, tl_n, am_th_some, if_true, if_false, sI_eq, uI_eq, and_self, true_and, and_true, not_false_eq_true, not_true_eq_false, Nat.reduceEqDiff, Nat.reduceLeDiff, Nat.reduceLT, Nat.reduceAdd, Nat.reduceMul, Nat.reduceSub, Nat.zero_add, hk, e]
      exact w1
    · have : 283 * (j + 1) ≤ 283 * k := Nat.mul_le_mul_left _ (by omega)
      omega
end
