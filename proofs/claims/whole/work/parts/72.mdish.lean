/-! DISHES of those who wait: the model. -/
def me_at (I : am_I) (D : Nat) (A M : Nat → Nat) : Prop := I 12 0 29 = nI D ∧ ∀ i, i < D → I 59 0 (2 * i) = nI (A i) ∧ I 59 0 (2 * i + 1) = nI (M i)
def mo_st (I : am_I) (st : Option (Nat × Nat)) : Prop := match st with
  | none => I 12 0 44 = -nI 1
  | some a => a.1 < 2 ^ 24 ∧ a.2 < 2 ^ 24 ∧ I 12 0 44 = nI a.2 ∧ I 12 0 45 = nI a.1
def mo_S : Nat → Nat → Nat → Prop := fun a _ j => a = 12 ∧ (j = 44 ∨ j = 45)
/-- how many are still to come -/
def sp_un (D s : Nat) : Nat := am_fold (fun a i => a + if s.testBit i = true then 0 else 1) 0 D
theorem un_s (D s : Nat) : sp_un (D + 1) s = sp_un D s + if s.testBit D = true then 0 else 1 := rfl
theorem un_zero {D s : Nat} : sp_un D s = 0 ↔ ∀ i, i < D → s.testBit i = true := by
  induction D with
  | zero => exact ⟨fun _ i hi => absurd hi (Nat.not_lt_zero _), fun _ => rfl⟩
  | succ D ih =>
    rw [un_s]
    constructor
    · intro h i hi
      have h1 : sp_un D s = 0 := by omega
      rcases Nat.lt_succ_iff_lt_or_eq.mp hi with w | w
      · exact ih.mp h1 i w
      · subst w
        cases e : s.testBit i with
        | true => rfl
        | false => rw [e, if_neg (by decide)] at h; omega
    · intro h
      rw [ih.mpr fun i hi => h i (by omega), h D (by omega), if_pos rfl]
theorem un_full {D s : Nat} (hs : s < 2 ^ D) : s = 2 ^ D - 1 ↔ sp_un D s = 0 := by
  constructor
  · intro h
    subst h
    exact un_zero.mpr fun i hi => by rw [Nat.testBit_two_pow_sub_one]; exact decide_eq_true hi
  · intro h
    apply Nat.eq_of_testBit_eq
    intro i
    rw [Nat.testBit_two_pow_sub_one]
    by_cases hi : i < D
    · rw [un_zero.mp h i hi, decide_eq_true hi]
    · rw [decide_eq_false hi, Nat.testBit_lt_two_pow (Nat.lt_of_lt_of_le hs (Nat.pow_le_pow_right (by decide) (by omega)))]
theorem un_set {s j : Nat} (hj : s.testBit j = false) (D : Nat) : sp_un D (s ||| 2 ^ j) + (if j < D then 1 else 0) = sp_un D s := by
  induction D with
  | zero => rfl
  | succ D ih =>
    rw [un_s, un_s, ← ih, Nat.testBit_or, Nat.testBit_two_pow]
    by_cases e : j = D
    · subst e
      rw [hj, if_neg (Nat.lt_irrefl _), if_pos (Nat.lt_succ_self _)]
      simp
    · rw [decide_eq_false e, Bool.or_false]
      by_cases h : j < D
      · rw [if_pos h, if_pos (show j < D + 1 by omega)]; omega
      · rw [if_neg h, if_neg (show ¬ j < D + 1 by omega)]; omega
theorem xor_m1 : ∀ D, D < 7 → ∀ s, s < 2 ^ D → nI (2 ^ D - 1) &&& (nI s ^^^ -nI 1) = nI (2 ^ D - 1 - s) := by decide +kernel
theorem tn_all {A : Nat → Nat} {D s : Nat} (hs : s < 2 ^ D) : sp_tn A (2 ^ D - 1 - s) D + sp_tn A s D = sp_tn A (2 ^ D - 1) D := by
  have key : ∀ m, m ≤ D → sp_tn A (2 ^ D - 1 - s) m + sp_tn A s m = sp_tn A (2 ^ D - 1) m := by
    intro m
    induction m with
    | zero => intro _; rfl
    | succ m ih =>
      intro hm
      have ih := ih (by omega)
      have e1 : (2 ^ D - 1 - s).testBit m = !s.testBit m := by
        rw [show 2 ^ D - 1 - s = 2 ^ D - (s + 1) by omega, Nat.testBit_two_pow_sub_succ hs, decide_eq_true (show m < D by omega), Bool.true_and]
      have e2 : (2 ^ D - 1).testBit m = true := by rw [Nat.testBit_two_pow_sub_one]; exact decide_eq_true (by omega)
      show sp_tn A (2 ^ D - 1 - s) m + (if (2 ^ D - 1 - s).testBit m = true then A m else 0) + (sp_tn A s m + if s.testBit m = true then A m else 0) = sp_tn A (2 ^ D - 1) m + if (2 ^ D - 1).testBit m = true then A m else 0
      rw [e1, e2, if_pos rfl]
      cases e : s.testBit m with
      | true => rw [if_neg (by decide), if_pos rfl]; omega
      | false => rw [if_pos (by decide), if_neg (by decide)]; omega
  exact key D (Nat.le_refl _)
section
variable {d D n : Nat} {I : am_I} {R : am_R} {Q : am_Q} {A M : Nat → Nat}
theorem m_tensOf (hr : mm_R R) (h : me_at I D A M) (hk : ds_ok D A M) {s : Nat} (hs : s < 2 ^ 31) : am_cal (d + 1) 262 [.ref (am_mk 12 0), .int (nI s)] I R Q = some (some (.int (nI (sp_tn A s D))), I, R, Q) := by
  obtain ⟨h4, hA⟩ := h
  obtain ⟨hD, hB⟩ := hk
  rw [s262]
  simp (disch := first | omega | assumption) only [s262_0, s262_1, s262_2, s262_3, s262_5, s262_6, s262_9, s262_12, s262_13, s262_14, s262_15, s262_18, s262_21, s262_22, s262_25, s262_26, s262_27, s262_28, s262_29, s262_32, s262_33, s262_34, s262_35, s262_38, s262_41, s262_42, nI_le2, nI_lt2, nI_eq2, nI_lt0, nI_0le, nI_0lt, nI_le0, nI_eq0, nI_clamp, nI_add, bu_nI, bb_0, bb_1, rf_s, rf_n, tl_s, tl_n, am_th_some, if_true, if_false, sI_eq, uI_eq, and_self, true_and, and_true, not_false_eq_true, not_true_eq_false, Nat.reduceEqDiff, Nat.reduceLeDiff, Nat.reduceLT, Nat.reduceAdd, Nat.reduceMul, Nat.reduceSub, Nat.zero_add]
  have key := loop_fold (fun (a : Nat) c => am_ev (d + 1) 262 4 [.ref (am_mk 12 0), .int (nI s), .int (nI a), .int (nI c)] [] I R Q) (fun a i => a + if s.testBit i = true then A i else 0) D ?_ 0
  · rw [show (am_ev (d + 1) 262 4 [.ref (am_mk 12 0), .int (nI s), .int (nI 0), .int (nI 0)] [] I R Q) = _ from key, s262_4]
    simp (disch := first | omega | assumption) only [s262_0, s262_1, s262_2, s262_3, s262_5, s262_6, s262_9, s262_12, s262_13, s262_14, s262_15, s262_18, s262_21, s262_22, s262_25, s262_26, s262_27, s262_28, s262_29, s262_32, s262_33, s262_34, s262_35, s262_38, s262_41, s262_42, nI_le2, nI_lt2, nI_eq2, nI_lt0, nI_0le, nI_0lt, nI_le0, nI_eq0, nI_clamp, nI_add, bu_nI, bb_0, bb_1, rf_s, rf_n, tl_s, tl_n, am_th_some, if_true, if_false, sI_eq, uI_eq, and_self, true_and, and_true, not_false_eq_true, not_true_eq_false, Nat.reduceEqDiff, Nat.reduceLeDiff, Nat.reduceLT, Nat.reduceAdd, Nat.reduceMul, Nat.reduceSub, Nat.zero_add, h4, Nat.le_refl]
    rfl
  · intro a c hc
    obtain ⟨a0, a1⟩ := hA c hc
    have h1 : ¬ D ≤ c := by omega
    have h2 : 2 * c < 12 := by omega
    have hh := m_has (d := d) (a := nI s) (b := nI c) (I := I) (R := R) (Q := Q)
    have hbit := bit_has (s := s) (c := c) (by omega) (by omega)
    rw [s262_4]
    cases ht : s.testBit c with
    | true =>
      rw [if_pos (by rw [hbit]; exact ht)] at hh
      rw [if_pos rfl]
      simp (disch := first | omega | assumption) only [s262_0, s262_1, s262_2, s262_3, s262_5, s262_6, s262_9, s262_12, s262_13, s262_14, s262_15, s262_18, s262_21, s262_22, s262_25, s262_26, s262_27, s262_28, s262_29, s262_32, s262_33, s262_34, s262_35, s262_38, s262_41, s262_42, nI_le2, nI_lt2, nI_eq2, nI_lt0, nI_0le, nI_0lt, nI_le0, nI_eq0, nI_clamp, nI_add, bu_nI, bb_0, bb_1, rf_s, rf_n, tl_s, tl_n, am_th_some, if_true, if_false, sI_eq, uI_eq, and_self, true_and, and_true, not_false_eq_true, not_true_eq_false, Nat.reduceEqDiff, Nat.reduceLeDiff, Nat.reduceLT, Nat.reduceAdd, Nat.reduceMul, Nat.reduceSub, Nat.zero_add, mr27 hr, h4, h1, h2, a0, hh, nI_mul, nI_add]
    | false =>
      rw [if_neg (by rw [hbit, ht]; decide)] at hh
      rw [if_neg (by decide), Nat.add_zero]
      simp (disch := first | omega | assumption) only [s262_0, s262_1, s262_2, s262_3, s262_5, s262_6, s262_9, s262_12, s262_13, s262_14, s262_15, s262_18, s262_21, s262_22, s262_25, s262_26, s262_27, s262_28, s262_29, s262_32, s262_33, s262_34, s262_35, s262_38, s262_41, s262_42, nI_le2, nI_lt2, nI_eq2, nI_lt0, nI_0le, nI_0lt, nI_le0, nI_eq0, nI_clamp, nI_add, bu_nI, bb_0, bb_1, rf_s, rf_n, tl_s, tl_n, am_th_some, if_true, if_false, sI_eq, uI_eq, and_self, true_and, and_true, not_false_eq_true, not_true_eq_false, Nat.reduceEqDiff, Nat.reduceLeDiff, Nat.reduceLT, Nat.reduceAdd, Nat.reduceMul, Nat.reduceSub, Nat.zero_add, mr27 hr, h4, h1, h2, a0, hh, nI_mul, nI_add]
theorem m_together (hr : mm_R R) (h : me_at I D A M) (hk : ds_ok D A M) (hc4 : I 12 0 30 = nI n) (hn0 : 1 ≤ n) (hn2 : n ≤ 25) {k : Nat} (hkk : k = 1 ∨ k = 2) : am_cal (d + 2) 263 [.ref (am_mk 12 0), .int (nI k)] I R Q = some (some (.int (if k = 2 then sp_tg A D else nI (sp_tn A (2 ^ D - 1) D))), I, R, Q) := by
  have hD := hk.1
  have hp := pow_D hD
  have hp1 : 1 ≤ 2 ^ D := Nat.two_pow_pos _
  have e1 : nI 1 <<< (nI D &&& 31) = nI (2 ^ D) := nI_bit (by omega)
  have all := m_tensOf (d := d) (Q := Q) hr h hk (s := 2 ^ D - 1) (by omega)
  have hl : ¬ I 12 0 30 ≤ 0 := by rw [hc4, nI_le0 (by omega)]; omega
  have h4 := h.1
  rw [s263]
  rcases hkk with rfl | rfl
  · rw [if_neg (by decide)]
    simp (disch := first | omega | assumption) only [s263_0, s263_1, s263_4, s263_7, s263_8, s263_9, s263_10, s263_13, s263_16, s263_17, s263_18, s263_19, s263_20, s263_23, s263_24, s263_25, s263_26, s263_27, s263_28, s263_29, s263_32, s263_33, s263_34, s263_38, s263_39, s263_42, s263_43, s263_44, s263_47, s263_48, s263_49, s263_51, s263_54, s263_55, s263_56, s263_58, s263_59, s263_60, s263_61, s263_64, s263_67, s263_70, s263_71, s263_74, s263_77, s263_78, nI_le2, nI_lt2, nI_eq2, nI_lt0, nI_0le, nI_0lt, nI_le0, nI_eq0, nI_clamp, nI_add, bu_nI, bb_0, bb_1, rf_s, rf_n, tl_s, tl_n, am_th_some, if_true, if_false, sI_eq, uI_eq, and_self, true_and, and_true, not_false_eq_true, not_true_eq_false, Nat.reduceEqDiff, Nat.reduceLeDiff, Nat.reduceLT, Nat.reduceAdd, Nat.reduceMul, Nat.reduceSub, Nat.zero_add, m_isLunch (d := d + 1), hl, m_in (d := d + 1), h4, e1, nI_sub hp1, all]
    rw [s263_36]
    have hz : ¬ 2 ^ D - 1 < 0 := Nat.not_lt_zero _
    simp (disch := first | omega | assumption) only [s263_0, s263_1, s263_4, s263_7, s263_8, s263_9, s263_10, s263_13, s263_16, s263_17, s263_18, s263_19, s263_20, s263_23, s263_24, s263_25, s263_26, s263_27, s263_28, s263_29, s263_32, s263_33, s263_34, s263_38, s263_39, s263_42, s263_43, s263_44, s263_47, s263_48, s263_49, s263_51, s263_54, s263_55, s263_56, s263_58, s263_59, s263_60, s263_61, s263_64, s263_67, s263_70, s263_71, s263_74, s263_77, s263_78, nI_le2, nI_lt2, nI_eq2, nI_lt0, nI_0le, nI_0lt, nI_le0, nI_eq0, nI_clamp, nI_add, bu_nI, bb_0, bb_1, rf_s, rf_n, tl_s, tl_n, am_th_some, if_true, if_false, sI_eq, uI_eq, and_self, true_and, and_true, not_false_eq_true, not_true_eq_false, Nat.reduceEqDiff, Nat.reduceLeDiff, Nat.reduceLT, Nat.reduceAdd, Nat.reduceMul, Nat.reduceSub, Nat.zero_add, hz]
  · rw [if_pos rfl]
    simp (disch := first | omega | assumption) only [s263_0, s263_1, s263_4, s263_7, s263_8, s263_9, s263_10, s263_13, s263_16, s263_17, s263_18, s263_19, s263_20, s263_23, s263_24, s263_25, s263_26, s263_27, s263_28, s263_29, s263_32, s263_33, s263_34, s263_38, s263_39, s263_42, s263_43, s263_44, s263_47, s263_48, s263_49, s263_51, s263_54, s263_55, s263_56, s263_58, s263_59, s263_60, s263_61, s263_64, s263_67, s263_70, s263_71, s263_74, s263_77, s263_78, nI_le2, nI_lt2, nI_eq2, nI_lt0, nI_0le, nI_0lt, nI_le0, nI_eq0, nI_clamp, nI_add, bu_nI, bb_0, bb_1, rf_s, rf_n, tl_s, tl_n, am_th_some, if_true, if_false, sI_eq, uI_eq, and_self, true_and, and_true, not_false_eq_true, not_true_eq_false, Nat.reduceEqDiff, Nat.reduceLeDiff, Nat.reduceLT, Nat.reduceAdd, Nat.reduceMul, Nat.reduceSub, Nat.zero_add, m_isLunch (d := d + 1), hl, m_in (d := d + 1), h4, e1, nI_sub hp1, all]
    have key := loop_fold (fun (a : Int32) c => am_ev (d + 2) 263 36 [.ref (am_mk 12 0), .int (nI 2), .int (nI (2 ^ D - 1)), .int a, .int (nI c)] [] I R Q) (fun a s => sp_min a (sp_max (nI (sp_tn A s D)) (nI (sp_tn A (2 ^ D - 1) D) - nI (sp_tn A s D)))) (2 ^ D) ?_ (nI (sp_tn A (2 ^ D - 1) D))
    · refine Eq.trans key ?_
      have h1 : 2 ^ D - 1 < 2 ^ D := by omega
      rw [s263_36]
      simp (disch := first | omega | assumption) only [s263_0, s263_1, s263_4, s263_7, s263_8, s263_9, s263_10, s263_13, s263_16, s263_17, s263_18, s263_19, s263_20, s263_23, s263_24, s263_25, s263_26, s263_27, s263_28, s263_29, s263_32, s263_33, s263_34, s263_38, s263_39, s263_42, s263_43, s263_44, s263_47, s263_48, s263_49, s263_51, s263_54, s263_55, s263_56, s263_58, s263_59, s263_60, s263_61, s263_64, s263_67, s263_70, s263_71, s263_74, s263_77, s263_78, nI_le2, nI_lt2, nI_eq2, nI_lt0, nI_0le, nI_0lt, nI_le0, nI_eq0, nI_clamp, nI_add, bu_nI, bb_0, bb_1, rf_s, rf_n, tl_s, tl_n, am_th_some, if_true, if_false, sI_eq, uI_eq, and_self, true_and, and_true, not_false_eq_true, not_true_eq_false, Nat.reduceEqDiff, Nat.reduceLeDiff, Nat.reduceLT, Nat.reduceAdd, Nat.reduceMul, Nat.reduceSub, Nat.zero_add, h1]
      rfl
    · intro a c hc
      have h1 : ¬ 2 ^ D - 1 < c := by omega
      have one := m_tensOf (d := d) (Q := Q) hr h hk (s := c) (by omega)
      have two := m_tensOf (d := d) (Q := Q) hr h hk (s := 2 ^ D - 1 - c) (by omega)
      have ta := tn_all (A := A) hc
      have es : nI (sp_tn A (2 ^ D - 1) D) - nI (sp_tn A c D) = nI (sp_tn A (2 ^ D - 1 - c) D) := by
        rw [nI_sub (by omega)]; congr 1; omega
      have ex := xor_m1 D (by omega) c hc
      rw [s263_36, es]
      simp (disch := first | omega | assumption) only [s263_0, s263_1, s263_4, s263_7, s263_8, s263_9, s263_10, s263_13, s263_16, s263_17, s263_18, s263_19, s263_20, s263_23, s263_24, s263_25, s263_26, s263_27, s263_28, s263_29, s263_32, s263_33, s263_34, s263_38, s263_39, s263_42, s263_43, s263_44, s263_47, s263_48, s263_49, s263_51, s263_54, s263_55, s263_56, s263_58, s263_59, s263_60, s263_61, s263_64, s263_67, s263_70, s263_71, s263_74, s263_77, s263_78, nI_le2, nI_lt2, nI_eq2, nI_lt0, nI_0le, nI_0lt, nI_le0, nI_eq0, nI_clamp, nI_add, bu_nI, bb_0, bb_1, rf_s, rf_n, tl_s, tl_n, am_th_some, if_true, if_false, sI_eq, uI_eq, and_self, true_and, and_true, not_false_eq_true, not_true_eq_false, Nat.reduceEqDiff, Nat.reduceLeDiff, Nat.reduceLT, Nat.reduceAdd, Nat.reduceMul, Nat.reduceSub, Nat.zero_add, h4, h1, one, ex, two]
end
