/-! SET: both sides. -/
section
variable {d n f q u v k p c g : Nat} {I : am_I} {R : am_R} {Q : am_Q} {N : Nat → Nat → Nat} {P : Nat → Nat → Int32} {C : Nat → Nat} {x y : Int32}
/-- may it be set? -/
abbrev sp_ss (P : Nat → Nat → Int32) (x y : Int32) : Prop := pp_f P x ∧ nI 0 ≤ y ∧ y ≤ nI 99
theorem c_setYes (h8 : R 11 0 8 = some (am_mk 2 0)) (h10 : R 11 0 10 = some (am_mk 9 12)) (h17 : R 11 0 17 = some (am_mk 8 1)) (hk : kk_R R u) (ht : R 6 u 6 = some (am_mk 9 p)) (hp : pp_R R p) (nr : nt_R R 1) (h4 : I 9 12 4 = nI n) (hn1 : 1 ≤ n) (hn2 : n ≤ 25) (hP : pp_at I p P) (hPn : P 4 0 = nI n) (hs : sp_ss P (nI c) (nI g)) (h : nt_at I 1 k N) (hk10 : k < 10) (hq : q ≤ 1) : ∃ J, am_cal (d + 1) 147 [.ref (am_mk 11 0), .int (nI c), .int (nI g), .int (nI q)] I R Q = some (some (.int (nI (k + 1))), J, R, Q) ∧ am_fr (na_S 1) I J ∧ nt_at J 1 (k + 1) (sp_nt k N c g q) := by
  obtain ⟨J, g1, g2, g3⟩ := c_add (d := d) (Q := Q) (c := c) (g := g) nr h hk10 hq
  have hL := c_lunch (d := d) (Q := Q) h10 h4 hn2
  rw [if_neg (by omega)] at hL
  have hf := c_food (d := d) (Q := Q) (x := nI c) hp.1 hP hPn hn2
  rw [if_pos hs.1] at hf
  have hw := c_within (d := d) (x := nI g) (a := nI 0) (b := nI 99) (I := I) (R := R) (Q := Q)
  rw [if_pos hs.2] at hw
  have hne : ((nI 1 : Int32) = 0) = False := by decide
  have h5 := g3.1
  refine ⟨J, ?_, g2, g3⟩
  rw [s147]
  simp (disch := first | omega | assumption) only [s147_0, s147_1, s147_4, s147_7, s147_8, s147_11, s147_14, s147_17, s147_18, s147_21, s147_24, s147_25, s147_26, s147_28, s147_31, s147_34, s147_35, s147_36, s147_37, s147_40, s147_41, s147_42, s147_43, s147_46, s147_49, s147_50, s147_53, s147_56, s147_59, s147_60, nI_le2, nI_lt2, nI_eq2, nI_lt0, nI_0le, nI_0lt, nI_le0, nI_eq0, nI_clamp, nI_add, bu_nI, bb_0, bb_1, rf_s, rf_n, tl_s, tl_n, am_th_some, if_true, if_false, sI_eq, uI_eq, and_self, true_and, and_true, not_false_eq_true, not_true_eq_false, Nat.reduceEqDiff, Nat.reduceLeDiff, Nat.reduceLT, Nat.reduceAdd, Nat.reduceMul, Nat.reduceSub, Nat.zero_add, hL, h8, hk.1, ht, hf, hw, h17, g1, h5, hne]
theorem c_setNo (h8 : R 11 0 8 = some (am_mk 2 0)) (h10 : R 11 0 10 = some (am_mk 9 12)) (h17 : R 11 0 17 = some (am_mk 8 1)) (hk : kk_R R u) (ht : R 6 u 6 = some (am_mk 9 p)) (hp : pp_R R p) (h4 : I 9 12 4 = nI n) (hn1 : 1 ≤ n) (hn2 : n ≤ 25) (hP : pp_at I p P) (hPn : P 4 0 = nI n) (h : nt_at I 1 k N) (hno : ¬ sp_ss P x y ∨ k = 10) {z : Int32} : am_cal (d + 1) 147 [.ref (am_mk 11 0), .int x, .int y, .int z] I R Q = some (some (.int (-nI 1)), I, R, Q) := by
  have hL := c_lunch (d := d) (Q := Q) h10 h4 hn2
  rw [if_neg (by omega)] at hL
  have hf := c_food (d := d) (Q := Q) (x := x) hp.1 hP hPn hn2
  have hw := c_within (d := d) (x := y) (a := nI 0) (b := nI 99) (I := I) (R := R) (Q := Q)
  have hne : ((nI 1 : Int32) = 0) = False := by decide
  rw [s147]
  by_cases e1 : pp_f P x
  · rw [if_pos e1] at hf
    by_cases e2 : nI 0 ≤ y ∧ y ≤ nI 99
    · rw [if_pos e2] at hw
      have hk10 := hno.resolve_left (fun w => w ⟨e1, e2⟩)
      subst hk10
      have ad := c_addNo (d := d) (R := R) (Q := Q) h (x := x) (y := y) (z := z)
      simp (disch := first | omega | assumption) only [s147_0, s147_1, s147_4, s147_7, s147_8, s147_11, s147_14, s147_17, s147_18, s147_21, s147_24, s147_25, s147_26, s147_28, s147_31, s147_34, s147_35, s147_36, s147_37, s147_40, s147_41, s147_42, s147_43, s147_46, s147_49, s147_50, s147_53, s147_56, s147_59, s147_60, nI_le2, nI_lt2, nI_eq2, nI_lt0, nI_0le, nI_0lt, nI_le0, nI_eq0, nI_clamp, nI_add, bu_nI, bb_0, bb_1, rf_s, rf_n, tl_s, tl_n, am_th_some, if_true, if_false, sI_eq, uI_eq, and_self, true_and, and_true, not_false_eq_true, not_true_eq_false, Nat.reduceEqDiff, Nat.reduceLeDiff, Nat.reduceLT, Nat.reduceAdd, Nat.reduceMul, Nat.reduceSub, Nat.zero_add, hL, h8, hk.1, ht, hf, hw, h17, ad, hne]
    · rw [if_neg e2] at hw
      simp (disch := first | omega | assumption) only [s147_0, s147_1, s147_4, s147_7, s147_8, s147_11, s147_14, s147_17, s147_18, s147_21, s147_24, s147_25, s147_26, s147_28, s147_31, s147_34, s147_35, s147_36, s147_37, s147_40, s147_41, s147_42, s147_43, s147_46, s147_49, s147_50, s147_53, s147_56, s147_59, s147_60, nI_le2, nI_lt2, nI_eq2, nI_lt0, nI_0le, nI_0lt, nI_le0, nI_eq0, nI_clamp, nI_add, bu_nI, bb_0, bb_1, rf_s, rf_n, tl_s, tl_n, am_th_some, if_true, if_false, sI_eq, uI_eq, and_self, true_and, and_true, not_false_eq_true, not_true_eq_false, Nat.reduceEqDiff, Nat.reduceLeDiff, Nat.reduceLT, Nat.reduceAdd, Nat.reduceMul, Nat.reduceSub, Nat.zero_add, hL, h8, hk.1, ht, hf, hw, hne]
  · rw [if_neg e1] at hf
    simp (disch := first | omega | assumption) only [s147_0, s147_1, s147_4, s147_7, s147_8, s147_11, s147_14, s147_17, s147_18, s147_21, s147_24, s147_25, s147_26, s147_28, s147_31, s147_34, s147_35, s147_36, s147_37, s147_40, s147_41, s147_42, s147_43, s147_46, s147_49, s147_50, s147_53, s147_56, s147_59, s147_60, nI_le2, nI_lt2, nI_eq2, nI_lt0, nI_0le, nI_0lt, nI_le0, nI_eq0, nI_clamp, nI_add, bu_nI, bb_0, bb_1, rf_s, rf_n, tl_s, tl_n, am_th_some, if_true, if_false, sI_eq, uI_eq, and_self, true_and, and_true, not_false_eq_true, not_true_eq_false, Nat.reduceEqDiff, Nat.reduceLeDiff, Nat.reduceLT, Nat.reduceAdd, Nat.reduceMul, Nat.reduceSub, Nat.zero_add, hL, h8, hk.1, ht, hf, hne]
theorem m_inW : am_cal d 156 [.int x, .int (nI 0), .int (nI 99)] I R Q = some (some (.int (if nI 0 ≤ x ∧ x ≤ nI 99 then nI 1 else nI 0)), I, R, Q) := by
  have w := m_in (d := d) (v := x) (lo := nI 0) (hi := nI 99) (I := I) (R := R) (Q := Q)
  rw [w]
  by_cases e1 : nI 0 ≤ x
  · rw [if_neg (Int32.not_lt.mpr e1)]
    by_cases e2 : x ≤ nI 99
    · rw [if_neg (Int32.not_lt.mpr e2), if_pos ⟨e1, e2⟩]
    · rw [if_pos (Int32.not_le.mp e2), if_neg (fun w => e2 w.2)]
  · rw [if_pos (Int32.not_le.mp e1), if_neg (fun w => e1 w.1)]
theorem m_setYes (hr : mm_R R) (hD : md_at I f n C P) (hpos : ∀ j, j < f → C j < n ∧ ¬ P 0 (C j) ≤ 0) (hn2 : n ≤ 25) (hs : sp_ss P (nI c) (nI g)) (h : ms_at I k N) (hk10 : k < 10) (hq : q ≤ 1) : ∃ J, am_cal (d + 1) 268 [.ref (am_mk 12 0), .int (nI c), .int (nI g), .int (nI q)] I R Q = some (some (.int (nI (k + 1))), J, R, Q) ∧ am_fr ms_S I J ∧ ms_at J (k + 1) (sp_nt k N c g q) := by
  obtain ⟨h4, hA⟩ := h
  have hf := m_toldFood (d := d) (Q := Q) (x := nI c) hr hD hpos hn2
  rw [if_pos hs.1] at hf
  have hw := m_inW (d := d) (x := nI g) (I := I) (R := R) (Q := Q)
  rw [if_pos hs.2] at hw
  have h1 : ¬ k = 10 := by omega
  have hbu := bb_u hq
  have hne : ((nI 1 : Int32) = 0) = False := by decide
  refine ⟨am_sI (am_sI (am_sI (am_sI I 67 0 (am_uI (I 67 0) k (nI c))) 68 0 (am_uI (I 68 0) k (nI g))) 69 0 (am_uI (I 69 0) k (nI q))) 12 0 (am_uI (I 12 0) 49 (nI (k + 1))), ?_, ?_, ?_, fun i hi => ?_⟩
  · rw [s268]
    simp (disch := first | omega | assumption) only [s268_0, s268_1, s268_2, s268_5, s268_8, s268_9, s268_10, s268_12, s268_15, s268_18, s268_19, s268_22, s268_24, s268_27, s268_28, s268_29, s268_30, s268_33, s268_34, s268_37, s268_38, s268_39, s268_40, s268_43, s268_44, s268_47, s268_48, s268_49, s268_50, s268_53, s268_54, s268_57, s268_58, s268_59, s268_60, s268_61, s268_64, s268_65, s268_66, s268_69, s268_70, s268_73, nI_le2, nI_lt2, nI_eq2, nI_lt0, nI_0le, nI_0lt, nI_le0, nI_eq0, nI_clamp, nI_add, bu_nI, bb_0, bb_1, rf_s, rf_n, tl_s, tl_n, am_th_some, if_true, if_false, sI_eq, uI_eq, and_self, true_and, and_true, not_false_eq_true, not_true_eq_false, Nat.reduceEqDiff, Nat.reduceLeDiff, Nat.reduceLT, Nat.reduceAdd, Nat.reduceMul, Nat.reduceSub, Nat.zero_add, mr46 hr, mr47 hr, mr48 hr, hf, hw, hne, h4, h1, hk10, hbu, sI_na]
  · refine fr_h (fr_h (fr_h (fr_h fr_rf ?_) ?_) ?_) ?_ <;> · unfold ms_S; omega
  · rw [sI_eq, uI_eq]
  · by_cases e : i = k
    · subst e
      refine ⟨?_, ?_, ?_⟩ <;> simp (disch := first | decide | omega | assumption) only [sI_eq, sI_na, uI_eq, uI_ne, sp_nt, if_true, if_false, Nat.one_ne_zero, show ¬ (2 : Nat) = 0 by decide, show ¬ (2 : Nat) = 1 by decide]
    · obtain ⟨a0, a1, a2⟩ := hA i (by omega)
      refine ⟨?_, ?_, ?_⟩ <;> simp (disch := first | decide | omega | assumption) only [sI_eq, sI_na, uI_eq, uI_ne, sp_nt, if_false, e, a0, a1, a2]
theorem m_setNo (hr : mm_R R) (hD : md_at I f n C P) (hpos : ∀ j, j < f → C j < n ∧ ¬ P 0 (C j) ≤ 0) (hn2 : n ≤ 25) (h : ms_at I k N) (hno : ¬ sp_ss P x y ∨ k = 10) {z : Int32} : am_cal (d + 1) 268 [.ref (am_mk 12 0), .int x, .int y, .int z] I R Q = some (some (.int (-nI 1)), I, R, Q) := by
  obtain ⟨h4, hA⟩ := h
  have hf := m_toldFood (d := d) (Q := Q) (x := x) hr hD hpos hn2
  have hw := m_inW (d := d) (x := y) (I := I) (R := R) (Q := Q)
  have hne : ((nI 1 : Int32) = 0) = False := by decide
  rw [s268]
  by_cases e1 : pp_f P x
  · rw [if_pos e1] at hf
    by_cases e2 : nI 0 ≤ y ∧ y ≤ nI 99
    · rw [if_pos e2] at hw
      have hk10 := hno.resolve_left (fun w => w ⟨e1, e2⟩)
      subst hk10
      simp (disch := first | omega | assumption) only [s268_0, s268_1, s268_2, s268_5, s268_8, s268_9, s268_10, s268_12, s268_15, s268_18, s268_19, s268_22, s268_24, s268_27, s268_28, s268_29, s268_30, s268_33, s268_34, s268_37, s268_38, s268_39, s268_40, s268_43, s268_44, s268_47, s268_48, s268_49, s268_50, s268_53, s268_54, s268_57, s268_58, s268_59, s268_60, s268_61, s268_64, s268_65, s268_66, s268_69, s268_70, s268_73, nI_le2, nI_lt2, nI_eq2, nI_lt0, nI_0le, nI_0lt, nI_le0, nI_eq0, nI_clamp, nI_add, bu_nI, bb_0, bb_1, rf_s, rf_n, tl_s, tl_n, am_th_some, if_true, if_false, sI_eq, uI_eq, and_self, true_and, and_true, not_false_eq_true, not_true_eq_false, Nat.reduceEqDiff, Nat.reduceLeDiff, Nat.reduceLT, Nat.reduceAdd, Nat.reduceMul, Nat.reduceSub, Nat.zero_add, hf, hw, hne, h4]
    · rw [if_neg e2] at hw
      simp (disch := first | omega | assumption) only [s268_0, s268_1, s268_2, s268_5, s268_8, s268_9, s268_10, s268_12, s268_15, s268_18, s268_19, s268_22, s268_24, s268_27, s268_28, s268_29, s268_30, s268_33, s268_34, s268_37, s268_38, s268_39, s268_40, s268_43, s268_44, s268_47, s268_48, s268_49, s268_50, s268_53, s268_54, s268_57, s268_58, s268_59, s268_60, s268_61, s268_64, s268_65, s268_66, s268_69, s268_70, s268_73, nI_le2, nI_lt2, nI_eq2, nI_lt0, nI_0le, nI_0lt, nI_le0, nI_eq0, nI_clamp, nI_add, bu_nI, bb_0, bb_1, rf_s, rf_n, tl_s, tl_n, am_th_some, if_true, if_false, sI_eq, uI_eq, and_self, true_and, and_true, not_false_eq_true, not_true_eq_false, Nat.reduceEqDiff, Nat.reduceLeDiff, Nat.reduceLT, Nat.reduceAdd, Nat.reduceMul, Nat.reduceSub, Nat.zero_add, hf, hw, hne]
  · rw [if_neg e1] at hf
    simp (disch := first | omega | assumption) only [s268_0, s268_1, s268_2, s268_5, s268_8, s268_9, s268_10, s268_12, s268_15, s268_18, s268_19, s268_22, s268_24, s268_27, s268_28, s268_29, s268_30, s268_33, s268_34, s268_37, s268_38, s268_39, s268_40, s268_43, s268_44, s268_47, s268_48, s268_49, s268_50, s268_53, s268_54, s268_57, s268_58, s268_59, s268_60, s268_61, s268_64, s268_65, s268_66, s268_69, s268_70, s268_73, nI_le2, nI_lt2, nI_eq2, nI_lt0, nI_0le, nI_0lt, nI_le0, nI_eq0, nI_clamp, nI_add, bu_nI, bb_0, bb_1, rf_s, rf_n, tl_s, tl_n, am_th_some, if_true, if_false, sI_eq, uI_eq, and_self, true_and, and_true, not_false_eq_true, not_true_eq_false, Nat.reduceEqDiff, Nat.reduceLeDiff, Nat.reduceLT, Nat.reduceAdd, Nat.reduceMul, Nat.reduceSub, Nat.zero_add, hf, hne]
end
