/-! TELL, STIRS, OVEN: both sides. -/
section
variable {d n q u k v : Nat} {I : am_I} {R : am_R} {Q : am_Q} {N : Nat → Nat → Nat} {x : Int32}
theorem c_tellYes (hr : R 11 0 10 = some (am_mk 9 12)) (hc : R 11 0 16 = some (am_mk 8 0)) (nr : nt_R R 0) (h4 : I 9 12 4 = nI n) (hn2 : n ≤ 25) {c : Nat} (hcn : c < n) (h : nt_at I 0 k N) (hk : k < 10) (hu : u ≤ 1) : ∃ J, am_cal (d + 1) 138 [.ref (am_mk 11 0), .int (nI c), .int (nI u)] I R Q = some (some (.int (nI (k + 1))), J, R, Q) ∧ am_fr (na_S 0) I J ∧ nt_at J 0 (k + 1) (sp_nt k N c 0 u) := by
  obtain ⟨J, g1, g2, g3⟩ := c_add (d := d) (Q := Q) (c := c) (g := 0) nr h hk hu
  have hcell := c_isCellX (d := d) (Q := Q) (x := nI c) hr h4 hn2
  rw [if_pos ⟨nI_pos' (by omega), by rw [nI_lt2 (by omega) (by omega)]; exact hcn⟩] at hcell
  have h5 := g3.1
  have hne : ((nI 1 : Int32) = 0) = False := by decide
  refine ⟨J, ?_, g2, g3⟩
  rw [s138]
  simp (disch := first | omega | assumption) only [s138_0, s138_1, s138_2, s138_5, s138_8, s138_9, s138_12, s138_13, s138_14, s138_15, s138_18, s138_21, s138_22, s138_25, s138_28, s138_31, s138_32, nI_le2, nI_lt2, nI_eq2, nI_lt0, nI_0le, nI_0lt, nI_le0, nI_eq0, nI_clamp, nI_add, bu_nI, bb_0, bb_1, rf_s, rf_n, tl_s, tl_n, am_th_some, if_true, if_false, sI_eq, uI_eq, and_self, true_and, and_true, not_false_eq_true, not_true_eq_false, Nat.reduceEqDiff, Nat.reduceLeDiff, Nat.reduceLT, Nat.reduceAdd, Nat.reduceMul, Nat.reduceSub, Nat.zero_add, hcell, hc, g1, h5, hne]
theorem c_tellNo (hr : R 11 0 10 = some (am_mk 9 12)) (hc : R 11 0 16 = some (am_mk 8 0)) (h4 : I 9 12 4 = nI n) (hn2 : n ≤ 25) (h : nt_at I 0 k N) (hno : ¬ (0 ≤ x ∧ x < nI n) ∨ k = 10) {y : Int32} : am_cal (d + 1) 138 [.ref (am_mk 11 0), .int x, .int y] I R Q = some (some (.int (-nI 1)), I, R, Q) := by
  have hcell := c_isCellX (d := d) (Q := Q) (x := x) hr h4 hn2
  have hne : ((nI 1 : Int32) = 0) = False := by decide
  rw [s138]
  by_cases e : 0 ≤ x ∧ x < nI n
  · have hk := hno.resolve_left (fun w => w e)
    subst hk
    have ad := c_addNo (d := d) (R := R) (Q := Q) h (x := x) (y := nI 0) (z := y)
    rw [if_pos e] at hcell
    simp (disch := first | omega | assumption) only [s138_0, s138_1, s138_2, s138_5, s138_8, s138_9, s138_12, s138_13, s138_14, s138_15, s138_18, s138_21, s138_22, s138_25, s138_28, s138_31, s138_32, nI_le2, nI_lt2, nI_eq2, nI_lt0, nI_0le, nI_0lt, nI_le0, nI_eq0, nI_clamp, nI_add, bu_nI, bb_0, bb_1, rf_s, rf_n, tl_s, tl_n, am_th_some, if_true, if_false, sI_eq, uI_eq, and_self, true_and, and_true, not_false_eq_true, not_true_eq_false, Nat.reduceEqDiff, Nat.reduceLeDiff, Nat.reduceLT, Nat.reduceAdd, Nat.reduceMul, Nat.reduceSub, Nat.zero_add, hcell, hc, ad, hne]
  · rw [if_neg e] at hcell
    simp (disch := first | omega | assumption) only [s138_0, s138_1, s138_2, s138_5, s138_8, s138_9, s138_12, s138_13, s138_14, s138_15, s138_18, s138_21, s138_22, s138_25, s138_28, s138_31, s138_32, nI_le2, nI_lt2, nI_eq2, nI_lt0, nI_0le, nI_0lt, nI_le0, nI_eq0, nI_clamp, nI_add, bu_nI, bb_0, bb_1, rf_s, rf_n, tl_s, tl_n, am_th_some, if_true, if_false, sI_eq, uI_eq, and_self, true_and, and_true, not_false_eq_true, not_true_eq_false, Nat.reduceEqDiff, Nat.reduceLeDiff, Nat.reduceLT, Nat.reduceAdd, Nat.reduceMul, Nat.reduceSub, Nat.zero_add, hcell]
theorem m_tellYes (hr : mm_R R) (hn : I 12 0 30 = nI n) (hn2 : n ≤ 25) {c : Nat} (hcn : c < n) (h : mn_at I k N) (hk : k < 10) (hu : u ≤ 1) : ∃ J, am_cal (d + 2) 253 [.ref (am_mk 12 0), .int (nI c), .int (nI u)] I R Q = some (some (.int (nI (k + 1))), J, R, Q) ∧ am_fr mt_S I J ∧ mn_at J (k + 1) (sp_nt k N c 0 u) := by
  obtain ⟨h4, hA⟩ := h
  have hcell := m_isCell (d := d) (R := R) (Q := Q) (x := nI c) hn hn2
  rw [if_pos ⟨nI_pos' (by omega), by rw [nI_lt2 (by omega) (by omega)]; exact hcn⟩] at hcell
  have h1 : ¬ k = 10 := by omega
  have hbu := bb_u hu
  refine ⟨am_sI (am_sI (am_sI I 65 0 (am_uI (I 65 0) k (nI c))) 66 0 (am_uI (I 66 0) k (nI u))) 12 0 (am_uI (I 12 0) 43 (nI (k + 1))), ?_, ?_, ?_, fun i hi => ?_⟩
  · rw [s253]
    simp (disch := first | omega | assumption) only [s253_0, s253_1, s253_2, s253_5, s253_8, s253_9, s253_12, s253_14, s253_17, s253_18, s253_19, s253_20, s253_23, s253_24, s253_27, s253_28, s253_29, s253_30, s253_33, s253_34, s253_37, s253_38, s253_39, s253_40, s253_41, s253_44, s253_45, s253_46, s253_49, s253_50, s253_53, nI_le2, nI_lt2, nI_eq2, nI_lt0, nI_0le, nI_0lt, nI_le0, nI_eq0, nI_clamp, nI_add, bu_nI, bb_0, bb_1, rf_s, rf_n, tl_s, tl_n, am_th_some, if_true, if_false, sI_eq, uI_eq, and_self, true_and, and_true, not_false_eq_true, not_true_eq_false, Nat.reduceEqDiff, Nat.reduceLeDiff, Nat.reduceLT, Nat.reduceAdd, Nat.reduceMul, Nat.reduceSub, Nat.zero_add, mr41 hr, mr42 hr, hcell, h4, h1, hk, hbu, sI_na]
  · refine fr_h (fr_h (fr_h fr_rf ?_) ?_) ?_ <;> · unfold mt_S; omega
  · rw [sI_eq, uI_eq]
  · by_cases e : i = k
    · subst e
      refine ⟨?_, ?_⟩ <;> simp (disch := first | decide | omega | assumption) only [sI_eq, sI_na, uI_eq, uI_ne, sp_nt, if_true, if_false, show ¬ (2 : Nat) = 0 by decide, show ¬ (2 : Nat) = 1 by decide]
    · obtain ⟨a0, a1⟩ := hA i (by omega)
      refine ⟨?_, ?_⟩ <;> simp (disch := first | decide | omega | assumption) only [sI_eq, sI_na, uI_eq, uI_ne, sp_nt, if_false, e, a0, a1]
theorem m_tellNo (hr : mm_R R) (hn : I 12 0 30 = nI n) (hn2 : n ≤ 25) (h : mn_at I k N) (hno : ¬ (0 ≤ x ∧ x < nI n) ∨ k = 10) {y : Int32} : am_cal (d + 2) 253 [.ref (am_mk 12 0), .int x, .int y] I R Q = some (some (.int (-nI 1)), I, R, Q) := by
  obtain ⟨h4, hA⟩ := h
  have hcell := m_isCell (d := d) (R := R) (Q := Q) (x := x) hn hn2
  rw [s253]
  by_cases e : 0 ≤ x ∧ x < nI n
  · have hk := hno.resolve_left (fun w => w e)
    subst hk
    rw [if_pos e] at hcell
    simp (disch := first | omega | assumption) only [s253_0, s253_1, s253_2, s253_5, s253_8, s253_9, s253_12, s253_14, s253_17, s253_18, s253_19, s253_20, s253_23, s253_24, s253_27, s253_28, s253_29, s253_30, s253_33, s253_34, s253_37, s253_38, s253_39, s253_40, s253_41, s253_44, s253_45, s253_46, s253_49, s253_50, s253_53, nI_le2, nI_lt2, nI_eq2, nI_lt0, nI_0le, nI_0lt, nI_le0, nI_eq0, nI_clamp, nI_add, bu_nI, bb_0, bb_1, rf_s, rf_n, tl_s, tl_n, am_th_some, if_true, if_false, sI_eq, uI_eq, and_self, true_and, and_true, not_false_eq_true, not_true_eq_false, Nat.reduceEqDiff, Nat.reduceLeDiff, Nat.reduceLT, Nat.reduceAdd, Nat.reduceMul, Nat.reduceSub, Nat.zero_add, hcell, h4]
  · rw [if_neg e] at hcell
    simp (disch := first | omega | assumption) only [s253_0, s253_1, s253_2, s253_5, s253_8, s253_9, s253_12, s253_14, s253_17, s253_18, s253_19, s253_20, s253_23, s253_24, s253_27, s253_28, s253_29, s253_30, s253_33, s253_34, s253_37, s253_38, s253_39, s253_40, s253_41, s253_44, s253_45, s253_46, s253_49, s253_50, s253_53, nI_le2, nI_lt2, nI_eq2, nI_lt0, nI_0le, nI_0lt, nI_le0, nI_eq0, nI_clamp, nI_add, bu_nI, bb_0, bb_1, rf_s, rf_n, tl_s, tl_n, am_th_some, if_true, if_false, sI_eq, uI_eq, and_self, true_and, and_true, not_false_eq_true, not_true_eq_false, Nat.reduceEqDiff, Nat.reduceLeDiff, Nat.reduceLT, Nat.reduceAdd, Nat.reduceMul, Nat.reduceSub, Nat.zero_add, hcell]
theorem c_stirs {y : Int32} (hy : I 11 0 6 = y) : ∃ J, am_cal (d + 1) 121 [.ref (am_mk 11 0), .int x] I R Q = some (some (.int (if (nI 0 ≤ x ∧ x ≤ nI 9) ∧ ¬ x = y then nI 1 else nI 0)), J, R, Q) ∧ am_fr (fun a _ j => a = 11 ∧ j = 6) I J ∧ J 11 0 6 = if (nI 0 ≤ x ∧ x ≤ nI 9) ∧ ¬ x = y then x else y := by
  have w := c_within (d := d) (x := x) (a := nI 0) (b := nI 9) (I := I) (R := R) (Q := Q)
  by_cases e : nI 0 ≤ x ∧ x ≤ nI 9
  · rw [if_pos e] at w
    by_cases e2 : x = y
    · have no : ¬ ((nI 0 ≤ x ∧ x ≤ nI 9) ∧ ¬ x = y) := fun w => w.2 e2
      refine ⟨I, ?_, fr_rf, by rw [if_neg no]; exact hy⟩
      have e3 := eq_true e2
      rw [if_neg no, s121]
      simp (disch := first | omega | assumption) only [s121_0, s121_1, s121_2, s121_4, s121_7, s121_10, s121_11, s121_12, s121_15, s121_18, s121_19, s121_20, s121_21, s121_22, s121_25, s121_26, nI_le2, nI_lt2, nI_eq2, nI_lt0, nI_0le, nI_0lt, nI_le0, nI_eq0, nI_clamp, nI_add, bu_nI, bb_0, bb_1, rf_s, rf_n, tl_s, tl_n, am_th_some, if_true, if_false, sI_eq, uI_eq, and_self, true_and, and_true, not_false_eq_true, not_true_eq_false, Nat.reduceEqDiff, Nat.reduceLeDiff, Nat.reduceLT, Nat.reduceAdd, Nat.reduceMul, Nat.reduceSub, Nat.zero_add, w, hy, e3]
    · refine ⟨am_sI I 11 0 (am_uI (I 11 0) 6 x), ?_, fr_s fr_rf ⟨rfl, rfl⟩, by rw [sI_eq, uI_eq, if_pos ⟨e, e2⟩]⟩
      rw [if_pos ⟨e, e2⟩, s121]
      simp (disch := first | omega | assumption) only [s121_0, s121_1, s121_2, s121_4, s121_7, s121_10, s121_11, s121_12, s121_15, s121_18, s121_19, s121_20, s121_21, s121_22, s121_25, s121_26, nI_le2, nI_lt2, nI_eq2, nI_lt0, nI_0le, nI_0lt, nI_le0, nI_eq0, nI_clamp, nI_add, bu_nI, bb_0, bb_1, rf_s, rf_n, tl_s, tl_n, am_th_some, if_true, if_false, sI_eq, uI_eq, and_self, true_and, and_true, not_false_eq_true, not_true_eq_false, Nat.reduceEqDiff, Nat.reduceLeDiff, Nat.reduceLT, Nat.reduceAdd, Nat.reduceMul, Nat.reduceSub, Nat.zero_add, w, hy, e2]
  · rw [if_neg e] at w
    have no : ¬ ((nI 0 ≤ x ∧ x ≤ nI 9) ∧ ¬ x = y) := fun w => e w.1
    refine ⟨I, ?_, fr_rf, by rw [if_neg no]; exact hy⟩
    rw [if_neg no, s121]
    simp (disch := first | omega | assumption) only [s121_0, s121_1, s121_2, s121_4, s121_7, s121_10, s121_11, s121_12, s121_15, s121_18, s121_19, s121_20, s121_21, s121_22, s121_25, s121_26, nI_le2, nI_lt2, nI_eq2, nI_lt0, nI_0le, nI_0lt, nI_le0, nI_eq0, nI_clamp, nI_add, bu_nI, bb_0, bb_1, rf_s, rf_n, tl_s, tl_n, am_th_some, if_true, if_false, sI_eq, uI_eq, and_self, true_and, and_true, not_false_eq_true, not_true_eq_false, Nat.reduceEqDiff, Nat.reduceLeDiff, Nat.reduceLT, Nat.reduceAdd, Nat.reduceMul, Nat.reduceSub, Nat.zero_add, w]
theorem m_stirs {y : Int32} (hy : I 12 0 34 = y) : ∃ J, am_cal (d + 1) 232 [.ref (am_mk 12 0), .int x] I R Q = some (some (.int (if (nI 0 ≤ x ∧ x ≤ nI 9) ∧ ¬ x = y then nI 1 else nI 0)), J, R, Q) ∧ am_fr (fun a _ j => a = 12 ∧ j = 34) I J ∧ J 12 0 34 = if (nI 0 ≤ x ∧ x ≤ nI 9) ∧ ¬ x = y then x else y := by
  have w := m_in (d := d) (v := x) (lo := nI 0) (hi := nI 9) (I := I) (R := R) (Q := Q)
  by_cases e : nI 0 ≤ x ∧ x ≤ nI 9
  · rw [if_neg (Int32.not_lt.mpr e.1), if_neg (Int32.not_lt.mpr e.2)] at w
    by_cases e2 : x = y
    · have no : ¬ ((nI 0 ≤ x ∧ x ≤ nI 9) ∧ ¬ x = y) := fun w => w.2 e2
      refine ⟨I, ?_, fr_rf, by rw [if_neg no]; exact hy⟩
      have e3 := eq_true e2
      rw [if_neg no, s232]
      simp (disch := first | omega | assumption) only [s232_0, s232_1, s232_2, s232_4, s232_7, s232_10, s232_11, s232_12, s232_15, s232_18, s232_19, s232_20, s232_21, s232_22, s232_25, s232_26, nI_le2, nI_lt2, nI_eq2, nI_lt0, nI_0le, nI_0lt, nI_le0, nI_eq0, nI_clamp, nI_add, bu_nI, bb_0, bb_1, rf_s, rf_n, tl_s, tl_n, am_th_some, if_true, if_false, sI_eq, uI_eq, and_self, true_and, and_true, not_false_eq_true, not_true_eq_false, Nat.reduceEqDiff, Nat.reduceLeDiff, Nat.reduceLT, Nat.reduceAdd, Nat.reduceMul, Nat.reduceSub, Nat.zero_add, w, hy, e3]
    · refine ⟨am_sI I 12 0 (am_uI (I 12 0) 34 x), ?_, fr_s fr_rf ⟨rfl, rfl⟩, by rw [sI_eq, uI_eq, if_pos ⟨e, e2⟩]⟩
      rw [if_pos ⟨e, e2⟩, s232]
      simp (disch := first | omega | assumption) only [s232_0, s232_1, s232_2, s232_4, s232_7, s232_10, s232_11, s232_12, s232_15, s232_18, s232_19, s232_20, s232_21, s232_22, s232_25, s232_26, nI_le2, nI_lt2, nI_eq2, nI_lt0, nI_0le, nI_0lt, nI_le0, nI_eq0, nI_clamp, nI_add, bu_nI, bb_0, bb_1, rf_s, rf_n, tl_s, tl_n, am_th_some, if_true, if_false, sI_eq, uI_eq, and_self, true_and, and_true, not_false_eq_true, not_true_eq_false, Nat.reduceEqDiff, Nat.reduceLeDiff, Nat.reduceLT, Nat.reduceAdd, Nat.reduceMul, Nat.reduceSub, Nat.zero_add, w, hy, e2]
  · have w' : am_cal d 156 [.int x, .int (nI 0), .int (nI 9)] I R Q = some (some (.int (nI 0)), I, R, Q) := by
      rw [w]
      by_cases e1 : nI 0 ≤ x
      · rw [if_neg (Int32.not_lt.mpr e1), if_pos (Int32.not_le.mp (fun q => e ⟨e1, q⟩))]
      · rw [if_pos (Int32.not_le.mp e1)]
    have no : ¬ ((nI 0 ≤ x ∧ x ≤ nI 9) ∧ ¬ x = y) := fun w => e w.1
    refine ⟨I, ?_, fr_rf, by rw [if_neg no]; exact hy⟩
    rw [if_neg no, s232]
    simp (disch := first | omega | assumption) only [s232_0, s232_1, s232_2, s232_4, s232_7, s232_10, s232_11, s232_12, s232_15, s232_18, s232_19, s232_20, s232_21, s232_22, s232_25, s232_26, nI_le2, nI_lt2, nI_eq2, nI_lt0, nI_0le, nI_0lt, nI_le0, nI_eq0, nI_clamp, nI_add, bu_nI, bb_0, bb_1, rf_s, rf_n, tl_s, tl_n, am_th_some, if_true, if_false, sI_eq, uI_eq, and_self, true_and, and_true, not_false_eq_true, not_true_eq_false, Nat.reduceEqDiff, Nat.reduceLeDiff, Nat.reduceLT, Nat.reduceAdd, Nat.reduceMul, Nat.reduceSub, Nat.zero_add, w']
end
