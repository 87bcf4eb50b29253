/-! Small ones: bounds, what was refused; both sides. -/
/-- how often each reason was -/
def sp_re (F : Nat → Int32) (k : Nat) : Nat → Int32 := fun i => if i = k then F i + nI 1 else F i
def rc_at (I : am_I) (F : Nat → Int32) : Prop := ∀ i, i < 4 → I 30 0 i = F i
def rm_at (I : am_I) (F : Nat → Int32) : Prop := ∀ i, i < 4 → I 61 0 i = F i
section
variable {d n q u : Nat} {I : am_I} {R : am_R} {Q : am_Q} {F : Nat → Int32} {x a b : Int32}
theorem c_within : am_cal d 108 [.int x, .int a, .int b] I R Q = some (some (.int (if a ≤ x ∧ x ≤ b then nI 1 else nI 0)), I, R, Q) := by
  rw [s108]
  by_cases e1 : a ≤ x
  · have e1' : ¬ x < a := Int32.not_lt.mpr e1
    by_cases e2 : x ≤ b
    · have e2' : ¬ b < x := Int32.not_lt.mpr e2
      rw [if_pos ⟨e1, e2⟩]
      simp (disch := first | omega | assumption) only [s108_0, s108_1, s108_2, s108_5, s108_6, s108_7, s108_10, s108_11, s108_14, s108_15, nI_le2, nI_lt2, nI_eq2, nI_lt0, nI_0le, nI_0lt, nI_le0, nI_eq0, nI_clamp, nI_add, bu_nI, bb_0, bb_1, rf_s, rf_n, tl_s, tl_n, am_th_some, if_true, if_false, sI_eq, uI_eq, and_self, true_and, and_true, not_false_eq_true, not_true_eq_false, Nat.reduceEqDiff, Nat.reduceLeDiff, Nat.reduceLT, Nat.reduceAdd, Nat.reduceMul, Nat.reduceSub, Nat.zero_add, e1, e2, e1', e2']
    · have e2' : b < x := Int32.not_le.mp e2
      rw [if_neg (fun w => e2 w.2)]
      simp (disch := first | omega | assumption) only [s108_0, s108_1, s108_2, s108_5, s108_6, s108_7, s108_10, s108_11, s108_14, s108_15, nI_le2, nI_lt2, nI_eq2, nI_lt0, nI_0le, nI_0lt, nI_le0, nI_eq0, nI_clamp, nI_add, bu_nI, bb_0, bb_1, rf_s, rf_n, tl_s, tl_n, am_th_some, if_true, if_false, sI_eq, uI_eq, and_self, true_and, and_true, not_false_eq_true, not_true_eq_false, Nat.reduceEqDiff, Nat.reduceLeDiff, Nat.reduceLT, Nat.reduceAdd, Nat.reduceMul, Nat.reduceSub, Nat.zero_add, e1, e2, e1', e2']
  · have e1' : x < a := Int32.not_le.mp e1
    rw [if_neg (fun w => e1 w.1)]
    simp (disch := first | omega | assumption) only [s108_0, s108_1, s108_2, s108_5, s108_6, s108_7, s108_10, s108_11, s108_14, s108_15, nI_le2, nI_lt2, nI_eq2, nI_lt0, nI_0le, nI_0lt, nI_le0, nI_eq0, nI_clamp, nI_add, bu_nI, bb_0, bb_1, rf_s, rf_n, tl_s, tl_n, am_th_some, if_true, if_false, sI_eq, uI_eq, and_self, true_and, and_true, not_false_eq_true, not_true_eq_false, Nat.reduceEqDiff, Nat.reduceLeDiff, Nat.reduceLT, Nat.reduceAdd, Nat.reduceMul, Nat.reduceSub, Nat.zero_add, e1, e1']
theorem c_isCellX (hr : R 11 0 10 = some (am_mk 9 12)) (h4 : I 9 12 4 = nI n) (hn2 : n ≤ 25) : am_cal d 105 [.ref (am_mk 11 0), .int x] I R Q = some (some (.int (if 0 ≤ x ∧ x < nI n then nI 1 else nI 0)), I, R, Q) := by
  rw [s105]
  by_cases e0 : x < 0
  · rw [if_neg (fun w => Int32.not_le.mpr e0 w.1)]
    simp (disch := first | omega | assumption) only [s105_0, s105_1, s105_4, s105_5, s105_6, s105_9, s105_12, s105_15, s105_16, s105_18, s105_21, s105_22, s105_25, s105_26, nI_le2, nI_lt2, nI_eq2, nI_lt0, nI_0le, nI_0lt, nI_le0, nI_eq0, nI_clamp, nI_add, bu_nI, bb_0, bb_1, rf_s, rf_n, tl_s, tl_n, am_th_some, if_true, if_false, sI_eq, uI_eq, and_self, true_and, and_true, not_false_eq_true, not_true_eq_false, Nat.reduceEqDiff, Nat.reduceLeDiff, Nat.reduceLT, Nat.reduceAdd, Nat.reduceMul, Nat.reduceSub, Nat.zero_add, e0]
  · obtain ⟨j, hj, rfl⟩ := nI_of e0
    by_cases e1 : j < n
    · have e2 : ¬ n ≤ j := by omega
      have e3 : ¬ 25 ≤ j := by omega
      rw [if_pos ⟨nI_pos' hj, by rw [nI_lt2 hj (by omega)]; exact e1⟩]
      simp (disch := first | omega | assumption) only [s105_0, s105_1, s105_4, s105_5, s105_6, s105_9, s105_12, s105_15, s105_16, s105_18, s105_21, s105_22, s105_25, s105_26, nI_le2, nI_lt2, nI_eq2, nI_lt0, nI_0le, nI_0lt, nI_le0, nI_eq0, nI_clamp, nI_add, bu_nI, bb_0, bb_1, rf_s, rf_n, tl_s, tl_n, am_th_some, if_true, if_false, sI_eq, uI_eq, and_self, true_and, and_true, not_false_eq_true, not_true_eq_false, Nat.reduceEqDiff, Nat.reduceLeDiff, Nat.reduceLT, Nat.reduceAdd, Nat.reduceMul, Nat.reduceSub, Nat.zero_add, hr, h4, e0, e2, e3]
    · have e2 : n ≤ j := by omega
      rw [if_neg (fun w => by have := w.2; rw [nI_lt2 hj (by omega)] at this; exact e1 this)]
      simp (disch := first | omega | assumption) only [s105_0, s105_1, s105_4, s105_5, s105_6, s105_9, s105_12, s105_15, s105_16, s105_18, s105_21, s105_22, s105_25, s105_26, nI_le2, nI_lt2, nI_eq2, nI_lt0, nI_0le, nI_0lt, nI_le0, nI_eq0, nI_clamp, nI_add, bu_nI, bb_0, bb_1, rf_s, rf_n, tl_s, tl_n, am_th_some, if_true, if_false, sI_eq, uI_eq, and_self, true_and, and_true, not_false_eq_true, not_true_eq_false, Nat.reduceEqDiff, Nat.reduceLeDiff, Nat.reduceLT, Nat.reduceAdd, Nat.reduceMul, Nat.reduceSub, Nat.zero_add, hr, h4, e0, e2]
theorem c_isPower (hr : R 11 0 8 = some (am_mk 2 0)) (hk : kk_R R u) (hq : I 14 u 2 = nI q) (hq9 : q ≤ 9) : am_cal d 106 [.ref (am_mk 11 0), .int x] I R Q = some (some (.int (if 0 ≤ x ∧ x ≤ nI q then nI 1 else nI 0)), I, R, Q) := by
  obtain ⟨k0, k1, k2, k3, k4, k5⟩ := hk
  rw [s106]
  by_cases e0 : x < 0
  · rw [if_neg (fun w => Int32.not_le.mpr e0 w.1)]
    simp (disch := first | omega | assumption) only [s106_0, s106_1, s106_4, s106_5, s106_6, s106_9, s106_12, s106_15, s106_16, s106_17, s106_20, s106_21, s106_24, s106_25, nI_le2, nI_lt2, nI_eq2, nI_lt0, nI_0le, nI_0lt, nI_le0, nI_eq0, nI_clamp, nI_add, bu_nI, bb_0, bb_1, rf_s, rf_n, tl_s, tl_n, am_th_some, if_true, if_false, sI_eq, uI_eq, and_self, true_and, and_true, not_false_eq_true, not_true_eq_false, Nat.reduceEqDiff, Nat.reduceLeDiff, Nat.reduceLT, Nat.reduceAdd, Nat.reduceMul, Nat.reduceSub, Nat.zero_add, e0]
  · obtain ⟨j, hj, rfl⟩ := nI_of e0
    by_cases e1 : j ≤ q
    · have e2 : ¬ q < j := by omega
      rw [if_pos ⟨nI_pos' hj, by rw [nI_le2 hj (by omega)]; exact e1⟩]
      simp (disch := first | omega | assumption) only [s106_0, s106_1, s106_4, s106_5, s106_6, s106_9, s106_12, s106_15, s106_16, s106_17, s106_20, s106_21, s106_24, s106_25, nI_le2, nI_lt2, nI_eq2, nI_lt0, nI_0le, nI_0lt, nI_le0, nI_eq0, nI_clamp, nI_add, bu_nI, bb_0, bb_1, rf_s, rf_n, tl_s, tl_n, am_th_some, if_true, if_false, sI_eq, uI_eq, and_self, true_and, and_true, not_false_eq_true, not_true_eq_false, Nat.reduceEqDiff, Nat.reduceLeDiff, Nat.reduceLT, Nat.reduceAdd, Nat.reduceMul, Nat.reduceSub, Nat.zero_add, hr, k0, k3, hq, e0, e2]
    · have e2 : q < j := by omega
      rw [if_neg (fun w => by have := w.2; rw [nI_le2 hj (by omega)] at this; exact e1 this)]
      simp (disch := first | omega | assumption) only [s106_0, s106_1, s106_4, s106_5, s106_6, s106_9, s106_12, s106_15, s106_16, s106_17, s106_20, s106_21, s106_24, s106_25, nI_le2, nI_lt2, nI_eq2, nI_lt0, nI_0le, nI_0lt, nI_le0, nI_eq0, nI_clamp, nI_add, bu_nI, bb_0, bb_1, rf_s, rf_n, tl_s, tl_n, am_th_some, if_true, if_false, sI_eq, uI_eq, and_self, true_and, and_true, not_false_eq_true, not_true_eq_false, Nat.reduceEqDiff, Nat.reduceLeDiff, Nat.reduceLT, Nat.reduceAdd, Nat.reduceMul, Nat.reduceSub, Nat.zero_add, hr, k0, k3, hq, e0, e2]
theorem m_isPower (hr : mm_R R) (hn : I 12 0 30 = nI n) (hn2 : n ≤ 25) (hn1 : 1 ≤ n) (hq : I 56 0 2 = nI q) (hq9 : q ≤ 9) : am_cal (d + 1) 205 [.ref (am_mk 12 0), .int x] I R Q = some (some (.int (if 0 ≤ x ∧ x ≤ nI q then nI 1 else nI 0)), I, R, Q) := by
  have hl : ¬ I 12 0 30 ≤ 0 := by rw [hn, nI_le0 (by omega)]; omega
  have z := nI_0
  rw [s205]
  by_cases e0 : x < 0
  · have e0' : x < nI 0 := by rw [z]; exact e0
    rw [if_neg (fun w => Int32.not_le.mpr e0 w.1)]
    simp (disch := first | omega | assumption) only [s205_0, s205_1, s205_4, s205_7, s205_8, s205_9, s205_10, s205_13, s205_14, s205_15, s205_18, s205_21, s205_22, s205_25, s205_26, nI_le2, nI_lt2, nI_eq2, nI_lt0, nI_0le, nI_0lt, nI_le0, nI_eq0, nI_clamp, nI_add, bu_nI, bb_0, bb_1, rf_s, rf_n, tl_s, tl_n, am_th_some, if_true, if_false, sI_eq, uI_eq, and_self, true_and, and_true, not_false_eq_true, not_true_eq_false, Nat.reduceEqDiff, Nat.reduceLeDiff, Nat.reduceLT, Nat.reduceAdd, Nat.reduceMul, Nat.reduceSub, Nat.zero_add, mr24 hr, m_isLunch (d := d), hl, m_in (d := d), hq, e0']
  · obtain ⟨j, hj, rfl⟩ := nI_of e0
    have e0' : ¬ nI j < nI 0 := by rw [z]; exact e0
    by_cases e1 : j ≤ q
    · have e2 : ¬ q < j := by omega
      rw [if_pos ⟨nI_pos' hj, by rw [nI_le2 hj (by omega)]; exact e1⟩]
      simp (disch := first | omega | assumption) only [s205_0, s205_1, s205_4, s205_7, s205_8, s205_9, s205_10, s205_13, s205_14, s205_15, s205_18, s205_21, s205_22, s205_25, s205_26, nI_le2, nI_lt2, nI_eq2, nI_lt0, nI_0le, nI_0lt, nI_le0, nI_eq0, nI_clamp, nI_add, bu_nI, bb_0, bb_1, rf_s, rf_n, tl_s, tl_n, am_th_some, if_true, if_false, sI_eq, uI_eq, and_self, true_and, and_true, not_false_eq_true, not_true_eq_false, Nat.reduceEqDiff, Nat.reduceLeDiff, Nat.reduceLT, Nat.reduceAdd, Nat.reduceMul, Nat.reduceSub, Nat.zero_add, mr24 hr, m_isLunch (d := d), hl, m_in (d := d), hq, e0', e2]
    · have e2 : q < j := by omega
      rw [if_neg (fun w => by have := w.2; rw [nI_le2 hj (by omega)] at this; exact e1 this)]
      simp (disch := first | omega | assumption) only [s205_0, s205_1, s205_4, s205_7, s205_8, s205_9, s205_10, s205_13, s205_14, s205_15, s205_18, s205_21, s205_22, s205_25, s205_26, nI_le2, nI_lt2, nI_eq2, nI_lt0, nI_0le, nI_0lt, nI_le0, nI_eq0, nI_clamp, nI_add, bu_nI, bb_0, bb_1, rf_s, rf_n, tl_s, tl_n, am_th_some, if_true, if_false, sI_eq, uI_eq, and_self, true_and, and_true, not_false_eq_true, not_true_eq_false, Nat.reduceEqDiff, Nat.reduceLeDiff, Nat.reduceLT, Nat.reduceAdd, Nat.reduceMul, Nat.reduceSub, Nat.zero_add, mr24 hr, m_isLunch (d := d), hl, m_in (d := d), hq, e0', e2]
theorem c_refuse (hr : R 11 0 7 = some (am_mk 30 0)) (h : rc_at I F) {k : Nat} (hk : k < 4) : ∃ J, am_cal d 113 [.ref (am_mk 11 0), .int (nI k)] I R Q = some (some (.int (-nI 1)), J, R, Q) ∧ am_fr (fun a _ _ => a = 30) I J ∧ rc_at J (sp_re F k) := by
  have e1 : ¬ 4 ≤ k := by omega
  refine ⟨am_sI I 30 0 (am_uI (I 30 0) k (F k + nI 1)), ?_, fr_s fr_rf rfl, fun i hi => ?_⟩
  · have e := h k hk
    rw [s113]
    simp (disch := first | omega | assumption) only [s113_0, s113_1, s113_4, s113_5, s113_6, s113_9, s113_10, s113_13, s113_14, s113_17, s113_18, s113_19, s113_20, s113_21, s113_22, s113_23, s113_24, nI_le2, nI_lt2, nI_eq2, nI_lt0, nI_0le, nI_0lt, nI_le0, nI_eq0, nI_clamp, nI_add, bu_nI, bb_0, bb_1, rf_s, rf_n, tl_s, tl_n, am_th_some, if_true, if_false, sI_eq, uI_eq, and_self, true_and, and_true, not_false_eq_true, not_true_eq_false, Nat.reduceEqDiff, Nat.reduceLeDiff, Nat.reduceLT, Nat.reduceAdd, Nat.reduceMul, Nat.reduceSub, Nat.zero_add, hr, e1, hk, e]
  · rw [sI_eq, sp_re]
    by_cases e : i = k
    · rw [e, uI_eq, if_pos rfl]
    · rw [uI_ne e, if_neg e]; exact h i hi
theorem m_refused (hr : mm_R R) (h : rm_at I F) {k : Nat} (hk : k < 4) : ∃ J, am_cal d 225 [.ref (am_mk 12 0), .int (nI k)] I R Q = some (some (.int (nI 1)), J, R, Q) ∧ am_fr (fun a _ _ => a = 61) I J ∧ rm_at J (sp_re F k) := by
  have e1 : (nI k = -nI 1) = False := eq_false (m1_ne (by omega))
  refine ⟨am_sI I 61 0 (am_uI (I 61 0) k (F k + nI 1)), ?_, fr_s fr_rf rfl, fun i hi => ?_⟩
  · have e := h k hk
    rw [s225]
    simp (disch := first | omega | assumption) only [s225_0, s225_1, s225_2, s225_5, s225_6, s225_9, s225_10, s225_11, s225_12, s225_13, s225_14, s225_15, s225_16, s225_17, s225_20, s225_21, s225_24, s225_25, nI_le2, nI_lt2, nI_eq2, nI_lt0, nI_0le, nI_0lt, nI_le0, nI_eq0, nI_clamp, nI_add, bu_nI, bb_0, bb_1, rf_s, rf_n, tl_s, tl_n, am_th_some, if_true, if_false, sI_eq, uI_eq, and_self, true_and, and_true, not_false_eq_true, not_true_eq_false, Nat.reduceEqDiff, Nat.reduceLeDiff, Nat.reduceLT, Nat.reduceAdd, Nat.reduceMul, Nat.reduceSub, Nat.zero_add, mr32 hr, e1, hk, e]
  · rw [sI_eq, sp_re]
    by_cases e : i = k
    · rw [e, uI_eq, if_pos rfl]
    · rw [uI_ne e, if_neg e]; exact h i hi
theorem m_notRefused : am_cal d 225 [.ref (am_mk 12 0), .int (-nI 1)] I R Q = some (some (.int (nI 0)), I, R, Q) := by
  rw [s225]
  simp (disch := first | omega | assumption) only [s225_0, s225_1, s225_2, s225_5, s225_6, s225_9, s225_10, s225_11, s225_12, s225_13, s225_14, s225_15, s225_16, s225_17, s225_20, s225_21, s225_24, s225_25, nI_le2, nI_lt2, nI_eq2, nI_lt0, nI_0le, nI_0lt, nI_le0, nI_eq0, nI_clamp, nI_add, bu_nI, bb_0, bb_1, rf_s, rf_n, tl_s, tl_n, am_th_some, if_true, if_false, sI_eq, uI_eq, and_self, true_and, and_true, not_false_eq_true, not_true_eq_false, Nat.reduceEqDiff, Nat.reduceLeDiff, Nat.reduceLT, Nat.reduceAdd, Nat.reduceMul, Nat.reduceSub, Nat.zero_add]
theorem c_status (hr : R 11 0 7 = some (am_mk 30 0)) (h : rc_at I F) : am_cal d 125 [.ref (am_mk 11 0), .int x] I R Q = some (some (.int (if 0 ≤ x ∧ x ≤ nI 3 then F x.toNatClampNeg else -nI 1)), I, R, Q) := by
  rw [s125]
  by_cases e0 : x < 0
  · rw [if_neg (fun w => Int32.not_le.mpr e0 w.1)]
    simp (disch := first | omega | assumption) only [s125_0, s125_1, s125_4, s125_5, s125_6, s125_9, s125_10, s125_13, s125_14, s125_17, s125_18, s125_21, s125_22, s125_23, nI_le2, nI_lt2, nI_eq2, nI_lt0, nI_0le, nI_0lt, nI_le0, nI_eq0, nI_clamp, nI_add, bu_nI, bb_0, bb_1, rf_s, rf_n, tl_s, tl_n, am_th_some, if_true, if_false, sI_eq, uI_eq, and_self, true_and, and_true, not_false_eq_true, not_true_eq_false, Nat.reduceEqDiff, Nat.reduceLeDiff, Nat.reduceLT, Nat.reduceAdd, Nat.reduceMul, Nat.reduceSub, Nat.zero_add, e0]
  · obtain ⟨j, hj, rfl⟩ := nI_of e0
    by_cases e1 : j < 4
    · have e := h j e1
      rw [if_pos ⟨nI_pos' hj, by rw [nI_le2 hj (by decide)]; omega⟩, nI_clamp hj]
      simp (disch := first | omega | assumption) only [s125_0, s125_1, s125_4, s125_5, s125_6, s125_9, s125_10, s125_13, s125_14, s125_17, s125_18, s125_21, s125_22, s125_23, nI_le2, nI_lt2, nI_eq2, nI_lt0, nI_0le, nI_0lt, nI_le0, nI_eq0, nI_clamp, nI_add, bu_nI, bb_0, bb_1, rf_s, rf_n, tl_s, tl_n, am_th_some, if_true, if_false, sI_eq, uI_eq, and_self, true_and, and_true, not_false_eq_true, not_true_eq_false, Nat.reduceEqDiff, Nat.reduceLeDiff, Nat.reduceLT, Nat.reduceAdd, Nat.reduceMul, Nat.reduceSub, Nat.zero_add, hr, e0, e1, e]
    · rw [if_neg (fun w => by have := w.2; rw [nI_le2 hj (by decide)] at this; omega)]
      simp (disch := first | omega | assumption) only [s125_0, s125_1, s125_4, s125_5, s125_6, s125_9, s125_10, s125_13, s125_14, s125_17, s125_18, s125_21, s125_22, s125_23, nI_le2, nI_lt2, nI_eq2, nI_lt0, nI_0le, nI_0lt, nI_le0, nI_eq0, nI_clamp, nI_add, bu_nI, bb_0, bb_1, rf_s, rf_n, tl_s, tl_n, am_th_some, if_true, if_false, sI_eq, uI_eq, and_self, true_and, and_true, not_false_eq_true, not_true_eq_false, Nat.reduceEqDiff, Nat.reduceLeDiff, Nat.reduceLT, Nat.reduceAdd, Nat.reduceMul, Nat.reduceSub, Nat.zero_add, hr, e0, e1]
theorem m_status (hr : mm_R R) (h : rm_at I F) : am_cal (d + 1) 235 [.ref (am_mk 12 0), .int x] I R Q = some (some (.int (if 0 ≤ x ∧ x ≤ nI 3 then F x.toNatClampNeg else -nI 1)), I, R, Q) := by
  have z := nI_0
  rw [s235]
  by_cases e0 : x < 0
  · have e0' : x < nI 0 := by rw [z]; exact e0
    rw [if_neg (fun w => Int32.not_le.mpr e0 w.1)]
    simp (disch := first | omega | assumption) only [s235_0, s235_1, s235_2, s235_3, s235_6, s235_9, s235_10, s235_13, s235_14, s235_15, s235_18, s235_19, nI_le2, nI_lt2, nI_eq2, nI_lt0, nI_0le, nI_0lt, nI_le0, nI_eq0, nI_clamp, nI_add, bu_nI, bb_0, bb_1, rf_s, rf_n, tl_s, tl_n, am_th_some, if_true, if_false, sI_eq, uI_eq, and_self, true_and, and_true, not_false_eq_true, not_true_eq_false, Nat.reduceEqDiff, Nat.reduceLeDiff, Nat.reduceLT, Nat.reduceAdd, Nat.reduceMul, Nat.reduceSub, Nat.zero_add, m_in (d := d), e0']
  · obtain ⟨j, hj, rfl⟩ := nI_of e0
    have e0' : ¬ nI j < nI 0 := by rw [z]; exact e0
    by_cases e1 : j < 4
    · have e := h j e1
      have e2 : ¬ 3 < j := by omega
      rw [if_pos ⟨nI_pos' hj, by rw [nI_le2 hj (by decide)]; omega⟩, nI_clamp hj]
      simp (disch := first | omega | assumption) only [s235_0, s235_1, s235_2, s235_3, s235_6, s235_9, s235_10, s235_13, s235_14, s235_15, s235_18, s235_19, nI_le2, nI_lt2, nI_eq2, nI_lt0, nI_0le, nI_0lt, nI_le0, nI_eq0, nI_clamp, nI_add, bu_nI, bb_0, bb_1, rf_s, rf_n, tl_s, tl_n, am_th_some, if_true, if_false, sI_eq, uI_eq, and_self, true_and, and_true, not_false_eq_true, not_true_eq_false, Nat.reduceEqDiff, Nat.reduceLeDiff, Nat.reduceLT, Nat.reduceAdd, Nat.reduceMul, Nat.reduceSub, Nat.zero_add, mr32 hr, m_in (d := d), e0', e2, e1, e]
    · have e2 : 3 < j := by omega
      rw [if_neg (fun w => by have := w.2; rw [nI_le2 hj (by decide)] at this; omega)]
      simp (disch := first | omega | assumption) only [s235_0, s235_1, s235_2, s235_3, s235_6, s235_9, s235_10, s235_13, s235_14, s235_15, s235_18, s235_19, nI_le2, nI_lt2, nI_eq2, nI_lt0, nI_0le, nI_0lt, nI_le0, nI_eq0, nI_clamp, nI_add, bu_nI, bb_0, bb_1, rf_s, rf_n, tl_s, tl_n, am_th_some, if_true, if_false, sI_eq, uI_eq, and_self, true_and, and_true, not_false_eq_true, not_true_eq_false, Nat.reduceEqDiff, Nat.reduceLeDiff, Nat.reduceLT, Nat.reduceAdd, Nat.reduceMul, Nat.reduceSub, Nat.zero_add, m_in (d := d), e0', e2]
end
