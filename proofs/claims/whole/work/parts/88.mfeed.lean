/-! FEED, END: the class's methods, the model's. -/
/-- the five together -/
def sp_c5 (x : Nat → Int32) : Nat := sp_ct (x 0) + sp_ct (x 1) + sp_ct (x 2) + sp_ct (x 3) + sp_ct (x 4)
def sp_a5 (s : Nat × (Nat → Nat)) (x : Nat → Int32) : Nat × (Nat → Nat) := sp_aw (sp_aw (sp_aw (sp_aw (sp_aw s (x 0)) (x 1)) (x 2)) (x 3)) (x 4)
/-- the i-th of the twenty bytes -/
def sp_b5 (x : Nat → Int32) (i : Nat) : Nat := sp_by (x (i / 4)) (24 - 8 * (i % 4))
def sp_n5 (x : Nat → Int32) (n : Nat) : Nat := am_fold (fun a i => a + sp_o (sp_b5 x i)) 0 n
def sp_t5 (s : Nat × (Nat → Nat)) (x : Nat → Int32) (n : Nat) : Nat × (Nat → Nat) := am_fold (fun a i => sp_ad a (sp_b5 x i)) s n
theorem n5_20 (x : Nat → Int32) : sp_n5 x 20 = sp_c5 x := by
  show 0 + sp_o (sp_b5 x 0) + sp_o (sp_b5 x 1) + sp_o (sp_b5 x 2) + sp_o (sp_b5 x 3) + sp_o (sp_b5 x 4) + sp_o (sp_b5 x 5) + sp_o (sp_b5 x 6) + sp_o (sp_b5 x 7) + sp_o (sp_b5 x 8) + sp_o (sp_b5 x 9) + sp_o (sp_b5 x 10) + sp_o (sp_b5 x 11) + sp_o (sp_b5 x 12) + sp_o (sp_b5 x 13) + sp_o (sp_b5 x 14) + sp_o (sp_b5 x 15) + sp_o (sp_b5 x 16) + sp_o (sp_b5 x 17) + sp_o (sp_b5 x 18) + sp_o (sp_b5 x 19) = (sp_o (sp_b5 x 0) + sp_o (sp_b5 x 1) + sp_o (sp_b5 x 2) + sp_o (sp_b5 x 3)) + (sp_o (sp_b5 x 4) + sp_o (sp_b5 x 5) + sp_o (sp_b5 x 6) + sp_o (sp_b5 x 7)) + (sp_o (sp_b5 x 8) + sp_o (sp_b5 x 9) + sp_o (sp_b5 x 10) + sp_o (sp_b5 x 11)) + (sp_o (sp_b5 x 12) + sp_o (sp_b5 x 13) + sp_o (sp_b5 x 14) + sp_o (sp_b5 x 15)) + (sp_o (sp_b5 x 16) + sp_o (sp_b5 x 17) + sp_o (sp_b5 x 18) + sp_o (sp_b5 x 19))
  omega
theorem t5_20 (s : Nat × (Nat → Nat)) (x : Nat → Int32) : sp_t5 s x 20 = sp_a5 s x := rfl
theorem t5_len (s : Nat × (Nat → Nat)) (x : Nat → Int32) : ∀ n, (sp_t5 s x n).1 = s.1 + sp_n5 x n := by
  intro n
  induction n with
  | zero => rfl
  | succ n ih => rw [sp_t5, fold_s, ad_len, sp_n5, fold_s, show (am_fold (fun a i => sp_ad a (sp_b5 x i)) s n).1 = _ from ih]; exact Nat.add_assoc _ _ _
theorem n5_mono (x : Nat → Int32) {i j : Nat} (h : i ≤ j) : sp_n5 x i ≤ sp_n5 x j := by
  obtain ⟨m, rfl⟩ := Nat.exists_eq_add_of_le h
  clear h
  induction m with
  | zero => exact Nat.le_refl _
  | succ m ih => rw [show i + (m + 1) = i + m + 1 from rfl, sp_n5, sp_n5, fold_s]; exact Nat.le_trans ih (Nat.le_add_right _ _)
theorem o_le (v : Nat) : sp_o v ≤ 1 := by unfold sp_o; by_cases e : v = 0 <;> simp [e]
theorem n5_le (x : Nat → Int32) : ∀ n, sp_n5 x n ≤ n := by
  intro n
  induction n with
  | zero => exact Nat.le_refl _
  | succ n ih => rw [sp_n5, fold_s]; have := o_le (sp_b5 x n); exact Nat.add_le_add ih this
section
variable {d n : Nat} {I : am_I} {R : am_R} {Q : am_Q} {x : Nat → Int32} {s : Nat × (Nat → Nat)}
theorem c_feed (ht : R 11 0 0 = some (am_mk 10 0)) (hr : tc_R R) (hk : tp_ok s.1 s.2) (h : tc_at I s.1 s.2) : ∃ J, am_cal (d + 1) 97 [.ref (am_mk 11 0), .int (x 0), .int (x 1), .int (x 2), .int (x 3), .int (x 4)] I R Q = some (some (.int (if 240 < s.1 + sp_c5 x then -nI 1 else nI (sp_a5 s x).1)), J, R, Q) ∧ am_fr tf_S I J ∧ (240 < s.1 + sp_c5 x → J = I) ∧ (¬ 240 < s.1 + sp_c5 x → tc_at J (sp_a5 s x).1 (sp_a5 s x).2 ∧ tp_ok (sp_a5 s x).1 (sp_a5 s x).2) := by
  have hL := hk.1
  have h1 := h.1
  have c0 := c_signsIn (d := d) (I := I) (R := R) (Q := Q) (x := x 0)
  have c1 := c_signsIn (d := d) (I := I) (R := R) (Q := Q) (x := x 1)
  have c2 := c_signsIn (d := d) (I := I) (R := R) (Q := Q) (x := x 2)
  have c3 := c_signsIn (d := d) (I := I) (R := R) (Q := Q) (x := x 3)
  have c4 := c_signsIn (d := d) (I := I) (R := R) (Q := Q) (x := x 4)
  have hle := n5_le x 20
  rw [n5_20] at hle
  by_cases e : 240 < s.1 + sp_c5 x
  · refine ⟨I, ?_, fr_rf, fun _ => rfl, fun w => absurd e w⟩
    have e' : ¬ s.1 + (sp_ct (x 0) + sp_ct (x 1) + sp_ct (x 2) + sp_ct (x 3) + sp_ct (x 4)) ≤ 240 := by unfold sp_c5 at e; omega
    unfold sp_c5 at hle
    rw [if_pos e, s97]
    simp (disch := first | omega | assumption) only [s97_0, s97_1, s97_4, s97_5, s97_8, s97_9, s97_10, s97_13, s97_14, s97_16, s97_19, s97_20, s97_22, s97_25, s97_26, s97_28, s97_29, s97_32, s97_35, s97_37, s97_38, s97_41, s97_44, s97_45, s97_46, s97_47, s97_50, s97_51, s97_54, s97_55, s97_58, s97_59, s97_62, s97_63, s97_66, s97_67, s97_70, s97_71, s97_74, s97_76, s97_79, s97_80, s97_83, s97_85, s97_88, s97_89, s97_92, s97_95, nI_le2, nI_lt2, nI_eq2, nI_lt0, nI_0le, nI_0lt, nI_le0, nI_eq0, nI_clamp, nI_add, bu_nI, bb_0, bb_1, rf_s, rf_n, tl_s, tl_n, am_th_some, if_true, if_false, sI_eq, uI_eq, and_self, true_and, and_true, not_false_eq_true, not_true_eq_false, Nat.reduceEqDiff, Nat.reduceLeDiff, Nat.reduceLT, Nat.reduceAdd, Nat.reduceMul, Nat.reduceSub, Nat.zero_add, c0, c1, c2, c3, c4, ht, h1, e']
  · unfold sp_c5 at hle
    have e' : s.1 + (sp_ct (x 0) + sp_ct (x 1) + sp_ct (x 2) + sp_ct (x 3) + sp_ct (x 4)) ≤ 240 := by unfold sp_c5 at e; omega
    obtain ⟨J0, a1, a2, a3, a4⟩ := c_tadd (d := d) (Q := Q) (x := x 0) hr hk h (by omega)
    obtain ⟨J1, b1, b2, b3, b4⟩ := c_tadd (d := d) (Q := Q) (x := x 1) hr a4 a3 (by rw [aw_len]; omega)
    obtain ⟨J2, p1, p2, p3, p4⟩ := c_tadd (d := d) (Q := Q) (x := x 2) hr b4 b3 (by rw [aw_len, aw_len]; omega)
    obtain ⟨J3, q1, q2, q3, q4⟩ := c_tadd (d := d) (Q := Q) (x := x 3) hr p4 p3 (by rw [aw_len, aw_len, aw_len]; omega)
    obtain ⟨J4, r1, r2, r3, r4⟩ := c_tadd (d := d) (Q := Q) (x := x 4) hr q4 q3 (by rw [aw_len, aw_len, aw_len, aw_len]; omega)
    refine ⟨J4, ?_, fr_tr (fr_tr (fr_tr (fr_tr a2 b2) p2) q2) r2, fun w => absurd w e, fun _ => ⟨r3, r4⟩⟩
    have h5 : J4 10 0 1 = nI (sp_a5 s x).1 := r3.1
    rw [if_neg e, s97]
    simp (disch := first | omega | assumption) only [s97_0, s97_1, s97_4, s97_5, s97_8, s97_9, s97_10, s97_13, s97_14, s97_16, s97_19, s97_20, s97_22, s97_25, s97_26, s97_28, s97_29, s97_32, s97_35, s97_37, s97_38, s97_41, s97_44, s97_45, s97_46, s97_47, s97_50, s97_51, s97_54, s97_55, s97_58, s97_59, s97_62, s97_63, s97_66, s97_67, s97_70, s97_71, s97_74, s97_76, s97_79, s97_80, s97_83, s97_85, s97_88, s97_89, s97_92, s97_95, nI_le2, nI_lt2, nI_eq2, nI_lt0, nI_0le, nI_0lt, nI_le0, nI_eq0, nI_clamp, nI_add, bu_nI, bb_0, bb_1, rf_s, rf_n, tl_s, tl_n, am_th_some, if_true, if_false, sI_eq, uI_eq, and_self, true_and, and_true, not_false_eq_true, not_true_eq_false, Nat.reduceEqDiff, Nat.reduceLeDiff, Nat.reduceLT, Nat.reduceAdd, Nat.reduceMul, Nat.reduceSub, Nat.zero_add, c0, c1, c2, c3, c4, ht, h1, e', a1, b1, p1, q1, r1, h5]
theorem c_end (ht : R 11 0 0 = some (am_mk 10 0)) (hk : tp_ok s.1 s.2) (h : tc_at I s.1 s.2) {y : Int32} : ∃ J, am_cal d 99 [.ref (am_mk 11 0), .int y] I R Q = some (some (.int (if 0 ≤ y ∧ y ≤ nI s.1 then nI 1 else nI 0)), J, R, Q) ∧ am_fr tf_S I J ∧ (¬ (0 ≤ y ∧ y ≤ nI s.1) → J = I) ∧ (0 ≤ y ∧ y ≤ nI s.1 → tc_at J y.toNatClampNeg s.2 ∧ tp_ok y.toNatClampNeg s.2) := by
  have hL := hk.1
  have h1 := h.1
  by_cases e0 : y < 0
  · have e : ¬ (0 ≤ y ∧ y ≤ nI s.1) := fun w => Int32.not_le.mpr e0 w.1
    refine ⟨I, ?_, fr_rf, fun _ => rfl, fun w => absurd w e⟩
    rw [if_neg e, s99]
    simp (disch := first | omega | assumption) only [s99_0, s99_1, s99_4, s99_5, s99_6, s99_9, s99_12, s99_15, s99_16, s99_17, s99_18, s99_21, s99_22, s99_25, s99_26, nI_le2, nI_lt2, nI_eq2, nI_lt0, nI_0le, nI_0lt, nI_le0, nI_eq0, nI_clamp, nI_add, bu_nI, bb_0, bb_1, rf_s, rf_n, tl_s, tl_n, am_th_some, if_true, if_false, sI_eq, uI_eq, and_self, true_and, and_true, not_false_eq_true, not_true_eq_false, Nat.reduceEqDiff, Nat.reduceLeDiff, Nat.reduceLT, Nat.reduceAdd, Nat.reduceMul, Nat.reduceSub, Nat.zero_add, e0]
  · obtain ⟨j, hj, rfl⟩ := nI_of e0
    rw [nI_clamp hj]
    by_cases e1 : j ≤ s.1
    · have e : 0 ≤ nI j ∧ nI j ≤ nI s.1 := ⟨nI_pos' hj, by rw [nI_le2 hj (by omega)]; exact e1⟩
      have e2 : ¬ s.1 < j := by omega
      refine ⟨am_sI I 10 0 (am_uI (I 10 0) 1 (nI j)), ?_, fr_s fr_rf (Or.inr ⟨rfl, rfl⟩), fun w => absurd e w, fun _ => ⟨⟨by rw [sI_eq, uI_eq], fun i hi => by rw [sI_na (by omega)]; exact h.2 i (by omega)⟩, by omega, fun i hi => hk.2 i (by omega)⟩⟩
      rw [if_pos e, s99]
      simp (disch := first | omega | assumption) only [s99_0, s99_1, s99_4, s99_5, s99_6, s99_9, s99_12, s99_15, s99_16, s99_17, s99_18, s99_21, s99_22, s99_25, s99_26, nI_le2, nI_lt2, nI_eq2, nI_lt0, nI_0le, nI_0lt, nI_le0, nI_eq0, nI_clamp, nI_add, bu_nI, bb_0, bb_1, rf_s, rf_n, tl_s, tl_n, am_th_some, if_true, if_false, sI_eq, uI_eq, and_self, true_and, and_true, not_false_eq_true, not_true_eq_false, Nat.reduceEqDiff, Nat.reduceLeDiff, Nat.reduceLT, Nat.reduceAdd, Nat.reduceMul, Nat.reduceSub, Nat.zero_add, e0, ht, h1, e1]
    · have e : ¬ (0 ≤ nI j ∧ nI j ≤ nI s.1) := fun w => by have := w.2; rw [nI_le2 hj (by omega)] at this; exact e1 this
      have e2 : s.1 < j := by omega
      refine ⟨I, ?_, fr_rf, fun _ => rfl, fun w => absurd w e⟩
      rw [if_neg e, s99]
      simp (disch := first | omega | assumption) only [s99_0, s99_1, s99_4, s99_5, s99_6, s99_9, s99_12, s99_15, s99_16, s99_17, s99_18, s99_21, s99_22, s99_25, s99_26, nI_le2, nI_lt2, nI_eq2, nI_lt0, nI_0le, nI_0lt, nI_le0, nI_eq0, nI_clamp, nI_add, bu_nI, bb_0, bb_1, rf_s, rf_n, tl_s, tl_n, am_th_some, if_true, if_false, sI_eq, uI_eq, and_self, true_and, and_true, not_false_eq_true, not_true_eq_false, Nat.reduceEqDiff, Nat.reduceLeDiff, Nat.reduceLT, Nat.reduceAdd, Nat.reduceMul, Nat.reduceSub, Nat.zero_add, e0, ht, h1, e1]
def tg_S : Nat → Nat → Nat → Prop := fun a _ j => a = 42 ∨ (a = 12 ∧ j = 2)
theorem m_end (hk : tp_ok s.1 s.2) (h : tm_at I s.1 s.2) {y : Int32} : ∃ J, am_cal d 162 [.ref (am_mk 12 0), .int y] I R Q = some (some (.int (if 0 ≤ y ∧ y ≤ nI s.1 then nI 1 else nI 0)), J, R, Q) ∧ am_fr tg_S I J ∧ (¬ (0 ≤ y ∧ y ≤ nI s.1) → J = I) ∧ (0 ≤ y ∧ y ≤ nI s.1 → tm_at J y.toNatClampNeg s.2) := by
  have hL := hk.1
  have h1 := h.1
  by_cases e0 : y < 0
  · have e : ¬ (0 ≤ y ∧ y ≤ nI s.1) := fun w => Int32.not_le.mpr e0 w.1
    refine ⟨I, ?_, fr_rf, fun _ => rfl, fun w => absurd w e⟩
    rw [if_neg e, s162]
    simp (disch := first | omega | assumption) only [s162_0, s162_1, s162_4, s162_5, s162_6, s162_9, s162_12, s162_13, s162_14, s162_15, s162_16, s162_19, s162_20, nI_le2, nI_lt2, nI_eq2, nI_lt0, nI_0le, nI_0lt, nI_le0, nI_eq0, nI_clamp, nI_add, bu_nI, bb_0, bb_1, rf_s, rf_n, tl_s, tl_n, am_th_some, if_true, if_false, sI_eq, uI_eq, and_self, true_and, and_true, not_false_eq_true, not_true_eq_false, Nat.reduceEqDiff, Nat.reduceLeDiff, Nat.reduceLT, Nat.reduceAdd, Nat.reduceMul, Nat.reduceSub, Nat.zero_add, e0]
  · obtain ⟨j, hj, rfl⟩ := nI_of e0
    rw [nI_clamp hj]
    by_cases e1 : j ≤ s.1
    · have e : 0 ≤ nI j ∧ nI j ≤ nI s.1 := ⟨nI_pos' hj, by rw [nI_le2 hj (by omega)]; exact e1⟩
      have e2 : ¬ s.1 < j := by omega
      refine ⟨am_sI I 12 0 (am_uI (I 12 0) 2 (nI j)), ?_, fr_s fr_rf (Or.inr ⟨rfl, rfl⟩), fun w => absurd e w, fun _ => ⟨by rw [sI_eq, uI_eq], fun i hi => by rw [sI_na (by omega)]; exact h.2 i (by omega)⟩⟩
      rw [if_pos e, s162]
      simp (disch := first | omega | assumption) only [s162_0, s162_1, s162_4, s162_5, s162_6, s162_9, s162_12, s162_13, s162_14, s162_15, s162_16, s162_19, s162_20, nI_le2, nI_lt2, nI_eq2, nI_lt0, nI_0le, nI_0lt, nI_le0, nI_eq0, nI_clamp, nI_add, bu_nI, bb_0, bb_1, rf_s, rf_n, tl_s, tl_n, am_th_some, if_true, if_false, sI_eq, uI_eq, and_self, true_and, and_true, not_false_eq_true, not_true_eq_false, Nat.reduceEqDiff, Nat.reduceLeDiff, Nat.reduceLT, Nat.reduceAdd, Nat.reduceMul, Nat.reduceSub, Nat.zero_add, e0, h1, e1]
    · have e : ¬ (0 ≤ nI j ∧ nI j ≤ nI s.1) := fun w => by have := w.2; rw [nI_le2 hj (by omega)] at this; exact e1 this
      have e2 : s.1 < j := by omega
      refine ⟨I, ?_, fr_rf, fun _ => rfl, fun w => absurd w e⟩
      rw [if_neg e, s162]
      simp (disch := first | omega | assumption) only [s162_0, s162_1, s162_4, s162_5, s162_6, s162_9, s162_12, s162_13, s162_14, s162_15, s162_16, s162_19, s162_20, nI_le2, nI_lt2, nI_eq2, nI_lt0, nI_0le, nI_0lt, nI_le0, nI_eq0, nI_clamp, nI_add, bu_nI, bb_0, bb_1, rf_s, rf_n, tl_s, tl_n, am_th_some, if_true, if_false, sI_eq, uI_eq, and_self, true_and, and_true, not_false_eq_true, not_true_eq_false, Nat.reduceEqDiff, Nat.reduceLeDiff, Nat.reduceLT, Nat.reduceAdd, Nat.reduceMul, Nat.reduceSub, Nat.zero_add, e0, h1, e1]
theorem m_byteOf {i : Nat} (hi : i < 20) : am_cal d 160 [.int (x 0), .int (x 1), .int (x 2), .int (x 3), .int (x 4), .int (nI i)] I R Q = some (some (.int (nI (sp_b5 x i))), I, R, Q) := by
  have hm : nI i - nI i / nI 4 * nI 4 = nI (i % 4) := nI_mod (by omega) (by decide)
  have h0 : (nI 4 = (0 : Int32)) = False := by decide
  have e1 : nI 24 - nI (8 * (i % 4)) = nI (24 - 8 * (i % 4)) := nI_sub (by omega)
  have hb : ∀ y : Int32, (y >>> (nI (24 - 8 * (i % 4)) &&& 31)) &&& nI 255 = nI (sp_by y (24 - 8 * (i % 4))) := fun y => by_s y (by omega)
  rw [s160, sp_b5]
  by_cases k0 : i < 4
  · have k0' : ¬ 4 ≤ i := by omega
    rw [show i / 4 = 0 by omega]
    simp (disch := first | omega | assumption) only [s160_0, s160_2, s160_3, s160_6, s160_7, s160_10, s160_12, s160_14, s160_17, s160_18, s160_21, s160_23, s160_25, s160_28, s160_29, s160_32, s160_34, s160_36, s160_39, s160_40, s160_43, s160_45, s160_47, s160_49, s160_51, s160_53, s160_55, s160_56, s160_57, s160_58, s160_59, s160_60, s160_63, s160_64, nI_le2, nI_lt2, nI_eq2, nI_lt0, nI_0le, nI_0lt, nI_le0, nI_eq0, nI_clamp, nI_add, bu_nI, bb_0, bb_1, rf_s, rf_n, tl_s, tl_n, am_th_some, if_true, if_false, sI_eq, uI_eq, and_self, true_and, and_true, not_false_eq_true, not_true_eq_false, Nat.reduceEqDiff, Nat.reduceLeDiff, Nat.reduceLT, Nat.reduceAdd, Nat.reduceMul, Nat.reduceSub, Nat.zero_add, k0', hm, h0, nI_mul, e1, hb]
  · have k0' : 4 ≤ i := by omega
    by_cases k1 : i < 8
    · have k1' : ¬ 8 ≤ i := by omega
      rw [show i / 4 = 1 by omega]
      simp (disch := first | omega | assumption) only [s160_0, s160_2, s160_3, s160_6, s160_7, s160_10, s160_12, s160_14, s160_17, s160_18, s160_21, s160_23, s160_25, s160_28, s160_29, s160_32, s160_34, s160_36, s160_39, s160_40, s160_43, s160_45, s160_47, s160_49, s160_51, s160_53, s160_55, s160_56, s160_57, s160_58, s160_59, s160_60, s160_63, s160_64, nI_le2, nI_lt2, nI_eq2, nI_lt0, nI_0le, nI_0lt, nI_le0, nI_eq0, nI_clamp, nI_add, bu_nI, bb_0, bb_1, rf_s, rf_n, tl_s, tl_n, am_th_some, if_true, if_false, sI_eq, uI_eq, and_self, true_and, and_true, not_false_eq_true, not_true_eq_false, Nat.reduceEqDiff, Nat.reduceLeDiff, Nat.reduceLT, Nat.reduceAdd, Nat.reduceMul, Nat.reduceSub, Nat.zero_add, k0', k1', hm, h0, nI_mul, e1, hb]
    · have k1' : 8 ≤ i := by omega
      by_cases k2 : i < 12
      · have k2' : ¬ 12 ≤ i := by omega
        rw [show i / 4 = 2 by omega]
        simp (disch := first | omega | assumption) only [s160_0, s160_2, s160_3, s160_6, s160_7, s160_10, s160_12, s160_14, s160_17, s160_18, s160_21, s160_23, s160_25, s160_28, s160_29, s160_32, s160_34, s160_36, s160_39, s160_40, s160_43, s160_45, s160_47, s160_49, s160_51, s160_53, s160_55, s160_56, s160_57, s160_58, s160_59, s160_60, s160_63, s160_64, nI_le2, nI_lt2, nI_eq2, nI_lt0, nI_0le, nI_0lt, nI_le0, nI_eq0, nI_clamp, nI_add, bu_nI, bb_0, bb_1, rf_s, rf_n, tl_s, tl_n, am_th_some, if_true, if_false, sI_eq, uI_eq, and_self, true_and, and_true, not_false_eq_true, not_true_eq_false, Nat.reduceEqDiff, Nat.reduceLeDiff, Nat.reduceLT, Nat.reduceAdd, Nat.reduceMul, Nat.reduceSub, Nat.zero_add, k0', k1', k2', hm, h0, nI_mul, e1, hb]
      · have k2' : 12 ≤ i := by omega
        by_cases k3 : i < 16
        · have k3' : ¬ 16 ≤ i := by omega
          rw [show i / 4 = 3 by omega]
          simp (disch := first | omega | assumption) only [s160_0, s160_2, s160_3, s160_6, s160_7, s160_10, s160_12, s160_14, s160_17, s160_18, s160_21, s160_23, s160_25, s160_28, s160_29, s160_32, s160_34, s160_36, s160_39, s160_40, s160_43, s160_45, s160_47, s160_49, s160_51, s160_53, s160_55, s160_56, s160_57, s160_58, s160_59, s160_60, s160_63, s160_64, nI_le2, nI_lt2, nI_eq2, nI_lt0, nI_0le, nI_0lt, nI_le0, nI_eq0, nI_clamp, nI_add, bu_nI, bb_0, bb_1, rf_s, rf_n, tl_s, tl_n, am_th_some, if_true, if_false, sI_eq, uI_eq, and_self, true_and, and_true, not_false_eq_true, not_true_eq_false, Nat.reduceEqDiff, Nat.reduceLeDiff, Nat.reduceLT, Nat.reduceAdd, Nat.reduceMul, Nat.reduceSub, Nat.zero_add, k0', k1', k2', k3', hm, h0, nI_mul, e1, hb]
        · have k3' : 16 ≤ i := by omega
          rw [show i / 4 = 4 by omega]
          simp (disch := first | omega | assumption) only [s160_0, s160_2, s160_3, s160_6, s160_7, s160_10, s160_12, s160_14, s160_17, s160_18, s160_21, s160_23, s160_25, s160_28, s160_29, s160_32, s160_34, s160_36, s160_39, s160_40, s160_43, s160_45, s160_47, s160_49, s160_51, s160_53, s160_55, s160_56, s160_57, s160_58, s160_59, s160_60, s160_63, s160_64, nI_le2, nI_lt2, nI_eq2, nI_lt0, nI_0le, nI_0lt, nI_le0, nI_eq0, nI_clamp, nI_add, bu_nI, bb_0, bb_1, rf_s, rf_n, tl_s, tl_n, am_th_some, if_true, if_false, sI_eq, uI_eq, and_self, true_and, and_true, not_false_eq_true, not_true_eq_false, Nat.reduceEqDiff, Nat.reduceLeDiff, Nat.reduceLT, Nat.reduceAdd, Nat.reduceMul, Nat.reduceSub, Nat.zero_add, k0', k1', k2', k3', hm, h0, nI_mul, e1, hb]
theorem m_feed (hr : mm_R R) (hk : tp_ok s.1 s.2) (h : tm_at I s.1 s.2) : ∃ J, am_cal (d + 1) 161 [.ref (am_mk 12 0), .int (x 0), .int (x 1), .int (x 2), .int (x 3), .int (x 4)] I R Q = some (some (.int (if 240 < s.1 + sp_c5 x then -nI 1 else nI (sp_a5 s x).1)), J, R, Q) ∧ am_fr tg_S I J ∧ (240 < s.1 + sp_c5 x → J = I) ∧ (¬ 240 < s.1 + sp_c5 x → tm_at J (sp_a5 s x).1 (sp_a5 s x).2) := by
  have hL := hk.1
  have h1 := h.1
  have hn20 := n5_20 x
  have hle := n5_le x 20
  have bt : ∀ (J : am_I) (i : Nat), i < 20 → am_cal d 160 [.int (x 0), .int (x 1), .int (x 2), .int (x 3), .int (x 4), .int (nI i)] J R Q = some (some (.int (nI (sp_b5 x i))), J, R, Q) := fun J i hi => m_byteOf hi
  have blt : ∀ i, sp_b5 x i < 256 := fun i => by_lt _ _
  have count : ∀ l8 : Value, am_ev (d + 1) 161 6 [.ref (am_mk 12 0), .int (x 0), .int (x 1), .int (x 2), .int (x 3), .int (x 4), .int (nI 0), .int (nI 0), l8] [] I R Q = am_ev (d + 1) 161 44 [.ref (am_mk 12 0), .int (x 0), .int (x 1), .int (x 2), .int (x 3), .int (x 4), .int (nI (sp_n5 x 20)), .int (nI 20), l8] [] I R Q := by
    intro l8
    refine (loop_fold (fun (a : Nat) i => am_ev (d + 1) 161 6 [.ref (am_mk 12 0), .int (x 0), .int (x 1), .int (x 2), .int (x 3), .int (x 4), .int (nI a), .int (nI i), l8] [] I R Q) (fun a i => a + sp_o (sp_b5 x i)) 20 (fun a i hi => ?_) 0).trans ?_
    · have k1 : ¬ 20 ≤ i := by omega
      have b := bt I i hi
      have bl := blt i
      rw [s161_6]
      by_cases e : sp_b5 x i = 0
      · rw [sp_o, if_pos e, Nat.add_zero]
        rw [e] at b
        simp (disch := first | omega | assumption) only [s161_0, s161_1, s161_3, s161_4, s161_8, s161_10, s161_13, s161_15, s161_16, s161_17, s161_18, s161_20, s161_22, s161_24, s161_27, s161_30, s161_31, s161_34, s161_35, s161_36, s161_38, s161_41, s161_45, s161_48, s161_50, s161_51, s161_54, s161_57, s161_58, s161_59, s161_60, s161_64, s161_66, s161_69, s161_70, s161_71, s161_72, s161_74, s161_76, s161_78, s161_81, s161_83, s161_85, s161_88, s161_89, s161_92, s161_93, s161_96, s161_98, s161_99, s161_100, s161_101, s161_104, s161_105, s161_106, s161_109, s161_112, s161_115, s161_116, s161_119, nI_le2, nI_lt2, nI_eq2, nI_lt0, nI_0le, nI_0lt, nI_le0, nI_eq0, nI_clamp, nI_add, bu_nI, bb_0, bb_1, rf_s, rf_n, tl_s, tl_n, am_th_some, if_true, if_false, sI_eq, uI_eq, and_self, true_and, and_true, not_false_eq_true, not_true_eq_false, Nat.reduceEqDiff, Nat.reduceLeDiff, Nat.reduceLT, Nat.reduceAdd, Nat.reduceMul, Nat.reduceSub, Nat.zero_add, k1, b]
      · rw [sp_o, if_neg e]
        have e' : (nI (sp_b5 x i) = 0) = False := by rw [nI_eq0 (by omega)]; exact eq_false e
        simp (disch := first | omega | assumption) only [s161_0, s161_1, s161_3, s161_4, s161_8, s161_10, s161_13, s161_15, s161_16, s161_17, s161_18, s161_20, s161_22, s161_24, s161_27, s161_30, s161_31, s161_34, s161_35, s161_36, s161_38, s161_41, s161_45, s161_48, s161_50, s161_51, s161_54, s161_57, s161_58, s161_59, s161_60, s161_64, s161_66, s161_69, s161_70, s161_71, s161_72, s161_74, s161_76, s161_78, s161_81, s161_83, s161_85, s161_88, s161_89, s161_92, s161_93, s161_96, s161_98, s161_99, s161_100, s161_101, s161_104, s161_105, s161_106, s161_109, s161_112, s161_115, s161_116, s161_119, nI_le2, nI_lt2, nI_eq2, nI_lt0, nI_0le, nI_0lt, nI_le0, nI_eq0, nI_clamp, nI_add, bu_nI, bb_0, bb_1, rf_s, rf_n, tl_s, tl_n, am_th_some, if_true, if_false, sI_eq, uI_eq, and_self, true_and, and_true, not_false_eq_true, not_true_eq_false, Nat.reduceEqDiff, Nat.reduceLeDiff, Nat.reduceLT, Nat.reduceAdd, Nat.reduceMul, Nat.reduceSub, Nat.zero_add, k1, b, e']
    · rw [s161_6]
      simp (disch := first | omega | assumption) only [s161_0, s161_1, s161_3, s161_4, s161_8, s161_10, s161_13, s161_15, s161_16, s161_17, s161_18, s161_20, s161_22, s161_24, s161_27, s161_30, s161_31, s161_34, s161_35, s161_36, s161_38, s161_41, s161_45, s161_48, s161_50, s161_51, s161_54, s161_57, s161_58, s161_59, s161_60, s161_64, s161_66, s161_69, s161_70, s161_71, s161_72, s161_74, s161_76, s161_78, s161_81, s161_83, s161_85, s161_88, s161_89, s161_92, s161_93, s161_96, s161_98, s161_99, s161_100, s161_101, s161_104, s161_105, s161_106, s161_109, s161_112, s161_115, s161_116, s161_119, nI_le2, nI_lt2, nI_eq2, nI_lt0, nI_0le, nI_0lt, nI_le0, nI_eq0, nI_clamp, nI_add, bu_nI, bb_0, bb_1, rf_s, rf_n, tl_s, tl_n, am_th_some, if_true, if_false, sI_eq, uI_eq, and_self, true_and, and_true, not_false_eq_true, not_true_eq_false, Nat.reduceEqDiff, Nat.reduceLeDiff, Nat.reduceLT, Nat.reduceAdd, Nat.reduceMul, Nat.reduceSub, Nat.zero_add]
      rfl
  by_cases e : 240 < s.1 + sp_c5 x
  · refine ⟨I, ?_, fr_rf, fun _ => rfl, fun w => absurd e w⟩
    have e' : ¬ s.1 + sp_n5 x 20 ≤ 240 := by omega
    rw [if_pos e, s161]
    simp (disch := first | omega | assumption) only [s161_0, s161_1, s161_3, s161_4, s161_8, s161_10, s161_13, s161_15, s161_16, s161_17, s161_18, s161_20, s161_22, s161_24, s161_27, s161_30, s161_31, s161_34, s161_35, s161_36, s161_38, s161_41, s161_45, s161_48, s161_50, s161_51, s161_54, s161_57, s161_58, s161_59, s161_60, s161_64, s161_66, s161_69, s161_70, s161_71, s161_72, s161_74, s161_76, s161_78, s161_81, s161_83, s161_85, s161_88, s161_89, s161_92, s161_93, s161_96, s161_98, s161_99, s161_100, s161_101, s161_104, s161_105, s161_106, s161_109, s161_112, s161_115, s161_116, s161_119, nI_le2, nI_lt2, nI_eq2, nI_lt0, nI_0le, nI_0lt, nI_le0, nI_eq0, nI_clamp, nI_add, bu_nI, bb_0, bb_1, rf_s, rf_n, tl_s, tl_n, am_th_some, if_true, if_false, sI_eq, uI_eq, and_self, true_and, and_true, not_false_eq_true, not_true_eq_false, Nat.reduceEqDiff, Nat.reduceLeDiff, Nat.reduceLT, Nat.reduceAdd, Nat.reduceMul, Nat.reduceSub, Nat.zero_add]
    rw [count]
    simp (disch := first | omega | assumption) only [s161_0, s161_1, s161_3, s161_4, s161_8, s161_10, s161_13, s161_15, s161_16, s161_17, s161_18, s161_20, s161_22, s161_24, s161_27, s161_30, s161_31, s161_34, s161_35, s161_36, s161_38, s161_41, s161_44, s161_45, s161_48, s161_50, s161_51, s161_54, s161_57, s161_58, s161_59, s161_60, s161_64, s161_66, s161_69, s161_70, s161_71, s161_72, s161_74, s161_76, s161_78, s161_81, s161_83, s161_85, s161_88, s161_89, s161_92, s161_93, s161_96, s161_98, s161_99, s161_100, s161_101, s161_104, s161_105, s161_106, s161_109, s161_112, s161_115, s161_116, s161_119, nI_le2, nI_lt2, nI_eq2, nI_lt0, nI_0le, nI_0lt, nI_le0, nI_eq0, nI_clamp, nI_add, bu_nI, bb_0, bb_1, rf_s, rf_n, tl_s, tl_n, am_th_some, if_true, if_false, sI_eq, uI_eq, and_self, true_and, and_true, not_false_eq_true, not_true_eq_false, Nat.reduceEqDiff, Nat.reduceLeDiff, Nat.reduceLT, Nat.reduceAdd, Nat.reduceMul, Nat.reduceSub, Nat.zero_add, h1, e']
  · have e' : s.1 + sp_n5 x 20 ≤ 240 := by omega
    have loop : ∀ l8 : Value, ∃ J, am_ev (d + 1) 161 62 [.ref (am_mk 12 0), .int (x 0), .int (x 1), .int (x 2), .int (x 3), .int (x 4), .int (nI (sp_n5 x 20)), .int (nI 0), l8] [] I R Q = some (some (.int (nI (sp_a5 s x).1)), J, R, Q) ∧ am_fr tg_S I J ∧ tm_at J (sp_a5 s x).1 (sp_a5 s x).2 := by
      intro l8
      refine loop_inv (f := fun (a : am_I × Value) i => am_ev (d + 1) 161 62 [.ref (am_mk 12 0), .int (x 0), .int (x 1), .int (x 2), .int (x 3), .int (x 4), .int (nI (sp_n5 x 20)), .int (nI i), a.2] [] a.1 R Q) (Inv := fun i a => am_fr tg_S I a.1 ∧ tm_at a.1 (sp_t5 s x i).1 (sp_t5 s x i).2) (Post := fun y => ∃ J, y = some (some (.int (nI (sp_a5 s x).1)), J, R, Q) ∧ am_fr tg_S I J ∧ tm_at J (sp_a5 s x).1 (sp_a5 s x).2) (n := 20) ?_ ?_ (Nat.zero_le _) (a := (I, l8)) ⟨fr_rf, h⟩
      · intro i ⟨J, l8⟩ hi ⟨f1, f2⟩
        have f1 : am_fr tg_S I J := f1
        have f2 : tm_at J (sp_t5 s x i).1 (sp_t5 s x i).2 := f2
        left
        have k1 : ¬ 20 ≤ i := by omega
        have b := bt J i hi
        have bl := blt i
        have es : sp_t5 s x (i + 1) = sp_ad (sp_t5 s x i) (sp_b5 x i) := rfl
        have hl := t5_len s x (i + 1)
        have hmo := n5_mono x (show i + 1 ≤ 20 by omega)
        rw [es]
        rw [es, ad_len] at hl
        obtain ⟨g1, g2⟩ := f2
        generalize sp_t5 s x i = u at g1 g2 hl ⊢
        by_cases q : sp_b5 x i = 0
        · have ea : sp_ad u (sp_b5 x i) = u := by rw [sp_ad, if_pos q]
          rw [ea]
          rw [q] at b
          refine ⟨(J, .int (nI 0)), ?_, f1, g1, g2⟩
          rw [s161_62]
          simp (disch := first | omega | assumption) only [s161_0, s161_1, s161_3, s161_4, s161_8, s161_10, s161_13, s161_15, s161_16, s161_17, s161_18, s161_20, s161_22, s161_24, s161_27, s161_30, s161_31, s161_34, s161_35, s161_36, s161_38, s161_41, s161_45, s161_48, s161_50, s161_51, s161_54, s161_57, s161_58, s161_59, s161_60, s161_64, s161_66, s161_69, s161_70, s161_71, s161_72, s161_74, s161_76, s161_78, s161_81, s161_83, s161_85, s161_88, s161_89, s161_92, s161_93, s161_96, s161_98, s161_99, s161_100, s161_101, s161_104, s161_105, s161_106, s161_109, s161_112, s161_115, s161_116, s161_119, nI_le2, nI_lt2, nI_eq2, nI_lt0, nI_0le, nI_0lt, nI_le0, nI_eq0, nI_clamp, nI_add, bu_nI, bb_0, bb_1, rf_s, rf_n, tl_s, tl_n, am_th_some, if_true, if_false, sI_eq, uI_eq, and_self, true_and, and_true, not_false_eq_true, not_true_eq_false, Nat.reduceEqDiff, Nat.reduceLeDiff, Nat.reduceLT, Nat.reduceAdd, Nat.reduceMul, Nat.reduceSub, Nat.zero_add, k1, b]
        · have ea : sp_ad u (sp_b5 x i) = (u.1 + 1, fun z => if z = u.1 then sp_b5 x i else u.2 z) := by rw [sp_ad, if_neg q]
          rw [ea]
          rw [sp_o, if_neg q] at hl
          have q' : (nI (sp_b5 x i) = 0) = False := by rw [nI_eq0 (by omega)]; exact eq_false q
          have k2 : u.1 < 240 := by omega
          refine ⟨(am_sI (am_sI J 42 0 (am_uI (J 42 0) u.1 (nI (sp_b5 x i)))) 12 0 (am_uI (J 12 0) 2 (nI (u.1 + 1))), .int (nI (sp_b5 x i))), ?_, ?_, ?_, fun z hz => ?_⟩
          · rw [s161_62]
            simp (disch := first | omega | assumption) only [s161_0, s161_1, s161_3, s161_4, s161_8, s161_10, s161_13, s161_15, s161_16, s161_17, s161_18, s161_20, s161_22, s161_24, s161_27, s161_30, s161_31, s161_34, s161_35, s161_36, s161_38, s161_41, s161_45, s161_48, s161_50, s161_51, s161_54, s161_57, s161_58, s161_59, s161_60, s161_64, s161_66, s161_69, s161_70, s161_71, s161_72, s161_74, s161_76, s161_78, s161_81, s161_83, s161_85, s161_88, s161_89, s161_92, s161_93, s161_96, s161_98, s161_99, s161_100, s161_101, s161_104, s161_105, s161_106, s161_109, s161_112, s161_115, s161_116, s161_119, nI_le2, nI_lt2, nI_eq2, nI_lt0, nI_0le, nI_0lt, nI_le0, nI_eq0, nI_clamp, nI_add, bu_nI, bb_0, bb_1, rf_s, rf_n, tl_s, tl_n, am_th_some, if_true, if_false, sI_eq, uI_eq, and_self, true_and, and_true, not_false_eq_true, not_true_eq_false, Nat.reduceEqDiff, Nat.reduceLeDiff, Nat.reduceLT, Nat.reduceAdd, Nat.reduceMul, Nat.reduceSub, Nat.zero_add, mr1 hr, k1, b, q', g1, k2, sI_na]
          · refine fr_g (fr_s f1 (Or.inl rfl)) fun z hz => ?_
            have : ¬ z = 2 := fun w => hz (Or.inr ⟨rfl, w⟩)
            rw [uI_ne this]
            exact f1 _ _ _ hz
          · dsimp only
            rw [sI_eq, uI_eq]
          · have hz : z < u.1 + 1 := hz
            dsimp only
            rw [sI_na (by omega), sI_eq]
            by_cases w : z = u.1
            · rw [w, uI_eq, if_pos rfl]
            · rw [uI_ne w, if_neg w]; exact g2 z (by omega)
      · intro ⟨J, l8⟩ ⟨f1, f2⟩
        have f2 : tm_at J (sp_a5 s x).1 (sp_a5 s x).2 := f2
        refine ⟨J, ?_, f1, f2⟩
        have h5 := f2.1
        rw [s161_62]
        simp (disch := first | omega | assumption) only [s161_0, s161_1, s161_3, s161_4, s161_8, s161_10, s161_13, s161_15, s161_16, s161_17, s161_18, s161_20, s161_22, s161_24, s161_27, s161_30, s161_31, s161_34, s161_35, s161_36, s161_38, s161_41, s161_45, s161_48, s161_50, s161_51, s161_54, s161_57, s161_58, s161_59, s161_60, s161_64, s161_66, s161_69, s161_70, s161_71, s161_72, s161_74, s161_76, s161_78, s161_81, s161_83, s161_85, s161_88, s161_89, s161_92, s161_93, s161_96, s161_98, s161_99, s161_100, s161_101, s161_104, s161_105, s161_106, s161_109, s161_112, s161_115, s161_116, s161_119, nI_le2, nI_lt2, nI_eq2, nI_lt0, nI_0le, nI_0lt, nI_le0, nI_eq0, nI_clamp, nI_add, bu_nI, bb_0, bb_1, rf_s, rf_n, tl_s, tl_n, am_th_some, if_true, if_false, sI_eq, uI_eq, and_self, true_and, and_true, not_false_eq_true, not_true_eq_false, Nat.reduceEqDiff, Nat.reduceLeDiff, Nat.reduceLT, Nat.reduceAdd, Nat.reduceMul, Nat.reduceSub, Nat.zero_add, h5]
    obtain ⟨J, g1, g2, g3⟩ := loop am_J
    refine ⟨J, ?_, g2, fun w => absurd w e, fun _ => g3⟩
    rw [if_neg e, s161]
    simp (disch := first | omega | assumption) only [s161_0, s161_1, s161_3, s161_4, s161_8, s161_10, s161_13, s161_15, s161_16, s161_17, s161_18, s161_20, s161_22, s161_24, s161_27, s161_30, s161_31, s161_34, s161_35, s161_36, s161_38, s161_41, s161_45, s161_48, s161_50, s161_51, s161_54, s161_57, s161_58, s161_59, s161_60, s161_64, s161_66, s161_69, s161_70, s161_71, s161_72, s161_74, s161_76, s161_78, s161_81, s161_83, s161_85, s161_88, s161_89, s161_92, s161_93, s161_96, s161_98, s161_99, s161_100, s161_101, s161_104, s161_105, s161_106, s161_109, s161_112, s161_115, s161_116, s161_119, nI_le2, nI_lt2, nI_eq2, nI_lt0, nI_0le, nI_0lt, nI_le0, nI_eq0, nI_clamp, nI_add, bu_nI, bb_0, bb_1, rf_s, rf_n, tl_s, tl_n, am_th_some, if_true, if_false, sI_eq, uI_eq, and_self, true_and, and_true, not_false_eq_true, not_true_eq_false, Nat.reduceEqDiff, Nat.reduceLeDiff, Nat.reduceLT, Nat.reduceAdd, Nat.reduceMul, Nat.reduceSub, Nat.zero_add]
    rw [count]
    simp (disch := first | omega | assumption) only [s161_0, s161_1, s161_3, s161_4, s161_8, s161_10, s161_13, s161_15, s161_16, s161_17, s161_18, s161_20, s161_22, s161_24, s161_27, s161_30, s161_31, s161_34, s161_35, s161_36, s161_38, s161_41, s161_44, s161_45, s161_48, s161_50, s161_51, s161_54, s161_57, s161_58, s161_59, s161_60, s161_64, s161_66, s161_69, s161_70, s161_71, s161_72, s161_74, s161_76, s161_78, s161_81, s161_83, s161_85, s161_88, s161_89, s161_92, s161_93, s161_96, s161_98, s161_99, s161_100, s161_101, s161_104, s161_105, s161_106, s161_109, s161_112, s161_115, s161_116, s161_119, nI_le2, nI_lt2, nI_eq2, nI_lt0, nI_0le, nI_0lt, nI_le0, nI_eq0, nI_clamp, nI_add, bu_nI, bb_0, bb_1, rf_s, rf_n, tl_s, tl_n, am_th_some, if_true, if_false, sI_eq, uI_eq, and_self, true_and, and_true, not_false_eq_true, not_true_eq_false, Nat.reduceEqDiff, Nat.reduceLeDiff, Nat.reduceLT, Nat.reduceAdd, Nat.reduceMul, Nat.reduceSub, Nat.zero_add, h1, e']
    exact g1
end
