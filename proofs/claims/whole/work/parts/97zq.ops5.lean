/-! Queries, part five: OVEN, DISH, ONCE, HOW, STATUS. -/
section
variable {s : zSt} {x y z : Int32}
theorem in_pred {D : Nat} (hD : D < 2 ^ 31) : (nI 0 ≤ x ∧ x ≤ nI D - nI 1) ↔ (0 ≤ x ∧ x < nI D) := by
  have h1 : (nI 1).toInt = 1 := nI_toInt (by decide)
  have hd : (nI D).toInt = D := nI_toInt hD
  have h0 : (0 : Int32).toInt = 0 := rfl
  have hs : (nI D - nI 1).toInt = (D : Int) - 1 := by
    rw [Int32.toInt_sub, hd, h1]
    exact Int.bmod_eq_of_le (by omega) (by omega)
  rw [nI_0, Int32.le_iff_toInt_le, Int32.le_iff_toInt_le, Int32.lt_iff_toInt_lt, hs, hd, h0]
  omega
theorem op_oven (hok : rel_ok s) : op1 109 210 [.int x] s := by
  obtain ⟨tp, w, st, rf, o⟩ := s
  cases o with
  | none =>
    refine op_k (v := -nI 1) hok (fun d u I R Q h => ?_) (fun d I R Q hr h => ?_)
    · have C := get_nc h
      have hL := C.lun (Q := Q) (d + 89)
      have hk := C.kk.1
      have hk2 := C.kk.2.2.2.1
      rw [s109]
      simp (disch := first | omega | assumption) only [s109_0, s109_1, s109_4, s109_7, s109_10, s109_11, s109_12, s109_15, s109_18, s109_19, s109_22, s109_23, s109_24, s109_25, s109_28, s109_29, s109_30, s109_31, s109_32, s109_33, nI_le2, nI_lt2, nI_eq2, nI_lt0, nI_0le, nI_0lt, nI_le0, nI_eq0, nI_clamp, nI_add, bu_nI, bb_0, bb_1, rf_s, rf_n, tl_s, tl_n, am_th_some, if_true, if_false, sI_eq, uI_eq, and_self, true_and, and_true, not_false_eq_true, not_true_eq_false, Nat.reduceEqDiff, Nat.reduceLeDiff, Nat.reduceLT, Nat.reduceAdd, Nat.reduceMul, Nat.reduceSub, Nat.zero_add, hL, C.pa.1, hk, hk2]
    · have C := get_nm h
      have hL := C.lun (R := R) (Q := Q) (d + 89)
      rw [s210]
      simp (disch := first | omega | assumption) only [s210_0, s210_1, s210_4, s210_7, s210_8, s210_9, s210_10, s210_13, s210_16, s210_17, s210_20, s210_21, s210_22, s210_25, s210_26, nI_le2, nI_lt2, nI_eq2, nI_lt0, nI_0le, nI_0lt, nI_le0, nI_eq0, nI_clamp, nI_add, bu_nI, bb_0, bb_1, rf_s, rf_n, tl_s, tl_n, am_th_some, if_true, if_false, sI_eq, uI_eq, and_self, true_and, and_true, not_false_eq_true, not_true_eq_false, Nat.reduceEqDiff, Nat.reduceLeDiff, Nat.reduceLT, Nat.reduceAdd, Nat.reduceMul, Nat.reduceSub, Nat.zero_add, hL]
  | some l =>
    obtain ⟨E, k, PK, tk, EL, im, ⟨k0, N0⟩, k1, N1⟩ := l
    have L := get_l hok
    by_cases h0 : x < 0
    · have n0 : ¬ (nI 0 ≤ x ∧ x ≤ nI 5) := fun w => Int32.not_le.mpr h0 (by rw [← nI_0]; exact w.1)
      refine op_k (v := -nI 1) hok (fun d u I R Q h => ?_) (fun d I R Q hr h => ?_)
      · have C := get_c (Q := Q) h hok
        have hL := C.lun L (d + 89)
        have hk := C.kk.1
        have hk2 := C.kk.2.2.2.1
        rw [s109]
        simp (disch := first | omega | assumption) only [s109_0, s109_1, s109_4, s109_7, s109_10, s109_11, s109_12, s109_15, s109_18, s109_19, s109_22, s109_23, s109_24, s109_25, s109_28, s109_29, s109_30, s109_31, s109_32, s109_33, nI_le2, nI_lt2, nI_eq2, nI_lt0, nI_0le, nI_0lt, nI_le0, nI_eq0, nI_clamp, nI_add, bu_nI, bb_0, bb_1, rf_s, rf_n, tl_s, tl_n, am_th_some, if_true, if_false, sI_eq, uI_eq, and_self, true_and, and_true, not_false_eq_true, not_true_eq_false, Nat.reduceEqDiff, Nat.reduceLeDiff, Nat.reduceLT, Nat.reduceAdd, Nat.reduceMul, Nat.reduceSub, Nat.zero_add, hL, C.pa.1, hk, hk2, h0]
      · have C := get_m (Q := Q) hr h hok
        have hL := C.lun L (d + 89)
        have p0 := m_inX (d := d + 89) (x := x) (lo := nI 0) (hi := nI 5) (I := I) (R := R) (Q := Q)
        rw [if_neg n0] at p0
        rw [s210]
        simp (disch := first | omega | assumption) only [s210_0, s210_1, s210_4, s210_7, s210_8, s210_9, s210_10, s210_13, s210_16, s210_17, s210_20, s210_21, s210_22, s210_25, s210_26, nI_le2, nI_lt2, nI_eq2, nI_lt0, nI_0le, nI_0lt, nI_le0, nI_eq0, nI_clamp, nI_add, bu_nI, bb_0, bb_1, rf_s, rf_n, tl_s, tl_n, am_th_some, if_true, if_false, sI_eq, uI_eq, and_self, true_and, and_true, not_false_eq_true, not_true_eq_false, Nat.reduceEqDiff, Nat.reduceLeDiff, Nat.reduceLT, Nat.reduceAdd, Nat.reduceMul, Nat.reduceSub, Nat.zero_add, hL, p0]
    · obtain ⟨j, hj, rfl⟩ := nI_of h0
      by_cases h6 : j < 6
      · have h5 : j ≤ 5 := by omega
        refine op_k (v := nI (E.2.1 j)) hok (fun d u I R Q h => ?_) (fun d I R Q hr h => ?_)
        · have C := get_c (Q := Q) h hok
          have hL := C.lun L (d + 89)
          have hk := C.kk.1
          have hk2 := C.kk.2.2.2.1
          have ov := C.ov j h6
          rw [s109]
          simp (disch := first | omega | assumption) only [s109_0, s109_1, s109_4, s109_7, s109_10, s109_11, s109_12, s109_15, s109_18, s109_19, s109_22, s109_23, s109_24, s109_25, s109_28, s109_29, s109_30, s109_31, s109_32, s109_33, nI_le2, nI_lt2, nI_eq2, nI_lt0, nI_0le, nI_0lt, nI_le0, nI_eq0, nI_clamp, nI_add, bu_nI, bb_0, bb_1, rf_s, rf_n, tl_s, tl_n, am_th_some, if_true, if_false, sI_eq, uI_eq, and_self, true_and, and_true, not_false_eq_true, not_true_eq_false, Nat.reduceEqDiff, Nat.reduceLeDiff, Nat.reduceLT, Nat.reduceAdd, Nat.reduceMul, Nat.reduceSub, Nat.zero_add, hL, C.pa.1, hk, hk2, h6, ov]
        · have C := get_m (Q := Q) hr h hok
          have hL := C.lun L (d + 89)
          have p0 := m_inX (d := d + 89) (x := nI j) (lo := nI 0) (hi := nI 5) (I := I) (R := R) (Q := Q)
          rw [if_pos ⟨nI_pos' (by omega), by rw [nI_le2 (by omega) (by decide)]; exact h5⟩] at p0
          have ov := C.ov j h6
          rw [s210]
          simp (disch := first | omega | assumption) only [s210_0, s210_1, s210_4, s210_7, s210_8, s210_9, s210_10, s210_13, s210_16, s210_17, s210_20, s210_21, s210_22, s210_25, s210_26, nI_le2, nI_lt2, nI_eq2, nI_lt0, nI_0le, nI_0lt, nI_le0, nI_eq0, nI_clamp, nI_add, bu_nI, bb_0, bb_1, rf_s, rf_n, tl_s, tl_n, am_th_some, if_true, if_false, sI_eq, uI_eq, and_self, true_and, and_true, not_false_eq_true, not_true_eq_false, Nat.reduceEqDiff, Nat.reduceLeDiff, Nat.reduceLT, Nat.reduceAdd, Nat.reduceMul, Nat.reduceSub, Nat.zero_add, hL, p0, mr24 hr, h6, ov]
      · refine op_k (v := -nI 1) hok (fun d u I R Q h => ?_) (fun d I R Q hr h => ?_)
        · have C := get_c (Q := Q) h hok
          have hL := C.lun L (d + 89)
          have hk := C.kk.1
          have hk2 := C.kk.2.2.2.1
          rw [s109]
          simp (disch := first | omega | assumption) only [s109_0, s109_1, s109_4, s109_7, s109_10, s109_11, s109_12, s109_15, s109_18, s109_19, s109_22, s109_23, s109_24, s109_25, s109_28, s109_29, s109_30, s109_31, s109_32, s109_33, nI_le2, nI_lt2, nI_eq2, nI_lt0, nI_0le, nI_0lt, nI_le0, nI_eq0, nI_clamp, nI_add, bu_nI, bb_0, bb_1, rf_s, rf_n, tl_s, tl_n, am_th_some, if_true, if_false, sI_eq, uI_eq, and_self, true_and, and_true, not_false_eq_true, not_true_eq_false, Nat.reduceEqDiff, Nat.reduceLeDiff, Nat.reduceLT, Nat.reduceAdd, Nat.reduceMul, Nat.reduceSub, Nat.zero_add, hL, C.pa.1, hk, hk2, h6]
        · have C := get_m (Q := Q) hr h hok
          have hL := C.lun L (d + 89)
          have p0 := m_inX (d := d + 89) (x := nI j) (lo := nI 0) (hi := nI 5) (I := I) (R := R) (Q := Q)
          rw [if_neg (fun w => by have := w.2; rw [nI_le2 (by omega) (by decide)] at this; omega)] at p0
          rw [s210]
          simp (disch := first | omega | assumption) only [s210_0, s210_1, s210_4, s210_7, s210_8, s210_9, s210_10, s210_13, s210_16, s210_17, s210_20, s210_21, s210_22, s210_25, s210_26, nI_le2, nI_lt2, nI_eq2, nI_lt0, nI_0le, nI_0lt, nI_le0, nI_eq0, nI_clamp, nI_add, bu_nI, bb_0, bb_1, rf_s, rf_n, tl_s, tl_n, am_th_some, if_true, if_false, sI_eq, uI_eq, and_self, true_and, and_true, not_false_eq_true, not_true_eq_false, Nat.reduceEqDiff, Nat.reduceLeDiff, Nat.reduceLT, Nat.reduceAdd, Nat.reduceMul, Nat.reduceSub, Nat.zero_add, hL, p0]
theorem op_dish (hok : rel_ok s) : op1 111 212 [.int x, .int y] s := by
  obtain ⟨tp, w, st, rf, o⟩ := s
  cases o with
  | none =>
    refine op_k (v := -nI 1) hok (fun d u I R Q h => ?_) (fun d I R Q hr h => ?_)
    · have C := get_nc h
      have hL := C.lun (Q := Q) (d + 89)
      have hk := C.kk.1
      rw [s111]
      simp (disch := first | omega | assumption) only [s111_0, s111_1, s111_4, s111_7, s111_8, s111_9, s111_12, s111_15, s111_16, s111_17, s111_20, s111_23, s111_24, s111_25, s111_26, s111_29, s111_32, s111_33, s111_34, s111_35, s111_38, s111_39, s111_42, s111_43, s111_44, s111_47, s111_48, s111_51, s111_52, s111_53, nI_le2, nI_lt2, nI_eq2, nI_lt0, nI_0le, nI_0lt, nI_le0, nI_eq0, nI_clamp, nI_add, bu_nI, bb_0, bb_1, rf_s, rf_n, tl_s, tl_n, am_th_some, if_true, if_false, sI_eq, uI_eq, and_self, true_and, and_true, not_false_eq_true, not_true_eq_false, Nat.reduceEqDiff, Nat.reduceLeDiff, Nat.reduceLT, Nat.reduceAdd, Nat.reduceMul, Nat.reduceSub, Nat.zero_add, hL, C.pa.1, hk]
    · have h29 : I 12 0 29 = nI 0 := h.2.2.2.2.2.2.2.1
      have p0 := m_inX (d := d + 89) (x := x) (lo := nI 0) (hi := nI 0 - nI 1) (I := I) (R := R) (Q := Q)
      rw [if_neg (fun w => by have := (in_pred (D := 0) (by decide)).mp w; exact Int32.not_lt.mpr this.1 (by rw [← nI_0]; exact this.2))] at p0
      rw [s212]
      simp (disch := first | omega | assumption) only [s212_0, s212_1, s212_2, s212_3, s212_6, s212_7, s212_8, s212_11, s212_14, s212_15, s212_16, s212_17, s212_20, s212_23, s212_24, s212_27, s212_28, s212_29, s212_30, s212_31, s212_32, s212_33, s212_36, s212_37, nI_le2, nI_lt2, nI_eq2, nI_lt0, nI_0le, nI_0lt, nI_le0, nI_eq0, nI_clamp, nI_add, bu_nI, bb_0, bb_1, rf_s, rf_n, tl_s, tl_n, am_th_some, if_true, if_false, sI_eq, uI_eq, and_self, true_and, and_true, not_false_eq_true, not_true_eq_false, Nat.reduceEqDiff, Nat.reduceLeDiff, Nat.reduceLT, Nat.reduceAdd, Nat.reduceMul, Nat.reduceSub, Nat.zero_add, p0, h29]
  | some l =>
    obtain ⟨E, k, PK, tk, EL, im, ⟨k0, N0⟩, k1, N1⟩ := l
    have L := get_l hok
    have hd := D_ok (hok.2.2.2 _ rfl).1.1
    have hD6 := hd.1
    by_cases e0 : 0 ≤ x ∧ x < nI E.2.2.2.2.length
    · by_cases e1 : nI 0 ≤ y ∧ y ≤ nI 1
      · obtain ⟨i, hi, rfl⟩ := am_in e0.1 e0.2 (by omega)
        obtain ⟨c1, h1, rfl⟩ := in_nat (by decide) e1
        refine op_k (v := nI (zD E.2.2.2.2 c1 i)) hok (fun d u I R Q h => ?_) (fun d I R Q hr h => ?_)
        · have C := get_c (Q := Q) h hok
          have hL := C.lun L (d + 89)
          have hk := C.kk.1
          have ds := C.ds
          obtain ⟨-, -, ⟨-, -, -, -, l5⟩, -⟩ := h
          have hh := c_hasDish (d := d + 89) (R := R) (Q := Q) (x := nI i) l5 hd
          rw [if_pos e0] at hh
          have p1 := c_within (d := d + 89) (x := nI c1) (a := nI 0) (b := nI 1) (I := I) (R := R) (Q := Q)
          rw [if_pos e1] at p1
          obtain ⟨v0, v1⟩ := l5.2 i hi
          have h6 : i < 6 := by omega
          rw [s111]
          rcases (show c1 = 0 ∨ c1 = 1 by omega) with rfl | rfl
          · simp (disch := first | omega | assumption) only [s111_0, s111_1, s111_4, s111_7, s111_8, s111_9, s111_12, s111_15, s111_16, s111_17, s111_20, s111_23, s111_24, s111_25, s111_26, s111_29, s111_32, s111_33, s111_34, s111_35, s111_38, s111_39, s111_42, s111_43, s111_44, s111_47, s111_48, s111_51, s111_52, s111_53, nI_le2, nI_lt2, nI_eq2, nI_lt0, nI_0le, nI_0lt, nI_le0, nI_eq0, nI_clamp, nI_add, bu_nI, bb_0, bb_1, rf_s, rf_n, tl_s, tl_n, am_th_some, if_true, if_false, sI_eq, uI_eq, and_self, true_and, and_true, not_false_eq_true, not_true_eq_false, Nat.reduceEqDiff, Nat.reduceLeDiff, Nat.reduceLT, Nat.reduceAdd, Nat.reduceMul, Nat.reduceSub, Nat.zero_add, hL, C.pa.1, hk, hh, p1, ds.1, ds.2, h6, v0, v1]
          · simp (disch := first | omega | assumption) only [s111_0, s111_1, s111_4, s111_7, s111_8, s111_9, s111_12, s111_15, s111_16, s111_17, s111_20, s111_23, s111_24, s111_25, s111_26, s111_29, s111_32, s111_33, s111_34, s111_35, s111_38, s111_39, s111_42, s111_43, s111_44, s111_47, s111_48, s111_51, s111_52, s111_53, nI_le2, nI_lt2, nI_eq2, nI_lt0, nI_0le, nI_0lt, nI_le0, nI_eq0, nI_clamp, nI_add, bu_nI, bb_0, bb_1, rf_s, rf_n, tl_s, tl_n, am_th_some, if_true, if_false, sI_eq, uI_eq, and_self, true_and, and_true, not_false_eq_true, not_true_eq_false, Nat.reduceEqDiff, Nat.reduceLeDiff, Nat.reduceLT, Nat.reduceAdd, Nat.reduceMul, Nat.reduceSub, Nat.zero_add, hL, C.pa.1, hk, hh, p1, ds.1, ds.2, h6, v0, v1, show ¬ (1 : Nat) = 0 by decide]
        · have C := get_m (Q := Q) hr h hok
          obtain ⟨-, ⟨-, -, -, l5⟩, -⟩ := h
          have p0 := m_inX (d := d + 89) (x := nI i) (lo := nI 0) (hi := nI E.2.2.2.2.length - nI 1) (I := I) (R := R) (Q := Q)
          rw [if_pos ((in_pred (by omega)).mpr e0)] at p0
          have p1 := m_inX (d := d + 89) (x := nI c1) (lo := nI 0) (hi := nI 1) (I := I) (R := R) (Q := Q)
          rw [if_pos e1] at p1
          obtain ⟨v0, v1⟩ := l5.2 i hi
          have l5a := l5.1
          have h12 : 2 * i < 12 := by omega
          have h13 : 2 * i + 1 < 12 := by omega
          rw [s212]
          rcases (show c1 = 0 ∨ c1 = 1 by omega) with rfl | rfl
          · simp (disch := first | omega | assumption) only [s212_0, s212_1, s212_2, s212_3, s212_6, s212_7, s212_8, s212_11, s212_14, s212_15, s212_16, s212_17, s212_20, s212_23, s212_24, s212_27, s212_28, s212_29, s212_30, s212_31, s212_32, s212_33, s212_36, s212_37, nI_le2, nI_lt2, nI_eq2, nI_lt0, nI_0le, nI_0lt, nI_le0, nI_eq0, nI_clamp, nI_add, bu_nI, bb_0, bb_1, rf_s, rf_n, tl_s, tl_n, am_th_some, if_true, if_false, sI_eq, uI_eq, and_self, true_and, and_true, not_false_eq_true, not_true_eq_false, Nat.reduceEqDiff, Nat.reduceLeDiff, Nat.reduceLT, Nat.reduceAdd, Nat.reduceMul, Nat.reduceSub, Nat.zero_add, p0, p1, l5a, mr27 hr, nI_mul, Nat.add_zero, h12, v0]
          · simp (disch := first | omega | assumption) only [s212_0, s212_1, s212_2, s212_3, s212_6, s212_7, s212_8, s212_11, s212_14, s212_15, s212_16, s212_17, s212_20, s212_23, s212_24, s212_27, s212_28, s212_29, s212_30, s212_31, s212_32, s212_33, s212_36, s212_37, nI_le2, nI_lt2, nI_eq2, nI_lt0, nI_0le, nI_0lt, nI_le0, nI_eq0, nI_clamp, nI_add, bu_nI, bb_0, bb_1, rf_s, rf_n, tl_s, tl_n, am_th_some, if_true, if_false, sI_eq, uI_eq, and_self, true_and, and_true, not_false_eq_true, not_true_eq_false, Nat.reduceEqDiff, Nat.reduceLeDiff, Nat.reduceLT, Nat.reduceAdd, Nat.reduceMul, Nat.reduceSub, Nat.zero_add, p0, p1, l5a, mr27 hr, nI_mul, h13, v1]
      · refine op_k (v := -nI 1) hok (fun d u I R Q h => ?_) (fun d I R Q hr h => ?_)
        · have C := get_c (Q := Q) h hok
          have hL := C.lun L (d + 89)
          have hk := C.kk.1
          obtain ⟨-, -, ⟨-, -, -, -, l5⟩, -⟩ := h
          have hh := c_hasDish (d := d + 89) (R := R) (Q := Q) (x := x) l5 hd
          rw [if_pos e0] at hh
          have p1 := c_within (d := d + 89) (x := y) (a := nI 0) (b := nI 1) (I := I) (R := R) (Q := Q)
          rw [if_neg e1] at p1
          rw [s111]
          simp (disch := first | omega | assumption) only [s111_0, s111_1, s111_4, s111_7, s111_8, s111_9, s111_12, s111_15, s111_16, s111_17, s111_20, s111_23, s111_24, s111_25, s111_26, s111_29, s111_32, s111_33, s111_34, s111_35, s111_38, s111_39, s111_42, s111_43, s111_44, s111_47, s111_48, s111_51, s111_52, s111_53, nI_le2, nI_lt2, nI_eq2, nI_lt0, nI_0le, nI_0lt, nI_le0, nI_eq0, nI_clamp, nI_add, bu_nI, bb_0, bb_1, rf_s, rf_n, tl_s, tl_n, am_th_some, if_true, if_false, sI_eq, uI_eq, and_self, true_and, and_true, not_false_eq_true, not_true_eq_false, Nat.reduceEqDiff, Nat.reduceLeDiff, Nat.reduceLT, Nat.reduceAdd, Nat.reduceMul, Nat.reduceSub, Nat.zero_add, hL, C.pa.1, hk, hh, p1]
        · obtain ⟨-, ⟨-, -, -, l5⟩, -⟩ := h
          have p0 := m_inX (d := d + 89) (x := x) (lo := nI 0) (hi := nI E.2.2.2.2.length - nI 1) (I := I) (R := R) (Q := Q)
          rw [if_pos ((in_pred (by omega)).mpr e0)] at p0
          have p1 := m_inX (d := d + 89) (x := y) (lo := nI 0) (hi := nI 1) (I := I) (R := R) (Q := Q)
          rw [if_neg e1] at p1
          have l5a := l5.1
          rw [s212]
          simp (disch := first | omega | assumption) only [s212_0, s212_1, s212_2, s212_3, s212_6, s212_7, s212_8, s212_11, s212_14, s212_15, s212_16, s212_17, s212_20, s212_23, s212_24, s212_27, s212_28, s212_29, s212_30, s212_31, s212_32, s212_33, s212_36, s212_37, nI_le2, nI_lt2, nI_eq2, nI_lt0, nI_0le, nI_0lt, nI_le0, nI_eq0, nI_clamp, nI_add, bu_nI, bb_0, bb_1, rf_s, rf_n, tl_s, tl_n, am_th_some, if_true, if_false, sI_eq, uI_eq, and_self, true_and, and_true, not_false_eq_true, not_true_eq_false, Nat.reduceEqDiff, Nat.reduceLeDiff, Nat.reduceLT, Nat.reduceAdd, Nat.reduceMul, Nat.reduceSub, Nat.zero_add, p0, p1, l5a]
    · refine op_k (v := -nI 1) hok (fun d u I R Q h => ?_) (fun d I R Q hr h => ?_)
      · have C := get_c (Q := Q) h hok
        have hL := C.lun L (d + 89)
        have hk := C.kk.1
        obtain ⟨-, -, ⟨-, -, -, -, l5⟩, -⟩ := h
        have hh := c_hasDish (d := d + 89) (R := R) (Q := Q) (x := x) l5 hd
        rw [if_neg e0] at hh
        rw [s111]
        simp (disch := first | omega | assumption) only [s111_0, s111_1, s111_4, s111_7, s111_8, s111_9, s111_12, s111_15, s111_16, s111_17, s111_20, s111_23, s111_24, s111_25, s111_26, s111_29, s111_32, s111_33, s111_34, s111_35, s111_38, s111_39, s111_42, s111_43, s111_44, s111_47, s111_48, s111_51, s111_52, s111_53, nI_le2, nI_lt2, nI_eq2, nI_lt0, nI_0le, nI_0lt, nI_le0, nI_eq0, nI_clamp, nI_add, bu_nI, bb_0, bb_1, rf_s, rf_n, tl_s, tl_n, am_th_some, if_true, if_false, sI_eq, uI_eq, and_self, true_and, and_true, not_false_eq_true, not_true_eq_false, Nat.reduceEqDiff, Nat.reduceLeDiff, Nat.reduceLT, Nat.reduceAdd, Nat.reduceMul, Nat.reduceSub, Nat.zero_add, hL, C.pa.1, hk, hh]
      · obtain ⟨-, ⟨-, -, -, l5⟩, -⟩ := h
        have p0 := m_inX (d := d + 89) (x := x) (lo := nI 0) (hi := nI E.2.2.2.2.length - nI 1) (I := I) (R := R) (Q := Q)
        rw [if_neg (fun w => e0 ((in_pred (by omega)).mp w))] at p0
        have l5a := l5.1
        rw [s212]
        simp (disch := first | omega | assumption) only [s212_0, s212_1, s212_2, s212_3, s212_6, s212_7, s212_8, s212_11, s212_14, s212_15, s212_16, s212_17, s212_20, s212_23, s212_24, s212_27, s212_28, s212_29, s212_30, s212_31, s212_32, s212_33, s212_36, s212_37, nI_le2, nI_lt2, nI_eq2, nI_lt0, nI_0le, nI_0lt, nI_le0, nI_eq0, nI_clamp, nI_add, bu_nI, bb_0, bb_1, rf_s, rf_n, tl_s, tl_n, am_th_some, if_true, if_false, sI_eq, uI_eq, and_self, true_and, and_true, not_false_eq_true, not_true_eq_false, Nat.reduceEqDiff, Nat.reduceLeDiff, Nat.reduceLT, Nat.reduceAdd, Nat.reduceMul, Nat.reduceSub, Nat.zero_add, p0, l5a]
theorem op_how (hok : rel_ok s) : op1 148 270 [.int x] s := by
  obtain ⟨tp, w, st, rf, o⟩ := s
  cases o with
  | none =>
    refine op_k (v := -nI 1) hok (fun d u I R Q h => ?_) (fun d I R Q hr h => ?_)
    · have C := get_nc h
      have hL := C.lun (Q := Q) (d + 89)
      rw [s148]
      simp (disch := first | omega | assumption) only [s148_0, s148_1, s148_4, s148_7, s148_8, s148_11, s148_12, s148_15, s148_16, s148_19, s148_22, s148_23, nI_le2, nI_lt2, nI_eq2, nI_lt0, nI_0le, nI_0lt, nI_le0, nI_eq0, nI_clamp, nI_add, bu_nI, bb_0, bb_1, rf_s, rf_n, tl_s, tl_n, am_th_some, if_true, if_false, sI_eq, uI_eq, and_self, true_and, and_true, not_false_eq_true, not_true_eq_false, Nat.reduceEqDiff, Nat.reduceLeDiff, Nat.reduceLT, Nat.reduceAdd, Nat.reduceMul, Nat.reduceSub, Nat.zero_add, hL]
    · have C := get_nm h
      have hL := C.lun (R := R) (Q := Q) (d + 89)
      rw [s270]
      simp (disch := first | omega | assumption) only [s270_0, s270_1, s270_4, s270_7, s270_8, s270_9, s270_12, s270_13, s270_14, s270_15, s270_17, s270_20, s270_23, s270_24, s270_27, s270_28, s270_29, s270_32, s270_33, s270_34, s270_35, s270_38, s270_41, s270_42, s270_43, s270_44, s270_45, s270_46, s270_50, s270_51, s270_54, s270_55, s270_56, s270_59, s270_60, s270_63, s270_64, s270_68, s270_70, s270_73, s270_74, s270_76, s270_79, s270_80, s270_81, s270_84, s270_87, s270_88, s270_89, s270_92, s270_94, s270_96, s270_97, s270_99, s270_100, s270_103, s270_104, s270_105, s270_108, s270_111, s270_114, s270_117, s270_120, s270_121, s270_125, s270_128, s270_131, s270_132, s270_135, s270_137, s270_138, s270_141, s270_143, s270_144, s270_145, s270_148, s270_152, s270_153, s270_156, s270_157, s270_160, s270_161, nI_le2, nI_lt2, nI_eq2, nI_lt0, nI_0le, nI_0lt, nI_le0, nI_eq0, nI_clamp, nI_add, bu_nI, bb_0, bb_1, rf_s, rf_n, tl_s, tl_n, am_th_some, if_true, if_false, sI_eq, uI_eq, and_self, true_and, and_true, not_false_eq_true, not_true_eq_false, Nat.reduceEqDiff, Nat.reduceLeDiff, Nat.reduceLT, Nat.reduceAdd, Nat.reduceMul, Nat.reduceSub, Nat.zero_add, hL]
  | some l =>
    obtain ⟨E, k, PK, tk, EL, im, ⟨k0, N0⟩, k1, N1⟩ := l
    have L := get_l hok
    have tm := L.tm
    obtain ⟨⟨hE, hg⟩, -, -, -, -, nk, hF⟩ := hok.2.2.2 _ rfl
    have hI := P0_I hE hg
    refine op_q (v := sp_weak (sp_ho (zT E w) k1 N1 (zP0 E) (E.2.1 2)) x) hok (fun d u I R Q h => ?_) (fun d I R Q hr h => ?_)
    · have C := get_c (Q := Q) h hok
      have hL := C.lun L (d + 89)
      obtain ⟨hR, -, ⟨-, -, -, l4, -⟩, -, -, -, n9⟩ := h
      obtain ⟨J, g1, g2⟩ := c_howSet (d := d + 80) (i := x) C.aa (hR.1.2.2.2.1 u hR.2.1).2.2.2.2.2 (by have := hR.2.1; omega) (Or.inl hR.2.1) l4 C.T L.hk (fun x X c => (L.ht x X).1 c) L.n25 hI (by decide) (C.ov 2 (by decide)) L.q9 C.n1 nk n9 hF
      replace g1 : am_cal (d + 89) _ _ _ _ _ = _ := g1
      refine ⟨J, ?_, fr_mo g2 fun a b j => ahq⟩
      rw [s148]
      simp (disch := first | omega | assumption) only [s148_0, s148_1, s148_4, s148_7, s148_8, s148_11, s148_12, s148_15, s148_16, s148_19, s148_22, s148_23, nI_le2, nI_lt2, nI_eq2, nI_lt0, nI_0le, nI_0lt, nI_le0, nI_eq0, nI_clamp, nI_add, bu_nI, bb_0, bb_1, rf_s, rf_n, tl_s, tl_n, am_th_some, if_true, if_false, sI_eq, uI_eq, and_self, true_and, and_true, not_false_eq_true, not_true_eq_false, Nat.reduceEqDiff, Nat.reduceLeDiff, Nat.reduceLT, Nat.reduceAdd, Nat.reduceMul, Nat.reduceSub, Nat.zero_add, hL, C.r9, C.r17, g1]
    · have C := get_m (Q := Q) hr h hok
      obtain ⟨-, ⟨-, -, l3, -⟩, -, -, -, n9⟩ := h
      obtain ⟨J, g1, g2⟩ := m_how (d := d + 81) (i := x) hr l3 C.hc L.n1 L.n25 C.T L.hk hI (by decide) (C.ov 2 (by decide)) L.q9 nk n9
      exact ⟨J, g1, fr_mo g2 fun a b j => mhq, mm_fr C.mm g2 (fun j _ w => by unfold mh_S at w; omega) (fun w => by unfold mh_S at w; omega)⟩
theorem op_status (hok : rel_ok s) : op1 125 235 [.int x] s := by
  obtain ⟨tp, w, st, rf, o⟩ := s
  refine op_k (v := if 0 ≤ x ∧ x ≤ nI 3 then rf x.toNatClampNeg else -nI 1) hok (fun d u I R Q h => ?_) (fun d I R Q hr h => ?_)
  · exact c_status (rF_11 h.1.1).2.2.2.2.2.1 h.2.1.2.2.2.2.2.1
  · exact m_status (d := d + 89) hr h.1.2.2.2
end
