/-! Queries, part four: SOONEST, WITHOUT, ONCE, JOINED. -/
section
variable {s : zSt} {x y z : Int32}
theorem op_soonest (hok : rel_ok s) : op1 132 245 [.int x] s := by
  obtain ⟨tp, w, st, rf, o⟩ := s
  cases o with
  | none =>
    refine op_k (v := -nI 1) hok (fun d u I R Q h => ?_) (fun d I R Q hr h => ?_)
    · have C := get_nc h
      have hL := C.lun (Q := Q) (d + 89)
      rw [s132]
      simp (disch := first | omega | assumption) only [s132_0, s132_1, s132_4, s132_7, s132_8, s132_9, s132_10, s132_13, s132_16, s132_17, s132_20, s132_21, s132_24, s132_25, s132_28, s132_31, s132_32, s132_33, s132_34, s132_37, s132_38, s132_41, s132_44, s132_47, s132_48, s132_51, s132_54, nI_le2, nI_lt2, nI_eq2, nI_lt0, nI_0le, nI_0lt, nI_le0, nI_eq0, nI_clamp, nI_add, bu_nI, bb_0, bb_1, rf_s, rf_n, tl_s, tl_n, am_th_some, if_true, if_false, sI_eq, uI_eq, and_self, true_and, and_true, not_false_eq_true, not_true_eq_false, Nat.reduceEqDiff, Nat.reduceLeDiff, Nat.reduceLT, Nat.reduceAdd, Nat.reduceMul, Nat.reduceSub, Nat.zero_add, hL]
    · have C := get_nm h
      have hL := C.lun (R := R) (Q := Q) (d + 89)
      rw [s245]
      simp (disch := first | omega | assumption) only [s245_0, s245_1, s245_4, s245_7, s245_8, s245_9, s245_10, s245_13, s245_16, s245_17, s245_18, s245_19, s245_20, s245_23, s245_24, s245_25, s245_26, s245_29, s245_30, s245_33, s245_34, s245_37, s245_38, s245_41, nI_le2, nI_lt2, nI_eq2, nI_lt0, nI_0le, nI_0lt, nI_le0, nI_eq0, nI_clamp, nI_add, bu_nI, bb_0, bb_1, rf_s, rf_n, tl_s, tl_n, am_th_some, if_true, if_false, sI_eq, uI_eq, and_self, true_and, and_true, not_false_eq_true, not_true_eq_false, Nat.reduceEqDiff, Nat.reduceLeDiff, Nat.reduceLT, Nat.reduceAdd, Nat.reduceMul, Nat.reduceSub, Nat.zero_add, hL]
  | some l =>
    obtain ⟨E, k, PK, tk, EL, im, ⟨k0, N0⟩, k1, N1⟩ := l
    have L := get_l hok
    have tm := L.tm
    by_cases e0 : nI 0 ≤ x ∧ x ≤ nI 1
    · obtain ⟨c0, h0, rfl⟩ := in_nat (by decide) e0
      have hneg : ∀ k, k < 7 → ¬ nI k = -nI 1 := fun k hk => by
        rcases (show k = 0 ∨ k = 1 ∨ k = 2 ∨ k = 3 ∨ k = 4 ∨ k = 5 ∨ k = 6 by omega) with rfl | rfl | rfl | rfl | rfl | rfl | rfl <;> decide
      by_cases ex : ∃ i r, sp_fr (zT E w) (nI (E.2.1 2)) (nI (E.2.1 5)) (zn E) 0 (PK k) i r
      · obtain ⟨i, r, hf⟩ := ex
        refine op_q (v := if c0 = 0 then nI i else nI r) hok (fun d u I R Q h => ?_) (fun d I R Q hr h => ?_)
        · have C := get_c (Q := Q) h hok
          have hL := C.lun L (d + 89)
          have p0 := c_within (d := d + 89) (x := nI c0) (a := nI 0) (b := nI 1) (I := I) (R := R) (Q := Q)
          rw [if_pos e0] at p0
          obtain ⟨J, g2, g⟩ := c_findRow (d := d + 73) C.aa L.hk L.b1 L.n25 L.q9 (first := 0) (by decide) C.T (C.ov 2 (by decide)) L.pt (by omega) (p := 12) (by decide) (by decide) C.pp
          rw [C.ov 5 (by decide)] at g
          rcases g with ⟨g1, -⟩ | ⟨i', r', a1, a2, a3, g1, g3, g4⟩
          · exact absurd g1 (fun w => fr_no hf w)
          · obtain ⟨rfl, rfl⟩ := fr_uni hf ⟨a1, a2, a3⟩
            replace g1 : am_cal (d + 89) _ _ _ _ _ = _ := g1
            refine ⟨J, ?_, fr_mo g2 fun a b j => ahq⟩
            rw [s132]
            simp (disch := first | omega | assumption) only [s132_0, s132_1, s132_4, s132_7, s132_8, s132_9, s132_10, s132_13, s132_16, s132_17, s132_20, s132_21, s132_24, s132_25, s132_28, s132_31, s132_32, s132_33, s132_34, s132_37, s132_38, s132_41, s132_44, s132_47, s132_48, s132_51, s132_54, nI_le2, nI_lt2, nI_eq2, nI_lt0, nI_0le, nI_0lt, nI_le0, nI_eq0, nI_clamp, nI_add, bu_nI, bb_0, bb_1, rf_s, rf_n, tl_s, tl_n, am_th_some, if_true, if_false, sI_eq, uI_eq, and_self, true_and, and_true, not_false_eq_true, not_true_eq_false, Nat.reduceEqDiff, Nat.reduceLeDiff, Nat.reduceLT, Nat.reduceAdd, Nat.reduceMul, Nat.reduceSub, Nat.zero_add, hL, p0, C.pa.2.1, C.r9, g1, g3, g4]
            rcases (show c0 = 0 ∨ c0 = 1 by omega) with rfl | rfl <;> rfl
        · have C := get_m (Q := Q) hr h hok
          have hL := C.lun L (d + 89)
          have p0 := m_inX (d := d + 89) (x := nI c0) (lo := nI 0) (hi := nI 1) (I := I) (R := R) (Q := Q)
          rw [if_pos e0] at p0
          obtain ⟨J, g2, g5, g⟩ := m_rowBy (d := d + 73) hr L.hk L.b1 L.n25 L.q9 (first := 0) (by decide) C.T (C.ov 2 (by decide)) L.pt (by omega) C.mm
          rw [C.ov 5 (by decide)] at g
          rcases g with ⟨g1, -⟩ | ⟨i', r', a1, a2, a3, g1, g3⟩
          · exact absurd g1 (fun w => fr_no hf w)
          · obtain ⟨rfl, rfl⟩ := fr_uni hf ⟨a1, a2, a3⟩
            replace g1 : am_cal (d + 89) _ _ _ _ _ = _ := g1
            have hn := hneg i a1
            refine ⟨J, ?_, fr_mo g2 fun a b j => maq, g5⟩
            rw [s245]
            simp (disch := first | omega | assumption) only [s245_0, s245_1, s245_4, s245_7, s245_8, s245_9, s245_10, s245_13, s245_16, s245_17, s245_18, s245_19, s245_20, s245_23, s245_24, s245_25, s245_26, s245_29, s245_30, s245_33, s245_34, s245_37, s245_38, s245_41, nI_le2, nI_lt2, nI_eq2, nI_lt0, nI_0le, nI_0lt, nI_le0, nI_eq0, nI_clamp, nI_add, bu_nI, bb_0, bb_1, rf_s, rf_n, tl_s, tl_n, am_th_some, if_true, if_false, sI_eq, uI_eq, and_self, true_and, and_true, not_false_eq_true, not_true_eq_false, Nat.reduceEqDiff, Nat.reduceLeDiff, Nat.reduceLT, Nat.reduceAdd, Nat.reduceMul, Nat.reduceSub, Nat.zero_add, hL, p0, g1, g3, hn]
            rcases (show c0 = 0 ∨ c0 = 1 by omega) with rfl | rfl <;> rfl
      · refine op_q (v := -nI 1) hok (fun d u I R Q h => ?_) (fun d I R Q hr h => ?_)
        · have C := get_c (Q := Q) h hok
          have hL := C.lun L (d + 89)
          have p0 := c_within (d := d + 89) (x := nI c0) (a := nI 0) (b := nI 1) (I := I) (R := R) (Q := Q)
          rw [if_pos e0] at p0
          obtain ⟨J, g2, g⟩ := c_findRow (d := d + 73) C.aa L.hk L.b1 L.n25 L.q9 (first := 0) (by decide) C.T (C.ov 2 (by decide)) L.pt (by omega) (p := 12) (by decide) (by decide) C.pp
          rw [C.ov 5 (by decide)] at g
          rcases g with ⟨-, g1⟩ | ⟨i', r', a1, a2, a3, -⟩
          · replace g1 : am_cal (d + 89) _ _ _ _ _ = _ := g1
            refine ⟨J, ?_, fr_mo g2 fun a b j => ahq⟩
            rw [s132]
            simp (disch := first | omega | assumption) only [s132_0, s132_1, s132_4, s132_7, s132_8, s132_9, s132_10, s132_13, s132_16, s132_17, s132_20, s132_21, s132_24, s132_25, s132_28, s132_31, s132_32, s132_33, s132_34, s132_37, s132_38, s132_41, s132_44, s132_47, s132_48, s132_51, s132_54, nI_le2, nI_lt2, nI_eq2, nI_lt0, nI_0le, nI_0lt, nI_le0, nI_eq0, nI_clamp, nI_add, bu_nI, bb_0, bb_1, rf_s, rf_n, tl_s, tl_n, am_th_some, if_true, if_false, sI_eq, uI_eq, and_self, true_and, and_true, not_false_eq_true, not_true_eq_false, Nat.reduceEqDiff, Nat.reduceLeDiff, Nat.reduceLT, Nat.reduceAdd, Nat.reduceMul, Nat.reduceSub, Nat.zero_add, hL, p0, C.pa.2.1, C.r9, g1]
          · exact absurd ⟨i', r', a1, a2, a3⟩ ex
        · have C := get_m (Q := Q) hr h hok
          have hL := C.lun L (d + 89)
          have p0 := m_inX (d := d + 89) (x := nI c0) (lo := nI 0) (hi := nI 1) (I := I) (R := R) (Q := Q)
          rw [if_pos e0] at p0
          obtain ⟨J, g2, g5, g⟩ := m_rowBy (d := d + 73) hr L.hk L.b1 L.n25 L.q9 (first := 0) (by decide) C.T (C.ov 2 (by decide)) L.pt (by omega) C.mm
          rw [C.ov 5 (by decide)] at g
          rcases g with ⟨-, g1⟩ | ⟨i', r', a1, a2, a3, -⟩
          · replace g1 : am_cal (d + 89) _ _ _ _ _ = _ := g1
            refine ⟨J, ?_, fr_mo g2 fun a b j => maq, g5⟩
            rw [s245]
            simp (disch := first | omega | assumption) only [s245_0, s245_1, s245_4, s245_7, s245_8, s245_9, s245_10, s245_13, s245_16, s245_17, s245_18, s245_19, s245_20, s245_23, s245_24, s245_25, s245_26, s245_29, s245_30, s245_33, s245_34, s245_37, s245_38, s245_41, nI_le2, nI_lt2, nI_eq2, nI_lt0, nI_0le, nI_0lt, nI_le0, nI_eq0, nI_clamp, nI_add, bu_nI, bb_0, bb_1, rf_s, rf_n, tl_s, tl_n, am_th_some, if_true, if_false, sI_eq, uI_eq, and_self, true_and, and_true, not_false_eq_true, not_true_eq_false, Nat.reduceEqDiff, Nat.reduceLeDiff, Nat.reduceLT, Nat.reduceAdd, Nat.reduceMul, Nat.reduceSub, Nat.zero_add, hL, p0, g1]
          · exact absurd ⟨i', r', a1, a2, a3⟩ ex
    · refine op_k (v := -nI 1) hok (fun d u I R Q h => ?_) (fun d I R Q hr h => ?_)
      · have C := get_c (Q := Q) h hok
        have hL := C.lun L (d + 89)
        have p0 := c_within (d := d + 89) (x := x) (a := nI 0) (b := nI 1) (I := I) (R := R) (Q := Q)
        rw [if_neg e0] at p0
        rw [s132]
        simp (disch := first | omega | assumption) only [s132_0, s132_1, s132_4, s132_7, s132_8, s132_9, s132_10, s132_13, s132_16, s132_17, s132_20, s132_21, s132_24, s132_25, s132_28, s132_31, s132_32, s132_33, s132_34, s132_37, s132_38, s132_41, s132_44, s132_47, s132_48, s132_51, s132_54, nI_le2, nI_lt2, nI_eq2, nI_lt0, nI_0le, nI_0lt, nI_le0, nI_eq0, nI_clamp, nI_add, bu_nI, bb_0, bb_1, rf_s, rf_n, tl_s, tl_n, am_th_some, if_true, if_false, sI_eq, uI_eq, and_self, true_and, and_true, not_false_eq_true, not_true_eq_false, Nat.reduceEqDiff, Nat.reduceLeDiff, Nat.reduceLT, Nat.reduceAdd, Nat.reduceMul, Nat.reduceSub, Nat.zero_add, hL, p0]
      · have C := get_m (Q := Q) hr h hok
        have hL := C.lun L (d + 89)
        have p0 := m_inX (d := d + 89) (x := x) (lo := nI 0) (hi := nI 1) (I := I) (R := R) (Q := Q)
        rw [if_neg e0] at p0
        rw [s245]
        simp (disch := first | omega | assumption) only [s245_0, s245_1, s245_4, s245_7, s245_8, s245_9, s245_10, s245_13, s245_16, s245_17, s245_18, s245_19, s245_20, s245_23, s245_24, s245_25, s245_26, s245_29, s245_30, s245_33, s245_34, s245_37, s245_38, s245_41, nI_le2, nI_lt2, nI_eq2, nI_lt0, nI_0le, nI_0lt, nI_le0, nI_eq0, nI_clamp, nI_add, bu_nI, bb_0, bb_1, rf_s, rf_n, tl_s, tl_n, am_th_some, if_true, if_false, sI_eq, uI_eq, and_self, true_and, and_true, not_false_eq_true, not_true_eq_false, Nat.reduceEqDiff, Nat.reduceLeDiff, Nat.reduceLT, Nat.reduceAdd, Nat.reduceMul, Nat.reduceSub, Nat.zero_add, hL, p0]
theorem op_without (hok : rel_ok s) : op1 133 246 [] s := by
  obtain ⟨tp, w, st, rf, o⟩ := s
  cases o with
  | none =>
    refine op_k (v := -nI 1) hok (fun d u I R Q h => ?_) (fun d I R Q hr h => ?_)
    · have C := get_nc h
      have hL := C.lun (Q := Q) (d + 89)
      rw [s133]
      simp (disch := first | omega | assumption) only [s133_0, s133_1, s133_4, s133_7, s133_8, s133_11, s133_12, s133_15, s133_16, s133_19, s133_22, s133_23, s133_26, s133_29, s133_32, s133_33, nI_le2, nI_lt2, nI_eq2, nI_lt0, nI_0le, nI_0lt, nI_le0, nI_eq0, nI_clamp, nI_add, bu_nI, bb_0, bb_1, rf_s, rf_n, tl_s, tl_n, am_th_some, if_true, if_false, sI_eq, uI_eq, and_self, true_and, and_true, not_false_eq_true, not_true_eq_false, Nat.reduceEqDiff, Nat.reduceLeDiff, Nat.reduceLT, Nat.reduceAdd, Nat.reduceMul, Nat.reduceSub, Nat.zero_add, hL]
    · have C := get_nm h
      have hL := C.lun (R := R) (Q := Q) (d + 89)
      rw [s246]
      simp (disch := first | omega | assumption) only [s246_0, s246_1, s246_4, s246_7, s246_8, s246_9, s246_12, s246_15, s246_16, nI_le2, nI_lt2, nI_eq2, nI_lt0, nI_0le, nI_0lt, nI_le0, nI_eq0, nI_clamp, nI_add, bu_nI, bb_0, bb_1, rf_s, rf_n, tl_s, tl_n, am_th_some, if_true, if_false, sI_eq, uI_eq, and_self, true_and, and_true, not_false_eq_true, not_true_eq_false, Nat.reduceEqDiff, Nat.reduceLeDiff, Nat.reduceLT, Nat.reduceAdd, Nat.reduceMul, Nat.reduceSub, Nat.zero_add, hL]
  | some l =>
    obtain ⟨E, k, PK, tk, EL, im, ⟨k0, N0⟩, k1, N1⟩ := l
    have L := get_l hok
    have tm := L.tm
    by_cases ex : ∃ i r, sp_fr (zT E w) (nI (E.2.1 2)) (nI (E.2.1 5)) (zn E) 1 (PK k) i r
    · obtain ⟨i, r, hf⟩ := ex
      refine op_q (v := nI i) hok (fun d u I R Q h => ?_) (fun d I R Q hr h => ?_)
      · have C := get_c (Q := Q) h hok
        have hL := C.lun L (d + 89)
        obtain ⟨J, g2, g⟩ := c_findRow (d := d + 73) C.aa L.hk L.b1 L.n25 L.q9 (first := 1) (by decide) C.T (C.ov 2 (by decide)) L.pt (by omega) (p := 12) (by decide) (by decide) C.pp
        rw [C.ov 5 (by decide)] at g
        rcases g with ⟨g1, -⟩ | ⟨i', r', a1, a2, a3, g1, g3, g4⟩
        · exact absurd g1 (fun w => fr_no hf w)
        · obtain ⟨rfl, rfl⟩ := fr_uni hf ⟨a1, a2, a3⟩
          replace g1 : am_cal (d + 89) _ _ _ _ _ = _ := g1
          refine ⟨J, ?_, fr_mo g2 fun a b j => ahq⟩
          rw [s133]
          simp (disch := first | omega | assumption) only [s133_0, s133_1, s133_4, s133_7, s133_8, s133_11, s133_12, s133_15, s133_16, s133_19, s133_22, s133_23, s133_26, s133_29, s133_32, s133_33, nI_le2, nI_lt2, nI_eq2, nI_lt0, nI_0le, nI_0lt, nI_le0, nI_eq0, nI_clamp, nI_add, bu_nI, bb_0, bb_1, rf_s, rf_n, tl_s, tl_n, am_th_some, if_true, if_false, sI_eq, uI_eq, and_self, true_and, and_true, not_false_eq_true, not_true_eq_false, Nat.reduceEqDiff, Nat.reduceLeDiff, Nat.reduceLT, Nat.reduceAdd, Nat.reduceMul, Nat.reduceSub, Nat.zero_add, hL, C.pa.2.1, C.r9, g1, g3, g4]
      · have C := get_m (Q := Q) hr h hok
        have hL := C.lun L (d + 89)
        obtain ⟨J, g2, g5, g⟩ := m_rowBy (d := d + 73) hr L.hk L.b1 L.n25 L.q9 (first := 1) (by decide) C.T (C.ov 2 (by decide)) L.pt (by omega) C.mm
        rw [C.ov 5 (by decide)] at g
        rcases g with ⟨g1, -⟩ | ⟨i', r', a1, a2, a3, g1, g3⟩
        · exact absurd g1 (fun w => fr_no hf w)
        · obtain ⟨rfl, rfl⟩ := fr_uni hf ⟨a1, a2, a3⟩
          replace g1 : am_cal (d + 89) _ _ _ _ _ = _ := g1
          refine ⟨J, ?_, fr_mo g2 fun a b j => maq, g5⟩
          rw [s246]
          simp (disch := first | omega | assumption) only [s246_0, s246_1, s246_4, s246_7, s246_8, s246_9, s246_12, s246_15, s246_16, nI_le2, nI_lt2, nI_eq2, nI_lt0, nI_0le, nI_0lt, nI_le0, nI_eq0, nI_clamp, nI_add, bu_nI, bb_0, bb_1, rf_s, rf_n, tl_s, tl_n, am_th_some, if_true, if_false, sI_eq, uI_eq, and_self, true_and, and_true, not_false_eq_true, not_true_eq_false, Nat.reduceEqDiff, Nat.reduceLeDiff, Nat.reduceLT, Nat.reduceAdd, Nat.reduceMul, Nat.reduceSub, Nat.zero_add, hL, g1]
    · refine op_q (v := -nI 1) hok (fun d u I R Q h => ?_) (fun d I R Q hr h => ?_)
      · have C := get_c (Q := Q) h hok
        have hL := C.lun L (d + 89)
        obtain ⟨J, g2, g⟩ := c_findRow (d := d + 73) C.aa L.hk L.b1 L.n25 L.q9 (first := 1) (by decide) C.T (C.ov 2 (by decide)) L.pt (by omega) (p := 12) (by decide) (by decide) C.pp
        rw [C.ov 5 (by decide)] at g
        rcases g with ⟨-, g1⟩ | ⟨i', r', a1, a2, a3, -⟩
        · replace g1 : am_cal (d + 89) _ _ _ _ _ = _ := g1
          refine ⟨J, ?_, fr_mo g2 fun a b j => ahq⟩
          rw [s133]
          simp (disch := first | omega | assumption) only [s133_0, s133_1, s133_4, s133_7, s133_8, s133_11, s133_12, s133_15, s133_16, s133_19, s133_22, s133_23, s133_26, s133_29, s133_32, s133_33, nI_le2, nI_lt2, nI_eq2, nI_lt0, nI_0le, nI_0lt, nI_le0, nI_eq0, nI_clamp, nI_add, bu_nI, bb_0, bb_1, rf_s, rf_n, tl_s, tl_n, am_th_some, if_true, if_false, sI_eq, uI_eq, and_self, true_and, and_true, not_false_eq_true, not_true_eq_false, Nat.reduceEqDiff, Nat.reduceLeDiff, Nat.reduceLT, Nat.reduceAdd, Nat.reduceMul, Nat.reduceSub, Nat.zero_add, hL, C.pa.2.1, C.r9, g1]
        · exact absurd ⟨i', r', a1, a2, a3⟩ ex
      · have C := get_m (Q := Q) hr h hok
        have hL := C.lun L (d + 89)
        obtain ⟨J, g2, g5, g⟩ := m_rowBy (d := d + 73) hr L.hk L.b1 L.n25 L.q9 (first := 1) (by decide) C.T (C.ov 2 (by decide)) L.pt (by omega) C.mm
        rw [C.ov 5 (by decide)] at g
        rcases g with ⟨-, g1⟩ | ⟨i', r', a1, a2, a3, -⟩
        · replace g1 : am_cal (d + 89) _ _ _ _ _ = _ := g1
          refine ⟨J, ?_, fr_mo g2 fun a b j => maq, g5⟩
          rw [s246]
          simp (disch := first | omega | assumption) only [s246_0, s246_1, s246_4, s246_7, s246_8, s246_9, s246_12, s246_15, s246_16, nI_le2, nI_lt2, nI_eq2, nI_lt0, nI_0le, nI_0lt, nI_le0, nI_eq0, nI_clamp, nI_add, bu_nI, bb_0, bb_1, rf_s, rf_n, tl_s, tl_n, am_th_some, if_true, if_false, sI_eq, uI_eq, and_self, true_and, and_true, not_false_eq_true, not_true_eq_false, Nat.reduceEqDiff, Nat.reduceLeDiff, Nat.reduceLT, Nat.reduceAdd, Nat.reduceMul, Nat.reduceSub, Nat.zero_add, hL, g1]
        · exact absurd ⟨i', r', a1, a2, a3⟩ ex
theorem op_joined (hok : rel_ok s) : op1 153 275 [.int x] s := by
  obtain ⟨tp, w, st, rf, o⟩ := s
  cases o with
  | none =>
    refine op_k (v := -nI 1) hok (fun d u I R Q h => ?_) (fun d I R Q hr h => ?_)
    · have C := get_nc h
      have hF := C.food (Q := Q) (d + 89) x
      rw [s153]
      simp (disch := first | omega | assumption) only [s153_0, s153_1, s153_4, s153_5, s153_8, s153_11, s153_12, s153_15, s153_16, s153_19, s153_20, s153_23, s153_26, s153_27, nI_le2, nI_lt2, nI_eq2, nI_lt0, nI_0le, nI_0lt, nI_le0, nI_eq0, nI_clamp, nI_add, bu_nI, bb_0, bb_1, rf_s, rf_n, tl_s, tl_n, am_th_some, if_true, if_false, sI_eq, uI_eq, and_self, true_and, and_true, not_false_eq_true, not_true_eq_false, Nat.reduceEqDiff, Nat.reduceLeDiff, Nat.reduceLT, Nat.reduceAdd, Nat.reduceMul, Nat.reduceSub, Nat.zero_add, hF, C.pa.2.1]
    · have C := get_nm h
      have hF := C.food (Q := Q) hr (d + 87) x
      rw [s275]
      simp (disch := first | omega | assumption) only [s275_0, s275_1, s275_2, s275_5, s275_8, s275_9, s275_10, s275_11, s275_12, s275_13, s275_14, s275_15, s275_17, s275_18, s275_21, s275_22, s275_23, s275_24, s275_28, s275_29, s275_32, s275_35, s275_36, s275_40, s275_41, s275_44, s275_45, s275_47, s275_50, s275_53, s275_54, s275_56, s275_58, s275_61, s275_63, s275_64, s275_65, s275_67, s275_70, s275_73, s275_74, s275_76, s275_77, s275_80, s275_81, s275_82, s275_83, s275_86, s275_92, s275_95, s275_98, s275_99, nI_le2, nI_lt2, nI_eq2, nI_lt0, nI_0le, nI_0lt, nI_le0, nI_eq0, nI_clamp, nI_add, bu_nI, bb_0, bb_1, rf_s, rf_n, tl_s, tl_n, am_th_some, if_true, if_false, sI_eq, uI_eq, and_self, true_and, and_true, not_false_eq_true, not_true_eq_false, Nat.reduceEqDiff, Nat.reduceLeDiff, Nat.reduceLT, Nat.reduceAdd, Nat.reduceMul, Nat.reduceSub, Nat.zero_add, hF]
  | some l =>
    obtain ⟨E, k, PK, tk, EL, im, ⟨k0, N0⟩, k1, N1⟩ := l
    have L := get_l hok
    have wh := L.wh
    by_cases e0 : pp_f (PK k) x
    · obtain ⟨c, hc, rfl, hf⟩ := pp_f_of L.pt.1 L.n25 e0
      have key : ∀ S : Nat, (∃ S', jn_ok (E.2.1 0) (E.2.1 1) (zn E) (PK k) c S' ∧ nI S' = nI S) ∨ ¬ ∃ S', jn_ok (E.2.1 0) (E.2.1 1) (zn E) (PK k) c S' ∧ nI S' = nI S := fun S => Classical.em _
      by_cases ex : ∃ S, jn_ok (E.2.1 0) (E.2.1 1) (zn E) (PK k) c S
      · obtain ⟨S, hS⟩ := ex
        refine op_q (v := nI S) hok (fun d u I R Q h => ?_) (fun d I R Q hr h => ?_)
        · have C := get_c (Q := Q) h hok
          have hF := C.food L (d + 89) (nI c)
          rw [if_pos e0] at hF
          obtain ⟨S', h1, g1⟩ := c_foodFrom (d := d + 87) (R := R) (Q := Q) C.kk (C.aa.2.2.2.2.1 12 (by decide)) C.pp L.pt.1 (w := E.2.1 0) (h := E.2.1 1) rfl (by omega) (by omega) C.bs L.n25 hc
          obtain rfl := jn_uni hS h1
          replace g1 : am_cal (d + 89) _ _ _ _ _ = _ := g1
          refine ⟨I, ?_, fr_rf⟩
          rw [s153]
          simp (disch := first | omega | assumption) only [s153_0, s153_1, s153_4, s153_5, s153_8, s153_11, s153_12, s153_15, s153_16, s153_19, s153_20, s153_23, s153_26, s153_27, nI_le2, nI_lt2, nI_eq2, nI_lt0, nI_0le, nI_0lt, nI_le0, nI_eq0, nI_clamp, nI_add, bu_nI, bb_0, bb_1, rf_s, rf_n, tl_s, tl_n, am_th_some, if_true, if_false, sI_eq, uI_eq, and_self, true_and, and_true, not_false_eq_true, not_true_eq_false, Nat.reduceEqDiff, Nat.reduceLeDiff, Nat.reduceLT, Nat.reduceAdd, Nat.reduceMul, Nat.reduceSub, Nat.zero_add, hF, C.pa.1, C.pa.2.1, g1]
        · have C := get_m (Q := Q) hr h hok
          obtain ⟨S', h1, g1⟩ := m_joined (d := d + 87) (Q := Q) hr C.mo C.mm L.pt.1 L.n25 hc hf
          obtain rfl := jn_uni hS h1
          exact ⟨I, g1, fr_rf, C.mm⟩
      · refine op_q (v := nI 0) hok (fun d u I R Q h => ?_) (fun d I R Q hr h => ?_)
        · have C := get_c (Q := Q) h hok
          obtain ⟨S', h1, g1⟩ := c_foodFrom (d := d + 87) (R := R) (Q := Q) C.kk (C.aa.2.2.2.2.1 12 (by decide)) C.pp L.pt.1 (w := E.2.1 0) (h := E.2.1 1) rfl (by omega) (by omega) C.bs L.n25 hc
          exact absurd ⟨S', h1⟩ ex
        · have C := get_m (Q := Q) hr h hok
          obtain ⟨S', h1, g1⟩ := m_joined (d := d + 87) (Q := Q) hr C.mo C.mm L.pt.1 L.n25 hc hf
          exact absurd ⟨S', h1⟩ ex
    · refine op_k (v := -nI 1) hok (fun d u I R Q h => ?_) (fun d I R Q hr h => ?_)
      · have C := get_c (Q := Q) h hok
        have hF := C.food L (d + 89) x
        rw [if_neg e0] at hF
        rw [s153]
        simp (disch := first | omega | assumption) only [s153_0, s153_1, s153_4, s153_5, s153_8, s153_11, s153_12, s153_15, s153_16, s153_19, s153_20, s153_23, s153_26, s153_27, nI_le2, nI_lt2, nI_eq2, nI_lt0, nI_0le, nI_0lt, nI_le0, nI_eq0, nI_clamp, nI_add, bu_nI, bb_0, bb_1, rf_s, rf_n, tl_s, tl_n, am_th_some, if_true, if_false, sI_eq, uI_eq, and_self, true_and, and_true, not_false_eq_true, not_true_eq_false, Nat.reduceEqDiff, Nat.reduceLeDiff, Nat.reduceLT, Nat.reduceAdd, Nat.reduceMul, Nat.reduceSub, Nat.zero_add, hF, C.pa.2.1]
      · have C := get_m (Q := Q) hr h hok
        have hF : am_cal (d + 89) _ _ _ _ _ = _ := C.food L (d + 87) x
        rw [if_neg e0] at hF
        rw [s275]
        simp (disch := first | omega | assumption) only [s275_0, s275_1, s275_2, s275_5, s275_8, s275_9, s275_10, s275_11, s275_12, s275_13, s275_14, s275_15, s275_17, s275_18, s275_21, s275_22, s275_23, s275_24, s275_28, s275_29, s275_32, s275_35, s275_36, s275_40, s275_41, s275_44, s275_45, s275_47, s275_50, s275_53, s275_54, s275_56, s275_58, s275_61, s275_63, s275_64, s275_65, s275_67, s275_70, s275_73, s275_74, s275_76, s275_77, s275_80, s275_81, s275_82, s275_83, s275_86, s275_92, s275_95, s275_98, s275_99, nI_le2, nI_lt2, nI_eq2, nI_lt0, nI_0le, nI_0lt, nI_le0, nI_eq0, nI_clamp, nI_add, bu_nI, bb_0, bb_1, rf_s, rf_n, tl_s, tl_n, am_th_some, if_true, if_false, sI_eq, uI_eq, and_self, true_and, and_true, not_false_eq_true, not_true_eq_false, Nat.reduceEqDiff, Nat.reduceLeDiff, Nat.reduceLT, Nat.reduceAdd, Nat.reduceMul, Nat.reduceSub, Nat.zero_add, hF]
end
