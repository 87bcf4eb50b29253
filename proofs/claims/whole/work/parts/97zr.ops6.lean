/-! Queries, part six: ONCE, LOG. -/
section
variable {s : zSt} {x y z : Int32}
theorem op_once (hok : rel_ok s) : op1 141 259 [.int x, .int y] s := by
  obtain ⟨tp, w, st, rf, o⟩ := s
  cases o with
  | none =>
    refine op_k (v := -nI 1) hok (fun d u I R Q h => ?_) (fun d I R Q hr h => ?_)
    · have C := get_nc h
      have hL := C.lun (Q := Q) (d + 89)
      rw [s141]
      simp (disch := first | omega | assumption) only [s141_0, s141_1, s141_4, s141_7, s141_8, s141_9, s141_12, s141_13, s141_14, s141_17, s141_18, s141_19, s141_20, s141_23, s141_26, s141_27, s141_28, s141_29, s141_32, s141_33, s141_36, s141_37, s141_40, s141_41, s141_44, s141_45, s141_46, s141_49, s141_50, s141_51, s141_54, s141_55, s141_58, s141_59, s141_62, s141_65, s141_66, s141_67, s141_68, s141_71, s141_72, s141_75, s141_76, s141_77, s141_78, nI_le2, nI_lt2, nI_eq2, nI_lt0, nI_0le, nI_0lt, nI_le0, nI_eq0, nI_clamp, nI_add, bu_nI, bb_0, bb_1, rf_s, rf_n, tl_s, tl_n, am_th_some, if_true, if_false, sI_eq, uI_eq, and_self, true_and, and_true, not_false_eq_true, not_true_eq_false, Nat.reduceEqDiff, Nat.reduceLeDiff, Nat.reduceLT, Nat.reduceAdd, Nat.reduceMul, Nat.reduceSub, Nat.zero_add, hL]
    · have C := get_nm h
      have hL := C.lun (R := R) (Q := Q) (d + 89)
      rw [s259]
      simp (disch := first | omega | assumption) only [s259_0, s259_1, s259_4, s259_7, s259_8, s259_9, s259_10, s259_13, s259_16, s259_17, s259_18, s259_19, s259_22, s259_25, s259_26, s259_27, s259_28, s259_29, s259_32, s259_33, s259_36, s259_37, s259_38, s259_39, s259_40, s259_43, s259_44, s259_47, s259_48, s259_49, s259_52, s259_53, s259_54, s259_55, s259_58, s259_59, s259_62, s259_63, s259_66, s259_67, s259_68, s259_69, nI_le2, nI_lt2, nI_eq2, nI_lt0, nI_0le, nI_0lt, nI_le0, nI_eq0, nI_clamp, nI_add, bu_nI, bb_0, bb_1, rf_s, rf_n, tl_s, tl_n, am_th_some, if_true, if_false, sI_eq, uI_eq, and_self, true_and, and_true, not_false_eq_true, not_true_eq_false, Nat.reduceEqDiff, Nat.reduceLeDiff, Nat.reduceLT, Nat.reduceAdd, Nat.reduceMul, Nat.reduceSub, Nat.zero_add, hL]
  | some l =>
    obtain ⟨E, k, PK, tk, EL, im, ⟨k0, N0⟩, k1, N1⟩ := l
    have L := get_l hok
    have tm := L.tm
    have q9 := L.q9
    by_cases e0 : nI 1 ≤ x ∧ x ≤ nI 4
    · by_cases e1 : nI 0 ≤ y ∧ y ≤ nI 1
      · obtain ⟨c0, l0, h0, rfl⟩ := in_nat1 (by decide) e0
        obtain ⟨c1, h1, rfl⟩ := in_nat (by decide) e1
        have g1 : ¬ c0 < 1 := by omega
        have g4 : ¬ 4 < c0 := by omega
        have gz : ¬ c0 = 0 := by omega
        rcases (show c1 = 0 ∨ c1 = 1 by omega) with rfl | rfl
        · have hq9 : E.2.1 2 / c0 ≤ 9 := Nat.le_trans (Nat.div_le_self _ _) q9
          refine op_q (v := sp_first (fun j => sp_safe (nI (E.2.1 5)) (zn E) (sp_it (zT E w) (nI (E.2.1 2 / c0)) (PK k) j)) 61) hok (fun d u I R Q h => ?_) (fun d I R Q hr h => ?_)
          · have C := get_c (Q := Q) h hok
            have hL := C.lun L (d + 89)
            have p1 := c_within (d := d + 89) (x := nI 0) (a := nI 0) (b := nI 1) (I := I) (R := R) (Q := Q)
            rw [if_pos e1] at p1
            have hk := C.kk.1
            have hk2 := C.kk.2.2.2.1
            have ov := C.ov 2 (by decide)
            have hF : am_cal (d + 89) 107 [.ref (am_mk 11 0)] I R Q = some (some (.int (nI (E.2.1 2))), I, R, Q) := by
              rw [s107]
              simp (disch := first | omega | assumption) only [s107_0, s107_1, s107_4, s107_7, s107_10, s107_11, s107_12, nI_le2, nI_lt2, nI_eq2, nI_lt0, nI_0le, nI_0lt, nI_le0, nI_eq0, nI_clamp, nI_add, bu_nI, bb_0, bb_1, rf_s, rf_n, tl_s, tl_n, am_th_some, if_true, if_false, sI_eq, uI_eq, and_self, true_and, and_true, not_false_eq_true, not_true_eq_false, Nat.reduceEqDiff, Nat.reduceLeDiff, Nat.reduceLT, Nat.reduceAdd, Nat.reduceMul, Nat.reduceSub, Nat.zero_add, C.pa.1, hk, hk2, ov]
            obtain ⟨J, g1', g2⟩ := c_tensTillSafe (d := d + 80) C.aa C.T L.hk L.n25 L.pt (by omega) hq9 (p := 12) (by decide) (by decide) C.pp
            rw [C.ov 5 (by decide)] at g1'
            replace g1' : am_cal (d + 89) _ _ _ _ _ = _ := g1'
            refine ⟨J, ?_, fr_mo g2 fun a b j => ahq⟩
            rw [s141]
            simp (disch := first | omega | assumption) only [s141_0, s141_1, s141_4, s141_7, s141_8, s141_9, s141_12, s141_13, s141_14, s141_17, s141_18, s141_19, s141_20, s141_23, s141_26, s141_27, s141_28, s141_29, s141_32, s141_33, s141_36, s141_37, s141_40, s141_41, s141_44, s141_45, s141_46, s141_49, s141_50, s141_51, s141_54, s141_55, s141_58, s141_59, s141_62, s141_65, s141_66, s141_67, s141_68, s141_71, s141_72, s141_75, s141_76, s141_77, s141_78, nI_le2, nI_lt2, nI_eq2, nI_lt0, nI_0le, nI_0lt, nI_le0, nI_eq0, nI_clamp, nI_add, bu_nI, bb_0, bb_1, rf_s, rf_n, tl_s, tl_n, am_th_some, if_true, if_false, sI_eq, uI_eq, and_self, true_and, and_true, not_false_eq_true, not_true_eq_false, Nat.reduceEqDiff, Nat.reduceLeDiff, Nat.reduceLT, Nat.reduceAdd, Nat.reduceMul, Nat.reduceSub, Nat.zero_add, hL, p1, C.pa.2.1, C.r9, hF, g1, g4, gz, nI_div, g1']
          · have C := get_m (Q := Q) hr h hok
            have hL := C.lun L (d + 89)
            have p0 := m_inX (d := d + 89) (x := nI c0) (lo := nI 1) (hi := nI 4) (I := I) (R := R) (Q := Q)
            rw [if_pos e0] at p0
            have p1 := m_inX (d := d + 89) (x := nI 0) (lo := nI 0) (hi := nI 1) (I := I) (R := R) (Q := Q)
            rw [if_pos e1] at p1
            have ov := C.ov 2 (by decide)
            obtain ⟨J, g1', g2, g3⟩ := m_spanOf (d := d + 80) hr C.T L.hk L.b1 L.n25 L.pt (by omega) hq9 C.mm
            rw [C.ov 5 (by decide)] at g1'
            replace g1' : am_cal (d + 89) _ _ _ _ _ = _ := g1'
            refine ⟨J, ?_, fr_mo g2 fun a b j => maq, g3⟩
            rw [s259]
            simp (disch := first | omega | assumption) only [s259_0, s259_1, s259_4, s259_7, s259_8, s259_9, s259_10, s259_13, s259_16, s259_17, s259_18, s259_19, s259_22, s259_25, s259_26, s259_27, s259_28, s259_29, s259_32, s259_33, s259_36, s259_37, s259_38, s259_39, s259_40, s259_43, s259_44, s259_47, s259_48, s259_49, s259_52, s259_53, s259_54, s259_55, s259_58, s259_59, s259_62, s259_63, s259_66, s259_67, s259_68, s259_69, nI_le2, nI_lt2, nI_eq2, nI_lt0, nI_0le, nI_0lt, nI_le0, nI_eq0, nI_clamp, nI_add, bu_nI, bb_0, bb_1, rf_s, rf_n, tl_s, tl_n, am_th_some, if_true, if_false, sI_eq, uI_eq, and_self, true_and, and_true, not_false_eq_true, not_true_eq_false, Nat.reduceEqDiff, Nat.reduceLeDiff, Nat.reduceLT, Nat.reduceAdd, Nat.reduceMul, Nat.reduceSub, Nat.zero_add, hL, p0, p1, mr24 hr, ov, gz, nI_div, g1']
            split <;> rfl
        · have n10 : ¬ (1 : Nat) = 0 := by decide
          generalize hV : sp_first (fun j => sp_safe (nI (E.2.1 5)) (zn E) (sp_it (zT E w) (nI (E.2.1 2)) (PK k) j)) 61 = V
          refine op_q (v := if V = -nI 1 then -nI 1 else nI c0 * V) hok (fun d u I R Q h => ?_) (fun d I R Q hr h => ?_)
          · have C := get_c (Q := Q) h hok
            have hL := C.lun L (d + 89)
            have p1 := c_within (d := d + 89) (x := nI 1) (a := nI 0) (b := nI 1) (I := I) (R := R) (Q := Q)
            rw [if_pos e1] at p1
            have hk := C.kk.1
            have hk2 := C.kk.2.2.2.1
            have ov := C.ov 2 (by decide)
            have hF : am_cal (d + 89) 107 [.ref (am_mk 11 0)] I R Q = some (some (.int (nI (E.2.1 2))), I, R, Q) := by
              rw [s107]
              simp (disch := first | omega | assumption) only [s107_0, s107_1, s107_4, s107_7, s107_10, s107_11, s107_12, nI_le2, nI_lt2, nI_eq2, nI_lt0, nI_0le, nI_0lt, nI_le0, nI_eq0, nI_clamp, nI_add, bu_nI, bb_0, bb_1, rf_s, rf_n, tl_s, tl_n, am_th_some, if_true, if_false, sI_eq, uI_eq, and_self, true_and, and_true, not_false_eq_true, not_true_eq_false, Nat.reduceEqDiff, Nat.reduceLeDiff, Nat.reduceLT, Nat.reduceAdd, Nat.reduceMul, Nat.reduceSub, Nat.zero_add, C.pa.1, hk, hk2, ov]
            obtain ⟨J, g1', g2⟩ := c_tensTillSafe (d := d + 80) C.aa C.T L.hk L.n25 L.pt (by omega) q9 (p := 12) (by decide) (by decide) C.pp
            rw [C.ov 5 (by decide), hV] at g1'
            replace g1' : am_cal (d + 89) _ _ _ _ _ = _ := g1'
            refine ⟨J, ?_, fr_mo g2 fun a b j => ahq⟩
            rw [s141]
            by_cases qv : V = -nI 1
            · have qv' := eq_true qv
              simp (disch := first | omega | assumption) only [s141_0, s141_1, s141_4, s141_7, s141_8, s141_9, s141_12, s141_13, s141_14, s141_17, s141_18, s141_19, s141_20, s141_23, s141_26, s141_27, s141_28, s141_29, s141_32, s141_33, s141_36, s141_37, s141_40, s141_41, s141_44, s141_45, s141_46, s141_49, s141_50, s141_51, s141_54, s141_55, s141_58, s141_59, s141_62, s141_65, s141_66, s141_67, s141_68, s141_71, s141_72, s141_75, s141_76, s141_77, s141_78, nI_le2, nI_lt2, nI_eq2, nI_lt0, nI_0le, nI_0lt, nI_le0, nI_eq0, nI_clamp, nI_add, bu_nI, bb_0, bb_1, rf_s, rf_n, tl_s, tl_n, am_th_some, if_true, if_false, sI_eq, uI_eq, and_self, true_and, and_true, not_false_eq_true, not_true_eq_false, Nat.reduceEqDiff, Nat.reduceLeDiff, Nat.reduceLT, Nat.reduceAdd, Nat.reduceMul, Nat.reduceSub, Nat.zero_add, hL, p1, C.pa.2.1, C.r9, hF, g1, g4, gz, n10, g1', qv']
            · simp (disch := first | omega | assumption) only [s141_0, s141_1, s141_4, s141_7, s141_8, s141_9, s141_12, s141_13, s141_14, s141_17, s141_18, s141_19, s141_20, s141_23, s141_26, s141_27, s141_28, s141_29, s141_32, s141_33, s141_36, s141_37, s141_40, s141_41, s141_44, s141_45, s141_46, s141_49, s141_50, s141_51, s141_54, s141_55, s141_58, s141_59, s141_62, s141_65, s141_66, s141_67, s141_68, s141_71, s141_72, s141_75, s141_76, s141_77, s141_78, nI_le2, nI_lt2, nI_eq2, nI_lt0, nI_0le, nI_0lt, nI_le0, nI_eq0, nI_clamp, nI_add, bu_nI, bb_0, bb_1, rf_s, rf_n, tl_s, tl_n, am_th_some, if_true, if_false, sI_eq, uI_eq, and_self, true_and, and_true, not_false_eq_true, not_true_eq_false, Nat.reduceEqDiff, Nat.reduceLeDiff, Nat.reduceLT, Nat.reduceAdd, Nat.reduceMul, Nat.reduceSub, Nat.zero_add, hL, p1, C.pa.2.1, C.r9, hF, g1, g4, gz, n10, g1', qv]
          · have C := get_m (Q := Q) hr h hok
            have hL := C.lun L (d + 89)
            have p0 := m_inX (d := d + 89) (x := nI c0) (lo := nI 1) (hi := nI 4) (I := I) (R := R) (Q := Q)
            rw [if_pos e0] at p0
            have p1 := m_inX (d := d + 89) (x := nI 1) (lo := nI 0) (hi := nI 1) (I := I) (R := R) (Q := Q)
            rw [if_pos e1] at p1
            have ov := C.ov 2 (by decide)
            obtain ⟨J, g1', g2, g3⟩ := m_spanOf (d := d + 80) hr C.T L.hk L.b1 L.n25 L.pt (by omega) q9 C.mm
            rw [C.ov 5 (by decide), hV] at g1'
            replace g1' : am_cal (d + 89) _ _ _ _ _ = _ := g1'
            refine ⟨J, ?_, fr_mo g2 fun a b j => maq, g3⟩
            rw [s259]
            by_cases qv : V = -nI 1
            · have qv' := eq_true qv
              simp (disch := first | omega | assumption) only [s259_0, s259_1, s259_4, s259_7, s259_8, s259_9, s259_10, s259_13, s259_16, s259_17, s259_18, s259_19, s259_22, s259_25, s259_26, s259_27, s259_28, s259_29, s259_32, s259_33, s259_36, s259_37, s259_38, s259_39, s259_40, s259_43, s259_44, s259_47, s259_48, s259_49, s259_52, s259_53, s259_54, s259_55, s259_58, s259_59, s259_62, s259_63, s259_66, s259_67, s259_68, s259_69, nI_le2, nI_lt2, nI_eq2, nI_lt0, nI_0le, nI_0lt, nI_le0, nI_eq0, nI_clamp, nI_add, bu_nI, bb_0, bb_1, rf_s, rf_n, tl_s, tl_n, am_th_some, if_true, if_false, sI_eq, uI_eq, and_self, true_and, and_true, not_false_eq_true, not_true_eq_false, Nat.reduceEqDiff, Nat.reduceLeDiff, Nat.reduceLT, Nat.reduceAdd, Nat.reduceMul, Nat.reduceSub, Nat.zero_add, hL, p0, p1, mr24 hr, ov, gz, n10, g1', qv']
              rw [qv]
            · simp (disch := first | omega | assumption) only [s259_0, s259_1, s259_4, s259_7, s259_8, s259_9, s259_10, s259_13, s259_16, s259_17, s259_18, s259_19, s259_22, s259_25, s259_26, s259_27, s259_28, s259_29, s259_32, s259_33, s259_36, s259_37, s259_38, s259_39, s259_40, s259_43, s259_44, s259_47, s259_48, s259_49, s259_52, s259_53, s259_54, s259_55, s259_58, s259_59, s259_62, s259_63, s259_66, s259_67, s259_68, s259_69, nI_le2, nI_lt2, nI_eq2, nI_lt0, nI_0le, nI_0lt, nI_le0, nI_eq0, nI_clamp, nI_add, bu_nI, bb_0, bb_1, rf_s, rf_n, tl_s, tl_n, am_th_some, if_true, if_false, sI_eq, uI_eq, and_self, true_and, and_true, not_false_eq_true, not_true_eq_false, Nat.reduceEqDiff, Nat.reduceLeDiff, Nat.reduceLT, Nat.reduceAdd, Nat.reduceMul, Nat.reduceSub, Nat.zero_add, hL, p0, p1, mr24 hr, ov, gz, n10, g1', qv]
      · refine op_k (v := -nI 1) hok (fun d u I R Q h => ?_) (fun d I R Q hr h => ?_)
        · obtain ⟨c0, l0, h0, rfl⟩ := in_nat1 (by decide) e0
          have g1 : ¬ c0 < 1 := by omega
          have g4 : ¬ 4 < c0 := by omega
          have C := get_c (Q := Q) h hok
          have hL := C.lun L (d + 89)
          have p1 := c_within (d := d + 89) (x := y) (a := nI 0) (b := nI 1) (I := I) (R := R) (Q := Q)
          rw [if_neg e1] at p1
          rw [s141]
          simp (disch := first | omega | assumption) only [s141_0, s141_1, s141_4, s141_7, s141_8, s141_9, s141_12, s141_13, s141_14, s141_17, s141_18, s141_19, s141_20, s141_23, s141_26, s141_27, s141_28, s141_29, s141_32, s141_33, s141_36, s141_37, s141_40, s141_41, s141_44, s141_45, s141_46, s141_49, s141_50, s141_51, s141_54, s141_55, s141_58, s141_59, s141_62, s141_65, s141_66, s141_67, s141_68, s141_71, s141_72, s141_75, s141_76, s141_77, s141_78, nI_le2, nI_lt2, nI_eq2, nI_lt0, nI_0le, nI_0lt, nI_le0, nI_eq0, nI_clamp, nI_add, bu_nI, bb_0, bb_1, rf_s, rf_n, tl_s, tl_n, am_th_some, if_true, if_false, sI_eq, uI_eq, and_self, true_and, and_true, not_false_eq_true, not_true_eq_false, Nat.reduceEqDiff, Nat.reduceLeDiff, Nat.reduceLT, Nat.reduceAdd, Nat.reduceMul, Nat.reduceSub, Nat.zero_add, hL, p1, g1, g4]
        · have C := get_m (Q := Q) hr h hok
          have hL := C.lun L (d + 89)
          have p0 := m_inX (d := d + 89) (x := x) (lo := nI 1) (hi := nI 4) (I := I) (R := R) (Q := Q)
          rw [if_pos e0] at p0
          have p1 := m_inX (d := d + 89) (x := y) (lo := nI 0) (hi := nI 1) (I := I) (R := R) (Q := Q)
          rw [if_neg e1] at p1
          rw [s259]
          simp (disch := first | omega | assumption) only [s259_0, s259_1, s259_4, s259_7, s259_8, s259_9, s259_10, s259_13, s259_16, s259_17, s259_18, s259_19, s259_22, s259_25, s259_26, s259_27, s259_28, s259_29, s259_32, s259_33, s259_36, s259_37, s259_38, s259_39, s259_40, s259_43, s259_44, s259_47, s259_48, s259_49, s259_52, s259_53, s259_54, s259_55, s259_58, s259_59, s259_62, s259_63, s259_66, s259_67, s259_68, s259_69, nI_le2, nI_lt2, nI_eq2, nI_lt0, nI_0le, nI_0lt, nI_le0, nI_eq0, nI_clamp, nI_add, bu_nI, bb_0, bb_1, rf_s, rf_n, tl_s, tl_n, am_th_some, if_true, if_false, sI_eq, uI_eq, and_self, true_and, and_true, not_false_eq_true, not_true_eq_false, Nat.reduceEqDiff, Nat.reduceLeDiff, Nat.reduceLT, Nat.reduceAdd, Nat.reduceMul, Nat.reduceSub, Nat.zero_add, hL, p0, p1]
    · refine op_k (v := -nI 1) hok (fun d u I R Q h => ?_) (fun d I R Q hr h => ?_)
      · have C := get_c (Q := Q) h hok
        have hL := C.lun L (d + 89)
        rw [s141]
        by_cases a1 : x < nI 1
        · simp (disch := first | omega | assumption) only [s141_0, s141_1, s141_4, s141_7, s141_8, s141_9, s141_12, s141_13, s141_14, s141_17, s141_18, s141_19, s141_20, s141_23, s141_26, s141_27, s141_28, s141_29, s141_32, s141_33, s141_36, s141_37, s141_40, s141_41, s141_44, s141_45, s141_46, s141_49, s141_50, s141_51, s141_54, s141_55, s141_58, s141_59, s141_62, s141_65, s141_66, s141_67, s141_68, s141_71, s141_72, s141_75, s141_76, s141_77, s141_78, nI_le2, nI_lt2, nI_eq2, nI_lt0, nI_0le, nI_0lt, nI_le0, nI_eq0, nI_clamp, nI_add, bu_nI, bb_0, bb_1, rf_s, rf_n, tl_s, tl_n, am_th_some, if_true, if_false, sI_eq, uI_eq, and_self, true_and, and_true, not_false_eq_true, not_true_eq_false, Nat.reduceEqDiff, Nat.reduceLeDiff, Nat.reduceLT, Nat.reduceAdd, Nat.reduceMul, Nat.reduceSub, Nat.zero_add, hL, a1]
        · have a4 : nI 4 < x := Int32.not_le.mp fun w => e0 ⟨Int32.not_lt.mp a1, w⟩
          simp (disch := first | omega | assumption) only [s141_0, s141_1, s141_4, s141_7, s141_8, s141_9, s141_12, s141_13, s141_14, s141_17, s141_18, s141_19, s141_20, s141_23, s141_26, s141_27, s141_28, s141_29, s141_32, s141_33, s141_36, s141_37, s141_40, s141_41, s141_44, s141_45, s141_46, s141_49, s141_50, s141_51, s141_54, s141_55, s141_58, s141_59, s141_62, s141_65, s141_66, s141_67, s141_68, s141_71, s141_72, s141_75, s141_76, s141_77, s141_78, nI_le2, nI_lt2, nI_eq2, nI_lt0, nI_0le, nI_0lt, nI_le0, nI_eq0, nI_clamp, nI_add, bu_nI, bb_0, bb_1, rf_s, rf_n, tl_s, tl_n, am_th_some, if_true, if_false, sI_eq, uI_eq, and_self, true_and, and_true, not_false_eq_true, not_true_eq_false, Nat.reduceEqDiff, Nat.reduceLeDiff, Nat.reduceLT, Nat.reduceAdd, Nat.reduceMul, Nat.reduceSub, Nat.zero_add, hL, a1, a4]
      · have C := get_m (Q := Q) hr h hok
        have hL := C.lun L (d + 89)
        have p0 := m_inX (d := d + 89) (x := x) (lo := nI 1) (hi := nI 4) (I := I) (R := R) (Q := Q)
        rw [if_neg e0] at p0
        rw [s259]
        simp (disch := first | omega | assumption) only [s259_0, s259_1, s259_4, s259_7, s259_8, s259_9, s259_10, s259_13, s259_16, s259_17, s259_18, s259_19, s259_22, s259_25, s259_26, s259_27, s259_28, s259_29, s259_32, s259_33, s259_36, s259_37, s259_38, s259_39, s259_40, s259_43, s259_44, s259_47, s259_48, s259_49, s259_52, s259_53, s259_54, s259_55, s259_58, s259_59, s259_62, s259_63, s259_66, s259_67, s259_68, s259_69, nI_le2, nI_lt2, nI_eq2, nI_lt0, nI_0le, nI_0lt, nI_le0, nI_eq0, nI_clamp, nI_add, bu_nI, bb_0, bb_1, rf_s, rf_n, tl_s, tl_n, am_th_some, if_true, if_false, sI_eq, uI_eq, and_self, true_and, and_true, not_false_eq_true, not_true_eq_false, Nat.reduceEqDiff, Nat.reduceLeDiff, Nat.reduceLT, Nat.reduceAdd, Nat.reduceMul, Nat.reduceSub, Nat.zero_add, hL, p0]
theorem min_if (t : Nat) : (if 60 < t then nI 60 else nI t) = nI (min t 60) := by
  by_cases e : 60 < t
  · rw [if_pos e, Nat.min_eq_right (by omega)]
  · rw [if_neg e, Nat.min_eq_left (by omega)]
theorem c_logLen {t : Nat} {d : Nat} {I : am_I} {R : am_R} {Q : am_Q} (hr : R 11 0 10 = some (am_mk 9 12)) (ht : I 9 12 5 = nI t) (h : t < 2 ^ 31) : am_cal d 127 [.ref (am_mk 11 0)] I R Q = some (some (.int (nI (min t 60))), I, R, Q) := by
  have e := min_if t
  rw [s127]
  simp (disch := first | omega | assumption) only [s127_0, s127_1, s127_4, s127_7, s127_9, s127_12, nI_le2, nI_lt2, nI_eq2, nI_lt0, nI_0le, nI_0lt, nI_le0, nI_eq0, nI_clamp, nI_add, bu_nI, bb_0, bb_1, rf_s, rf_n, tl_s, tl_n, am_th_some, if_true, if_false, sI_eq, uI_eq, and_self, true_and, and_true, not_false_eq_true, not_true_eq_false, Nat.reduceEqDiff, Nat.reduceLeDiff, Nat.reduceLT, Nat.reduceAdd, Nat.reduceMul, Nat.reduceSub, Nat.zero_add, hr, ht, e]
/-- what a row of the LOG says -/
def sp_le (E : Nat → Nat → Int32) (t : Nat) (y : Int32) : Int32 := if y = nI 0 then E t 0 else if y = nI 1 then E t 1 else if y = nI 2 then E t 2 else -nI 1
theorem op_log (hok : rel_ok s) : op1 128 237 [.int x, .int y] s := by
  obtain ⟨tp, w, st, rf, o⟩ := s
  cases o with
  | none =>
    refine op_k (v := -nI 1) hok (fun d u I R Q h => ?_) (fun d I R Q hr h => ?_)
    · have C := get_nc h
      have hl := c_logLen (d := d + 89) (t := 0) (Q := Q) C.pa.2.1 C.pp.2.2.1 (by decide)
      rw [s128]
      by_cases h0 : x < 0
      · simp (disch := first | omega | assumption) only [s128_0, s128_1, s128_4, s128_5, s128_6, s128_9, s128_12, s128_13, s128_14, s128_15, s128_18, s128_19, s128_22, s128_25, s128_26, s128_27, s128_28, s128_31, nI_le2, nI_lt2, nI_eq2, nI_lt0, nI_0le, nI_0lt, nI_le0, nI_eq0, nI_clamp, nI_add, bu_nI, bb_0, bb_1, rf_s, rf_n, tl_s, tl_n, am_th_some, if_true, if_false, sI_eq, uI_eq, and_self, true_and, and_true, not_false_eq_true, not_true_eq_false, Nat.reduceEqDiff, Nat.reduceLeDiff, Nat.reduceLT, Nat.reduceAdd, Nat.reduceMul, Nat.reduceSub, Nat.zero_add, h0]
      · obtain ⟨j, hj, rfl⟩ := nI_of h0
        simp (disch := first | omega | assumption) only [s128_0, s128_1, s128_4, s128_5, s128_6, s128_9, s128_12, s128_13, s128_14, s128_15, s128_18, s128_19, s128_22, s128_25, s128_26, s128_27, s128_28, s128_31, nI_le2, nI_lt2, nI_eq2, nI_lt0, nI_0le, nI_0lt, nI_le0, nI_eq0, nI_clamp, nI_add, bu_nI, bb_0, bb_1, rf_s, rf_n, tl_s, tl_n, am_th_some, if_true, if_false, sI_eq, uI_eq, and_self, true_and, and_true, not_false_eq_true, not_true_eq_false, Nat.reduceEqDiff, Nat.reduceLeDiff, Nat.reduceLT, Nat.reduceAdd, Nat.reduceMul, Nat.reduceSub, Nat.zero_add, hl, Nat.zero_min, Nat.not_lt_zero]
    · have C := get_nm h
      have hz := C.z 102 (by decide)
      have p0 := m_inX (d := d + 89) (x := x) (lo := nI 0) (hi := nI 0 - nI 1) (I := I) (R := R) (Q := Q)
      rw [if_neg (fun w => by have := (in_pred (D := 0) (by decide)).mp w; exact Int32.not_lt.mpr this.1 (by rw [← nI_0]; exact this.2))] at p0
      rw [s237]
      simp (disch := first | omega | assumption) only [s237_0, s237_1, s237_2, s237_3, s237_6, s237_8, s237_9, s237_10, s237_11, s237_14, s237_17, s237_18, s237_19, s237_20, s237_23, s237_26, s237_27, s237_30, s237_32, s237_33, s237_34, s237_37, s237_39, s237_40, s237_41, s237_42, s237_43, s237_44, s237_45, s237_46, s237_47, s237_48, s237_49, s237_52, s237_53, nI_le2, nI_lt2, nI_eq2, nI_lt0, nI_0le, nI_0lt, nI_le0, nI_eq0, nI_clamp, nI_add, bu_nI, bb_0, bb_1, rf_s, rf_n, tl_s, tl_n, am_th_some, if_true, if_false, sI_eq, uI_eq, and_self, true_and, and_true, not_false_eq_true, not_true_eq_false, Nat.reduceEqDiff, Nat.reduceLeDiff, Nat.reduceLT, Nat.reduceAdd, Nat.reduceMul, Nat.reduceSub, Nat.zero_add, p0, mr31 hr, hz]
  | some l =>
    obtain ⟨E, k, PK, tk, EL, im, ⟨k0, N0⟩, k1, N1⟩ := l
    have L := get_l hok
    have tm := L.tm
    have hdk := (hok.2.2.2 _ rfl).2.1
    have hmono := (hd_mono hdk 0 k (Nat.zero_le _) (Nat.le_refl _)).1
    generalize hm : min (tk k) 60 = m
    have m1 : m ≤ 60 := by rw [← hm]; exact Nat.min_le_right _ _
    have m2 : m ≤ tk k := by rw [← hm]; exact Nat.min_le_left _ _
    have m3 : tk k ≤ 60 ∨ m = 60 := by omega
    by_cases e0 : 0 ≤ x ∧ x < nI m
    · obtain ⟨i, hi, rfl⟩ := am_in e0.1 e0.2 (by omega)
      have hit : i ≤ tk k := by omega
      refine op_k (v := sp_le EL (tk k - i) y) hok (fun d u I R Q h => ?_) (fun d I R Q hr h => ?_)
      · have C := get_c (Q := Q) h hok
        obtain ⟨-, -, -, ⟨f, lo, h6⟩, -⟩ := h
        have h5 : I 9 12 5 = nI (tk k) := C.pp.2.2.1.trans L.p1
        have hl := c_logLen (d := d + 89) (t := tk k) (Q := Q) C.pa.2.1 h5 (by omega)
        rw [hm] at hl
        have hlo := h6.2.2.2.2.2.2
        have g := c_entry (d := d + 88) (Q := Q) (w := y) C.pa.2.2.2.2.2.2.2.1 h6.2.2.2.2.2.1 (x := tk k - i) (by omega) (by omega) (by omega)
        have es := nI_sub hit
        rw [s128]
        simp (disch := first | omega | assumption) only [s128_0, s128_1, s128_4, s128_5, s128_6, s128_9, s128_12, s128_13, s128_14, s128_15, s128_18, s128_19, s128_22, s128_25, s128_26, s128_27, s128_28, s128_31, nI_le2, nI_lt2, nI_eq2, nI_lt0, nI_0le, nI_0lt, nI_le0, nI_eq0, nI_clamp, nI_add, bu_nI, bb_0, bb_1, rf_s, rf_n, tl_s, tl_n, am_th_some, if_true, if_false, sI_eq, uI_eq, and_self, true_and, and_true, not_false_eq_true, not_true_eq_false, Nat.reduceEqDiff, Nat.reduceLeDiff, Nat.reduceLT, Nat.reduceAdd, Nat.reduceMul, Nat.reduceSub, Nat.zero_add, hl, hi, C.pa.2.1, C.pa.2.2.1, h5, es, g, sp_le]
      · have C := get_m (Q := Q) hr h hok
        obtain ⟨-, -, h6, -⟩ := h
        obtain ⟨s1, s2, s3, s4, s5⟩ := h6.2.2.2
        rw [hm, Nat.zero_add] at s4
        have p0 := m_inX (d := d + 89) (x := nI i) (lo := nI 0) (hi := nI m - nI 1) (I := I) (R := R) (Q := Q)
        rw [if_pos ((in_pred (by omega)).mpr e0)] at p0
        have es : nI m - nI 1 - nI i = nI (m - 1 - i) := by rw [nI_sub (by omega), nI_sub (by omega)]
        rw [s237]
        by_cases e1 : nI 0 ≤ y ∧ y ≤ nI 2
        · obtain ⟨c1, h1, rfl⟩ := in_nat (by decide) e1
          have p1 := m_inX (d := d + 89) (x := nI c1) (lo := nI 0) (hi := nI 2) (I := I) (R := R) (Q := Q)
          rw [if_pos e1] at p1
          have hx : 103 + 3 * (m - 1 - i) + c1 < 283 := by omega
          have g := s5 (m - 1 - i) c1 (by rw [hm]; omega) (by omega)
          rw [hm, Nat.zero_add, show tk k - m + 1 + (m - 1 - i) = tk k - i by omega] at g
          simp (disch := first | omega | assumption) only [s237_0, s237_1, s237_2, s237_3, s237_6, s237_8, s237_9, s237_10, s237_11, s237_14, s237_17, s237_18, s237_19, s237_20, s237_23, s237_26, s237_27, s237_30, s237_32, s237_33, s237_34, s237_37, s237_39, s237_40, s237_41, s237_42, s237_43, s237_44, s237_45, s237_46, s237_47, s237_48, s237_49, s237_52, s237_53, nI_le2, nI_lt2, nI_eq2, nI_lt0, nI_0le, nI_0lt, nI_le0, nI_eq0, nI_clamp, nI_add, bu_nI, bb_0, bb_1, rf_s, rf_n, tl_s, tl_n, am_th_some, if_true, if_false, sI_eq, uI_eq, and_self, true_and, and_true, not_false_eq_true, not_true_eq_false, Nat.reduceEqDiff, Nat.reduceLeDiff, Nat.reduceLT, Nat.reduceAdd, Nat.reduceMul, Nat.reduceSub, Nat.zero_add, p0, p1, mr31 hr, s4, es, nI_mul, hx, g]
          rcases (show c1 = 0 ∨ c1 = 1 ∨ c1 = 2 by omega) with rfl | rfl | rfl <;> rfl
        · have p1 := m_inX (d := d + 89) (x := y) (lo := nI 0) (hi := nI 2) (I := I) (R := R) (Q := Q)
          rw [if_neg e1] at p1
          have n0 : ¬ y = nI 0 := fun w => e1 (by rw [w]; exact ⟨by decide, by decide⟩)
          have n1 : ¬ y = nI 1 := fun w => e1 (by rw [w]; exact ⟨by decide, by decide⟩)
          have n2 : ¬ y = nI 2 := fun w => e1 (by rw [w]; exact ⟨by decide, by decide⟩)
          have hv : sp_le EL (tk k - i) y = -nI 1 := by rw [sp_le, if_neg n0, if_neg n1, if_neg n2]
          rw [hv]
          simp (disch := first | omega | assumption) only [s237_0, s237_1, s237_2, s237_3, s237_6, s237_8, s237_9, s237_10, s237_11, s237_14, s237_17, s237_18, s237_19, s237_20, s237_23, s237_26, s237_27, s237_30, s237_32, s237_33, s237_34, s237_37, s237_39, s237_40, s237_41, s237_42, s237_43, s237_44, s237_45, s237_46, s237_47, s237_48, s237_49, s237_52, s237_53, nI_le2, nI_lt2, nI_eq2, nI_lt0, nI_0le, nI_0lt, nI_le0, nI_eq0, nI_clamp, nI_add, bu_nI, bb_0, bb_1, rf_s, rf_n, tl_s, tl_n, am_th_some, if_true, if_false, sI_eq, uI_eq, and_self, true_and, and_true, not_false_eq_true, not_true_eq_false, Nat.reduceEqDiff, Nat.reduceLeDiff, Nat.reduceLT, Nat.reduceAdd, Nat.reduceMul, Nat.reduceSub, Nat.zero_add, p0, p1, mr31 hr, s4]
    · refine op_k (v := -nI 1) hok (fun d u I R Q h => ?_) (fun d I R Q hr h => ?_)
      · have C := get_c (Q := Q) h hok
        have h5 : I 9 12 5 = nI (tk k) := C.pp.2.2.1.trans L.p1
        have hl := c_logLen (d := d + 89) (t := tk k) (Q := Q) C.pa.2.1 h5 (by omega)
        rw [hm] at hl
        rw [s128]
        by_cases h0 : x < 0
        · simp (disch := first | omega | assumption) only [s128_0, s128_1, s128_4, s128_5, s128_6, s128_9, s128_12, s128_13, s128_14, s128_15, s128_18, s128_19, s128_22, s128_25, s128_26, s128_27, s128_28, s128_31, nI_le2, nI_lt2, nI_eq2, nI_lt0, nI_0le, nI_0lt, nI_le0, nI_eq0, nI_clamp, nI_add, bu_nI, bb_0, bb_1, rf_s, rf_n, tl_s, tl_n, am_th_some, if_true, if_false, sI_eq, uI_eq, and_self, true_and, and_true, not_false_eq_true, not_true_eq_false, Nat.reduceEqDiff, Nat.reduceLeDiff, Nat.reduceLT, Nat.reduceAdd, Nat.reduceMul, Nat.reduceSub, Nat.zero_add, h0]
        · obtain ⟨j, hj, rfl⟩ := nI_of h0
          have hjm : ¬ j < m := fun w => e0 ⟨nI_pos' hj, by rw [nI_lt2 hj (by omega)]; exact w⟩
          simp (disch := first | omega | assumption) only [s128_0, s128_1, s128_4, s128_5, s128_6, s128_9, s128_12, s128_13, s128_14, s128_15, s128_18, s128_19, s128_22, s128_25, s128_26, s128_27, s128_28, s128_31, nI_le2, nI_lt2, nI_eq2, nI_lt0, nI_0le, nI_0lt, nI_le0, nI_eq0, nI_clamp, nI_add, bu_nI, bb_0, bb_1, rf_s, rf_n, tl_s, tl_n, am_th_some, if_true, if_false, sI_eq, uI_eq, and_self, true_and, and_true, not_false_eq_true, not_true_eq_false, Nat.reduceEqDiff, Nat.reduceLeDiff, Nat.reduceLT, Nat.reduceAdd, Nat.reduceMul, Nat.reduceSub, Nat.zero_add, hl, hjm]
      · have C := get_m (Q := Q) hr h hok
        obtain ⟨-, -, h6, -⟩ := h
        obtain ⟨s1, s2, s3, s4, s5⟩ := h6.2.2.2
        rw [hm, Nat.zero_add] at s4
        have p0 := m_inX (d := d + 89) (x := x) (lo := nI 0) (hi := nI m - nI 1) (I := I) (R := R) (Q := Q)
        rw [if_neg (fun w => e0 ((in_pred (by omega)).mp w))] at p0
        rw [s237]
        simp (disch := first | omega | assumption) only [s237_0, s237_1, s237_2, s237_3, s237_6, s237_8, s237_9, s237_10, s237_11, s237_14, s237_17, s237_18, s237_19, s237_20, s237_23, s237_26, s237_27, s237_30, s237_32, s237_33, s237_34, s237_37, s237_39, s237_40, s237_41, s237_42, s237_43, s237_44, s237_45, s237_46, s237_47, s237_48, s237_49, s237_52, s237_53, nI_le2, nI_lt2, nI_eq2, nI_lt0, nI_0le, nI_0lt, nI_le0, nI_eq0, nI_clamp, nI_add, bu_nI, bb_0, bb_1, rf_s, rf_n, tl_s, tl_n, am_th_some, if_true, if_false, sI_eq, uI_eq, and_self, true_and, and_true, not_false_eq_true, not_true_eq_false, Nat.reduceEqDiff, Nat.reduceLeDiff, Nat.reduceLT, Nat.reduceAdd, Nat.reduceMul, Nat.reduceSub, Nat.zero_add, p0, mr31 hr, s4]
end
