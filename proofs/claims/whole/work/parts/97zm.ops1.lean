/-! Queries, part one: SPAN and what is about the plate now. -/
section
variable {s : zSt} {x y z : Int32}
theorem op_span (hok : rel_ok s) : op1 131 242 [.int x] s := by
  obtain ⟨tp, w, st, rf, o⟩ := s
  cases o with
  | none =>
    refine op_k (v := -nI 1) hok (fun d u I R Q h => ?_) (fun d I R Q hr h => ?_)
    · have C := get_nc h
      have hL := C.lun (Q := Q) (d + 89)
      have r10 := C.pa.2.1
      rw [s131]
      simp (disch := first | omega | assumption) only [s131_0, s131_1, s131_4, s131_7, s131_8, s131_9, s131_12, s131_15, s131_16, s131_19, s131_20, s131_23, s131_24, s131_27, s131_30, s131_31, nI_le2, nI_lt2, nI_eq2, nI_lt0, nI_0le, nI_0lt, nI_le0, nI_eq0, nI_clamp, nI_add, bu_nI, bb_0, bb_1, rf_s, rf_n, tl_s, tl_n, am_th_some, if_true, if_false, sI_eq, uI_eq, and_self, true_and, and_true, not_false_eq_true, not_true_eq_false, Nat.reduceEqDiff, Nat.reduceLeDiff, Nat.reduceLT, Nat.reduceAdd, Nat.reduceMul, Nat.reduceSub, Nat.zero_add, hL, r10]
    · have C := get_nm h
      have hL := C.lun (R := R) (Q := Q) (d + 89)
      have hp0 := fun x => m_power0 (d := d + 88) (R := R) (Q := Q) (x := x) C.hc
      rw [s242]
      simp (disch := first | omega | assumption) only [s242_0, s242_1, s242_2, s242_5, s242_8, s242_9, s242_10, s242_13, s242_16, s242_17, nI_le2, nI_lt2, nI_eq2, nI_lt0, nI_0le, nI_0lt, nI_le0, nI_eq0, nI_clamp, nI_add, bu_nI, bb_0, bb_1, rf_s, rf_n, tl_s, tl_n, am_th_some, if_true, if_false, sI_eq, uI_eq, and_self, true_and, and_true, not_false_eq_true, not_true_eq_false, Nat.reduceEqDiff, Nat.reduceLeDiff, Nat.reduceLT, Nat.reduceAdd, Nat.reduceMul, Nat.reduceSub, Nat.zero_add, hL, hp0]
  | some l =>
    obtain ⟨E, k, PK, tk, EL, im, ⟨k0, N0⟩, k1, N1⟩ := l
    have L := get_l hok
    by_cases e0 : 0 ≤ x ∧ x ≤ nI (E.2.1 2)
    · obtain ⟨q, hq, rfl⟩ := in_nat0 (by have := L.q9; omega) e0
      have hq9 : q ≤ 9 := Nat.le_trans hq L.q9
      refine op_q (v := sp_first (fun j => sp_safe (nI (E.2.1 5)) (zn E) (sp_it (zT E w) (nI q) (PK k) j)) 61) hok (fun d u I R Q h => ?_) (fun d I R Q hr h => ?_)
      · have C := get_c (Q := Q) h hok
        have hL := C.lun L (d + 89)
        have p0 := C.pow L (d + 89) (nI q)
        rw [if_pos e0] at p0
        obtain ⟨J, g1, g2⟩ := c_tensTillSafe (d := d + 80) C.aa C.T L.hk L.n25 L.pt (by have := L.tm; omega) hq9 (p := 12) (by decide) (by decide) C.pp
        rw [C.ov 5 (by decide)] at g1
        replace g1 : am_cal (d + 89) _ _ _ _ _ = _ := g1
        refine ⟨J, ?_, fr_mo g2 fun a b j => ahq⟩
        rw [s131]
        simp (disch := first | omega | assumption) only [s131_0, s131_1, s131_4, s131_7, s131_8, s131_9, s131_12, s131_15, s131_16, s131_19, s131_20, s131_23, s131_24, s131_27, s131_30, s131_31, nI_le2, nI_lt2, nI_eq2, nI_lt0, nI_0le, nI_0lt, nI_le0, nI_eq0, nI_clamp, nI_add, bu_nI, bb_0, bb_1, rf_s, rf_n, tl_s, tl_n, am_th_some, if_true, if_false, sI_eq, uI_eq, and_self, true_and, and_true, not_false_eq_true, not_true_eq_false, Nat.reduceEqDiff, Nat.reduceLeDiff, Nat.reduceLT, Nat.reduceAdd, Nat.reduceMul, Nat.reduceSub, Nat.zero_add, hL, p0, C.pa.1, C.pa.2.1, C.r9, C.r16, C.r17, g1]
      · have C := get_m (Q := Q) hr h hok
        have hL := C.lun L (d + 89)
        have p0 : am_cal (d + 89) _ _ _ _ _ = _ := C.pow L (d + 88) (nI q)
        rw [if_pos e0] at p0
        obtain ⟨J, g1, g2, g3⟩ := m_spanOf (d := d + 80) hr C.T L.hk L.b1 L.n25 L.pt (by have := L.tm; omega) hq9 C.mm
        rw [C.ov 5 (by decide)] at g1
        replace g1 : am_cal (d + 89) _ _ _ _ _ = _ := g1
        refine ⟨J, ?_, fr_mo g2 fun a b j => maq, g3⟩
        rw [s242]
        simp (disch := first | omega | assumption) only [s242_0, s242_1, s242_2, s242_5, s242_8, s242_9, s242_10, s242_13, s242_16, s242_17, nI_le2, nI_lt2, nI_eq2, nI_lt0, nI_0le, nI_0lt, nI_le0, nI_eq0, nI_clamp, nI_add, bu_nI, bb_0, bb_1, rf_s, rf_n, tl_s, tl_n, am_th_some, if_true, if_false, sI_eq, uI_eq, and_self, true_and, and_true, not_false_eq_true, not_true_eq_false, Nat.reduceEqDiff, Nat.reduceLeDiff, Nat.reduceLT, Nat.reduceAdd, Nat.reduceMul, Nat.reduceSub, Nat.zero_add, hL, p0, g1]
    · refine op_k (v := -nI 1) hok (fun d u I R Q h => ?_) (fun d I R Q hr h => ?_)
      · have C := get_c (Q := Q) h hok
        have hL := C.lun L (d + 89)
        have p0 := C.pow L (d + 89) x
        rw [if_neg e0] at p0
        rw [s131]
        simp (disch := first | omega | assumption) only [s131_0, s131_1, s131_4, s131_7, s131_8, s131_9, s131_12, s131_15, s131_16, s131_19, s131_20, s131_23, s131_24, s131_27, s131_30, s131_31, nI_le2, nI_lt2, nI_eq2, nI_lt0, nI_0le, nI_0lt, nI_le0, nI_eq0, nI_clamp, nI_add, bu_nI, bb_0, bb_1, rf_s, rf_n, tl_s, tl_n, am_th_some, if_true, if_false, sI_eq, uI_eq, and_self, true_and, and_true, not_false_eq_true, not_true_eq_false, Nat.reduceEqDiff, Nat.reduceLeDiff, Nat.reduceLT, Nat.reduceAdd, Nat.reduceMul, Nat.reduceSub, Nat.zero_add, hL, p0, C.pa.1, C.pa.2.1, C.r9, C.r16, C.r17]
      · have C := get_m (Q := Q) hr h hok
        have hL := C.lun L (d + 89)
        have p0 : am_cal (d + 89) _ _ _ _ _ = _ := C.pow L (d + 88) x
        rw [if_neg e0] at p0
        rw [s242]
        simp (disch := first | omega | assumption) only [s242_0, s242_1, s242_2, s242_5, s242_8, s242_9, s242_10, s242_13, s242_16, s242_17, nI_le2, nI_lt2, nI_eq2, nI_lt0, nI_0le, nI_0lt, nI_le0, nI_eq0, nI_clamp, nI_add, bu_nI, bb_0, bb_1, rf_s, rf_n, tl_s, tl_n, am_th_some, if_true, if_false, sI_eq, uI_eq, and_self, true_and, and_true, not_false_eq_true, not_true_eq_false, Nat.reduceEqDiff, Nat.reduceLeDiff, Nat.reduceLT, Nat.reduceAdd, Nat.reduceMul, Nat.reduceSub, Nat.zero_add, hL, p0]
theorem op_bite (hok : rel_ok s) : op1 144 264 [] s := by
  obtain ⟨tp, w, st, rf, o⟩ := s
  cases o with
  | none =>
    refine op_k (v := -nI 1) hok (fun d u I R Q h => ?_) (fun d I R Q hr h => ?_)
    · have C := get_nc h
      have hL := C.lun (Q := Q) (d + 89)
      rw [s144]
      simp (disch := first | omega | assumption) only [s144_0, s144_1, s144_4, s144_7, s144_8, s144_9, s144_10, s144_11, s144_12, s144_13, s144_14, s144_15, s144_18, s144_21, s144_24, s144_25, s144_28, s144_29, s144_32, s144_35, s144_36, s144_37, s144_40, s144_41, s144_42, s144_43, s144_46, s144_49, s144_50, s144_51, s144_54, s144_57, s144_58, nI_le2, nI_lt2, nI_eq2, nI_lt0, nI_0le, nI_0lt, nI_le0, nI_eq0, nI_clamp, nI_add, bu_nI, bb_0, bb_1, rf_s, rf_n, tl_s, tl_n, am_th_some, if_true, if_false, sI_eq, uI_eq, and_self, true_and, and_true, not_false_eq_true, not_true_eq_false, Nat.reduceEqDiff, Nat.reduceLeDiff, Nat.reduceLT, Nat.reduceAdd, Nat.reduceMul, Nat.reduceSub, Nat.zero_add, hL]
    · have C := get_nm h
      have hL := C.lun (R := R) (Q := Q) (d + 89)
      exact m_bite (d := d + 87) (n := 0) hr C.mm rfl (by decide)
  | some l =>
    obtain ⟨E, k, PK, tk, EL, im, ⟨k0, N0⟩, k1, N1⟩ := l
    have L := get_l hok
    refine op_k (v := sp_bite (PK k) (zn E)) hok (fun d u I R Q h => ?_) (fun d I R Q hr h => ?_)
    · have C := get_c (Q := Q) h hok
      exact c_bite (d := d + 89) C.pa C.pp L.pt.1 L.n25 L.n1
    · have C := get_m (Q := Q) hr h hok
      exact m_bite (d := d + 87) hr C.mm L.pt.1 L.n25
theorem op_mean (hok : rel_ok s) : op1 149 271 [] s := by
  obtain ⟨tp, w, st, rf, o⟩ := s
  cases o with
  | none =>
    refine op_k (v := -nI 1) hok (fun d u I R Q h => ?_) (fun d I R Q hr h => ?_)
    · have C := get_nc h
      have hL := C.lun (Q := Q) (d + 89)
      rw [s149]
      simp (disch := first | omega | assumption) only [s149_0, s149_1, s149_4, s149_7, s149_8, s149_11, s149_14, s149_17, s149_18, nI_le2, nI_lt2, nI_eq2, nI_lt0, nI_0le, nI_0lt, nI_le0, nI_eq0, nI_clamp, nI_add, bu_nI, bb_0, bb_1, rf_s, rf_n, tl_s, tl_n, am_th_some, if_true, if_false, sI_eq, uI_eq, and_self, true_and, and_true, not_false_eq_true, not_true_eq_false, Nat.reduceEqDiff, Nat.reduceLeDiff, Nat.reduceLT, Nat.reduceAdd, Nat.reduceMul, Nat.reduceSub, Nat.zero_add, hL]
    · have C := get_nm h
      have hL := C.lun (R := R) (Q := Q) (d + 89)
      rw [s271]
      simp (disch := first | omega | assumption) only [s271_0, s271_1, s271_4, s271_7, s271_8, s271_10, s271_13, s271_16, s271_17, nI_le2, nI_lt2, nI_eq2, nI_lt0, nI_0le, nI_0lt, nI_le0, nI_eq0, nI_clamp, nI_add, bu_nI, bb_0, bb_1, rf_s, rf_n, tl_s, tl_n, am_th_some, if_true, if_false, sI_eq, uI_eq, and_self, true_and, and_true, not_false_eq_true, not_true_eq_false, Nat.reduceEqDiff, Nat.reduceLeDiff, Nat.reduceLT, Nat.reduceAdd, Nat.reduceMul, Nat.reduceSub, Nat.zero_add, hL]
  | some l =>
    obtain ⟨E, k, PK, tk, EL, im, ⟨k0, N0⟩, k1, N1⟩ := l
    have L := get_l hok
    refine op_k (v := sp_dv (sp_deg (PK k)) (sp_foods (PK k))) hok (fun d u I R Q h => ?_) (fun d I R Q hr h => ?_)
    · have C := get_c (Q := Q) h hok
      exact c_mean (d := d + 88) C.pa C.pp L.pt.1 L.n25 L.n1
    · have C := get_m (Q := Q) hr h hok
      exact m_mean (d := d + 85) L.b1 hr C.mm L.n25 L.n1 L.pt
theorem op_hottest (hok : rel_ok s) : op1 150 272 [] s := by
  obtain ⟨tp, w, st, rf, o⟩ := s
  cases o with
  | none =>
    refine op_k (v := -nI 1) hok (fun d u I R Q h => ?_) (fun d I R Q hr h => ?_)
    · have C := get_nc h
      have hL := C.lun (Q := Q) (d + 89)
      rw [s150]
      simp (disch := first | omega | assumption) only [s150_0, s150_1, s150_4, s150_7, s150_8, s150_9, s150_10, s150_11, s150_12, s150_13, s150_14, s150_15, s150_18, s150_21, s150_24, s150_25, s150_28, s150_29, s150_32, s150_35, s150_36, s150_37, s150_40, s150_41, s150_44, s150_47, s150_48, s150_49, s150_50, s150_53, s150_56, s150_57, s150_58, s150_61, s150_62, s150_63, s150_66, s150_69, s150_70, nI_le2, nI_lt2, nI_eq2, nI_lt0, nI_0le, nI_0lt, nI_le0, nI_eq0, nI_clamp, nI_add, bu_nI, bb_0, bb_1, rf_s, rf_n, tl_s, tl_n, am_th_some, if_true, if_false, sI_eq, uI_eq, and_self, true_and, and_true, not_false_eq_true, not_true_eq_false, Nat.reduceEqDiff, Nat.reduceLeDiff, Nat.reduceLT, Nat.reduceAdd, Nat.reduceMul, Nat.reduceSub, Nat.zero_add, hL]
    · have C := get_nm h
      have hL := C.lun (R := R) (Q := Q) (d + 89)
      exact m_hottest (d := d + 86) (n := 0) hr C.mm rfl (by decide)
  | some l =>
    obtain ⟨E, k, PK, tk, EL, im, ⟨k0, N0⟩, k1, N1⟩ := l
    have L := get_l hok
    refine op_k (v := sp_ext (PK k) true (zn E)) hok (fun d u I R Q h => ?_) (fun d I R Q hr h => ?_)
    · have C := get_c (Q := Q) h hok
      exact c_hottest (d := d + 89) C.pa C.pp L.pt.1 L.n25 L.n1
    · have C := get_m (Q := Q) hr h hok
      exact m_hottest (d := d + 86) hr C.mm L.pt.1 L.n25
theorem op_rim (hok : rel_ok s) : op1 151 273 [] s := by
  obtain ⟨tp, w, st, rf, o⟩ := s
  cases o with
  | none =>
    refine op_k (v := -nI 1) hok (fun d u I R Q h => ?_) (fun d I R Q hr h => ?_)
    · have C := get_nc h
      have hL := C.lun (Q := Q) (d + 89)
      rw [s151]
      simp (disch := first | omega | assumption) only [s151_0, s151_1, s151_4, s151_7, s151_8, s151_9, s151_10, s151_11, s151_12, s151_13, s151_14, s151_15, s151_18, s151_21, s151_24, s151_25, s151_28, s151_29, s151_32, s151_35, s151_36, s151_39, s151_40, s151_43, s151_44, s151_47, s151_48, s151_51, s151_52, s151_53, s151_54, s151_55, s151_56, s151_57, s151_60, s151_63, s151_64, nI_le2, nI_lt2, nI_eq2, nI_lt0, nI_0le, nI_0lt, nI_le0, nI_eq0, nI_clamp, nI_add, bu_nI, bb_0, bb_1, rf_s, rf_n, tl_s, tl_n, am_th_some, if_true, if_false, sI_eq, uI_eq, and_self, true_and, and_true, not_false_eq_true, not_true_eq_false, Nat.reduceEqDiff, Nat.reduceLeDiff, Nat.reduceLT, Nat.reduceAdd, Nat.reduceMul, Nat.reduceSub, Nat.zero_add, hL]
    · have C := get_nm h
      have hL := C.lun (R := R) (Q := Q) (d + 89)
      rw [s273]
      simp (disch := first | omega | assumption) only [s273_0, s273_1, s273_4, s273_7, s273_8, s273_9, s273_10, s273_11, s273_12, s273_13, s273_14, s273_15, s273_18, s273_21, s273_22, s273_23, s273_24, s273_27, s273_30, s273_31, s273_32, s273_35, s273_36, s273_39, s273_40, s273_41, s273_42, s273_45, s273_46, s273_47, s273_48, s273_51, s273_54, s273_55, nI_le2, nI_lt2, nI_eq2, nI_lt0, nI_0le, nI_0lt, nI_le0, nI_eq0, nI_clamp, nI_add, bu_nI, bb_0, bb_1, rf_s, rf_n, tl_s, tl_n, am_th_some, if_true, if_false, sI_eq, uI_eq, and_self, true_and, and_true, not_false_eq_true, not_true_eq_false, Nat.reduceEqDiff, Nat.reduceLeDiff, Nat.reduceLT, Nat.reduceAdd, Nat.reduceMul, Nat.reduceSub, Nat.zero_add, hL]
  | some l =>
    obtain ⟨E, k, PK, tk, EL, im, ⟨k0, N0⟩, k1, N1⟩ := l
    have L := get_l hok
    refine op_k (v := sp_rim (sp_B (E.2.1 0) (E.2.1 1)) (PK k) (zn E)) hok (fun d u I R Q h => ?_) (fun d I R Q hr h => ?_)
    · have C := get_c (Q := Q) h hok
      exact c_rim (d := d + 88) C.pa C.kk C.pp L.pt.1 L.n25 L.n1 C.bs
    · have C := get_m (Q := Q) hr h hok
      exact m_rim (d := d + 86) hr C.mo C.mm L.pt.1 L.n25 L.n1
theorem op_lump (hok : rel_ok s) : op1 152 274 [] s := by
  obtain ⟨tp, w, st, rf, o⟩ := s
  cases o with
  | none =>
    refine op_k (v := -nI 1) hok (fun d u I R Q h => ?_) (fun d I R Q hr h => ?_)
    · have C := get_nc h
      have hL := C.lun (Q := Q) (d + 89)
      rw [s152]
      simp (disch := first | omega | assumption) only [s152_0, s152_1, s152_4, s152_7, s152_8, s152_9, s152_10, s152_11, s152_12, s152_13, s152_14, s152_16, s152_19, s152_20, s152_23, s152_26, s152_27, s152_28, s152_31, s152_32, s152_33, s152_34, s152_35, s152_36, s152_37, s152_40, s152_43, s152_44, nI_le2, nI_lt2, nI_eq2, nI_lt0, nI_0le, nI_0lt, nI_le0, nI_eq0, nI_clamp, nI_add, bu_nI, bb_0, bb_1, rf_s, rf_n, tl_s, tl_n, am_th_some, if_true, if_false, sI_eq, uI_eq, and_self, true_and, and_true, not_false_eq_true, not_true_eq_false, Nat.reduceEqDiff, Nat.reduceLeDiff, Nat.reduceLT, Nat.reduceAdd, Nat.reduceMul, Nat.reduceSub, Nat.zero_add, hL]
    · have C := get_nm h
      have hL := C.lun (R := R) (Q := Q) (d + 89)
      rw [s274]
      simp (disch := first | omega | assumption) only [s274_0, s274_1, s274_4, s274_7, s274_8, s274_9, s274_10, s274_11, s274_12, s274_13, s274_14, s274_15, s274_18, s274_21, s274_22, s274_23, s274_26, s274_28, s274_29, s274_30, s274_31, s274_34, s274_35, s274_36, s274_37, s274_40, s274_41, s274_42, s274_43, s274_46, s274_49, s274_50, nI_le2, nI_lt2, nI_eq2, nI_lt0, nI_0le, nI_0lt, nI_le0, nI_eq0, nI_clamp, nI_add, bu_nI, bb_0, bb_1, rf_s, rf_n, tl_s, tl_n, am_th_some, if_true, if_false, sI_eq, uI_eq, and_self, true_and, and_true, not_false_eq_true, not_true_eq_false, Nat.reduceEqDiff, Nat.reduceLeDiff, Nat.reduceLT, Nat.reduceAdd, Nat.reduceMul, Nat.reduceSub, Nat.zero_add, hL]
  | some l =>
    obtain ⟨E, k, PK, tk, EL, im, ⟨k0, N0⟩, k1, N1⟩ := l
    have L := get_l hok
    refine op_k (v := sp_lmp (PK k) (zn E)) hok (fun d u I R Q h => ?_) (fun d I R Q hr h => ?_)
    · have C := get_c (Q := Q) h hok
      exact c_lump (d := d + 89) C.pa C.pp L.pt L.n25 L.n1
    · have C := get_m (Q := Q) hr h hok
      exact m_lump (d := d + 89) hr C.mm L.pt.1 L.n25 L.n1
end
