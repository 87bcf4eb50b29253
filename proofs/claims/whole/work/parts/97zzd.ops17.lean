/-! HABITS, LAW of those told. -/
section
variable {s : zSt} {x y : Int32} {X : Int64}
theorem op_habits (hok : rel_ok s) : op1 122 234 [.int x, .long X] s := by
  obtain ⟨tp, w, st, rf, o⟩ := s
  cases o with
  | none =>
    refine op_k (v := -nI 1) hok (fun d u I R Q h => ?_) (fun d I R Q hr h => ?_)
    · have C := get_nc h
      have hL := C.lun (Q := Q) (d + 89)
      rw [s122]
      simp (disch := first | omega | assumption) only [s122_0, s122_1, s122_4, s122_7, s122_8, s122_9, s122_11, s122_14, s122_17, s122_18, s122_21, s122_24, s122_25, s122_26, s122_29, s122_32, s122_33, s122_34, s122_35, s122_37, s122_38, s122_42, s122_43, s122_46, s122_47, s122_50, s122_51, s122_54, s122_57, s122_59, s122_62, s122_64, s122_66, s122_68, s122_71, s122_72, s122_75, s122_78, s122_79, s122_82, s122_85, s122_87, s122_90, s122_92, s122_93, s122_95, s122_96, s122_99, s122_100, s122_101, s122_104, s122_107, s122_110, s122_113, s122_114, s122_117, s122_120, nI_le2, nI_lt2, nI_eq2, nI_lt0, nI_0le, nI_0lt, nI_le0, nI_eq0, nI_clamp, nI_add, bu_nI, bb_0, bb_1, rf_s, rf_n, tl_s, tl_n, am_th_some, if_true, if_false, sI_eq, uI_eq, and_self, true_and, and_true, not_false_eq_true, not_true_eq_false, Nat.reduceEqDiff, Nat.reduceLeDiff, Nat.reduceLT, Nat.reduceAdd, Nat.reduceMul, Nat.reduceSub, Nat.zero_add, hL]
    · have C := get_nm h
      have hL := C.lun (R := R) (Q := Q) (d + 89)
      rw [s234]
      simp (disch := first | omega | assumption) only [s234_0, s234_1, s234_4, s234_7, s234_8, s234_9, s234_11, s234_14, s234_17, s234_18, s234_21, s234_23, s234_24, s234_25, s234_26, s234_29, s234_32, s234_33, s234_34, s234_35, s234_36, s234_39, s234_40, s234_44, s234_45, s234_48, s234_49, s234_52, s234_53, s234_55, s234_58, s234_59, s234_62, s234_65, s234_66, s234_69, s234_70, s234_71, s234_72, s234_75, s234_76, s234_77, s234_78, s234_79, s234_82, s234_85, s234_88, s234_91, s234_92, s234_95, s234_97, s234_98, nI_le2, nI_lt2, nI_eq2, nI_lt0, nI_0le, nI_0lt, nI_le0, nI_eq0, nI_clamp, nI_add, bu_nI, bb_0, bb_1, rf_s, rf_n, tl_s, tl_n, am_th_some, if_true, if_false, sI_eq, uI_eq, and_self, true_and, and_true, not_false_eq_true, not_true_eq_false, Nat.reduceEqDiff, Nat.reduceLeDiff, Nat.reduceLT, Nat.reduceAdd, Nat.reduceMul, Nat.reduceSub, Nat.zero_add, hL]
  | some l =>
    obtain ⟨E, k, PK, tk, EL, im, ⟨k0, N0⟩, k1, N1⟩ := l
    have L := get_l hok
    have tm := L.tm
    by_cases e0 : nI 1 ≤ x ∧ x ≤ nI 60
    · obtain ⟨N, hN1, hN2, rfl⟩ := in_nat1 (by decide) e0
      by_cases e2 : 9999 < tk k + N
      · have e6 : ¬ tk k + N ≤ 9999 := by omega
        refine op_k (v := -nI 1) hok (fun d u I R Q h => ?_) (fun d I R Q hr h => ?_)
        · have C := get_c (Q := Q) h hok
          have hL := C.lun L (d + 89)
          have p0 := c_within (d := d + 89) (x := nI N) (a := nI 1) (b := nI 60) (I := I) (R := R) (Q := Q)
          rw [if_pos e0] at p0
          have e5 : I 9 12 5 = nI (tk k) := C.pp.2.2.1.trans L.p1
          rw [s122]
          simp (disch := first | omega | assumption) only [s122_0, s122_1, s122_4, s122_7, s122_8, s122_9, s122_11, s122_14, s122_17, s122_18, s122_21, s122_24, s122_25, s122_26, s122_29, s122_32, s122_33, s122_34, s122_35, s122_37, s122_38, s122_42, s122_43, s122_46, s122_47, s122_50, s122_51, s122_54, s122_57, s122_59, s122_62, s122_64, s122_66, s122_68, s122_71, s122_72, s122_75, s122_78, s122_79, s122_82, s122_85, s122_87, s122_90, s122_92, s122_93, s122_95, s122_96, s122_99, s122_100, s122_101, s122_104, s122_107, s122_110, s122_113, s122_114, s122_117, s122_120, nI_le2, nI_lt2, nI_eq2, nI_lt0, nI_0le, nI_0lt, nI_le0, nI_eq0, nI_clamp, nI_add, bu_nI, bb_0, bb_1, rf_s, rf_n, tl_s, tl_n, am_th_some, if_true, if_false, sI_eq, uI_eq, and_self, true_and, and_true, not_false_eq_true, not_true_eq_false, Nat.reduceEqDiff, Nat.reduceLeDiff, Nat.reduceLT, Nat.reduceAdd, Nat.reduceMul, Nat.reduceSub, Nat.zero_add, hL, p0, C.pa.2.1, e5, e2, e6]
        · have C := get_m (Q := Q) hr h hok
          have hL := C.lun L (d + 89)
          have p0 := m_inX (d := d + 89) (x := nI N) (lo := nI 1) (hi := nI 60) (I := I) (R := R) (Q := Q)
          rw [if_pos e0] at p0
          have e5 : I 60 0 101 = nI (tk k) := C.mm.2.2.1.trans L.p1
          rw [s234]
          simp (disch := first | omega | assumption) only [s234_0, s234_1, s234_4, s234_7, s234_8, s234_9, s234_11, s234_14, s234_17, s234_18, s234_21, s234_23, s234_24, s234_25, s234_26, s234_29, s234_32, s234_33, s234_34, s234_35, s234_36, s234_39, s234_40, s234_44, s234_45, s234_48, s234_49, s234_52, s234_53, s234_55, s234_58, s234_59, s234_62, s234_65, s234_66, s234_69, s234_70, s234_71, s234_72, s234_75, s234_76, s234_77, s234_78, s234_79, s234_82, s234_85, s234_88, s234_91, s234_92, s234_95, s234_97, s234_98, nI_le2, nI_lt2, nI_eq2, nI_lt0, nI_0le, nI_0lt, nI_le0, nI_eq0, nI_clamp, nI_add, bu_nI, bb_0, bb_1, rf_s, rf_n, tl_s, tl_n, am_th_some, if_true, if_false, sI_eq, uI_eq, and_self, true_and, and_true, not_false_eq_true, not_true_eq_false, Nat.reduceEqDiff, Nat.reduceLeDiff, Nat.reduceLT, Nat.reduceAdd, Nat.reduceMul, Nat.reduceSub, Nat.zero_add, hL, p0, mr31 hr, e5, e2, e6]
      · have hd : hOk (zn E) (E.2.1 4) (k, PK, tk, EL) := (hok.2.2.2 _ rfl).2.1
        have hst9 : st ≤ 9 := hok.2.2.1
        have hsum : tk k + N ≤ 9999 := by omega
        have hsum' : hTm (k, PK, tk, EL) + N ≤ 9999 := hsum
        obtain ⟨o1, o2⟩ := hbn_ok (full := E.2.1 2) (st := st) (S := ((k, PK, tk, EL), X)) L.b1 L.hk L.ht hd N
        generalize hH : (hbn (zT E w) (E.2.1 2) st ((k, PK, tk, EL), X) N).1 = H at o1 o2
        refine ⟨nI (tk k + N), (tp, w, st, rf, some (E, H.1, H.2.1, H.2.2.1, H.2.2.2, im, (k0, N0), (k1, N1))), fun d u I R Q h => ?_, fun d I R Q hr h => ?_, ok_hist hok o1 (by have e : H.2.2.1 H.1 = tk k + N := o2; omega)⟩
        · have C := get_c (Q := Q) h hok
          have hL := C.lun L (d + 89)
          have p0 := c_within (d := d + 89) (x := nI N) (a := nI 1) (b := nI 60) (I := I) (R := R) (Q := Q)
          rw [if_pos e0] at p0
          have e5 : I 9 12 5 = nI (tk k) := C.pp.2.2.1.trans L.p1
          obtain ⟨J, g1, g2, g3⟩ := c_habL (d := d + 80) (l2 := .long X) (x := X) (H := (k, PK, tk, EL)) C.pa C.kk C.T L.hk L.ht L.b1 L.n25 L.q9 (C.ov 2 (by decide)) h.2.1.2.2.2.2.1 hst9 hd h.2.2.2.1 hsum'
          rw [hH] at g3
          replace g1 : am_ev (d + 90) _ _ _ _ _ _ _ = some (some (.int (nI (tk k + N))), J, R, Q) := g1
          refine ⟨J, R, u, ?_, fr_mo g2 fun a b j w => hC_cl w, relc_hist h hok g2 g3, fun _ _ _ _ => rfl⟩
          rw [s122]
          simp (disch := first | omega | assumption) only [s122_0, s122_1, s122_4, s122_7, s122_8, s122_9, s122_11, s122_14, s122_17, s122_18, s122_21, s122_24, s122_25, s122_26, s122_29, s122_32, s122_33, s122_34, s122_35, s122_37, s122_38, s122_42, s122_43, s122_46, s122_47, s122_50, s122_51, s122_54, s122_57, s122_59, s122_62, s122_64, s122_66, s122_68, s122_71, s122_72, s122_75, s122_78, s122_79, s122_82, s122_85, s122_87, s122_90, s122_92, s122_93, s122_95, s122_96, s122_99, s122_100, s122_101, s122_104, s122_107, s122_110, s122_113, s122_114, s122_117, s122_120, nI_le2, nI_lt2, nI_eq2, nI_lt0, nI_0le, nI_0lt, nI_le0, nI_eq0, nI_clamp, nI_add, bu_nI, bb_0, bb_1, rf_s, rf_n, tl_s, tl_n, am_th_some, if_true, if_false, sI_eq, uI_eq, and_self, true_and, and_true, not_false_eq_true, not_true_eq_false, Nat.reduceEqDiff, Nat.reduceLeDiff, Nat.reduceLT, Nat.reduceAdd, Nat.reduceMul, Nat.reduceSub, Nat.zero_add, hL, p0, C.pa.2.1, e5, e2, hsum]
          exact g1
        · have C := get_m (Q := Q) hr h hok
          have hL := C.lun L (d + 89)
          have p0 := m_inX (d := d + 89) (x := nI N) (lo := nI 1) (hi := nI 60) (I := I) (R := R) (Q := Q)
          rw [if_pos e0] at p0
          have e5 : I 60 0 101 = nI (tk k) := C.mm.2.2.1.trans L.p1
          obtain ⟨J, Q', g1, g2, g3, g4⟩ := m_habL (d := d + 80) (l2 := .long X) (x := X) (Q := am_sQ Q 12 0 (am_uQ (Q 12 0) 38 X)) (H := (k, PK, tk, EL)) hr (fun Q => (get_m (Q := Q) hr h hok).T) L.hk L.ht L.b1 L.n25 L.q9 (C.ov 2 (by decide)) h.1.2.2.1 hst9 hd h.2.2.1 hsum' (by simp [am_sQ, am_uQ])
          rw [hH] at g3
          replace g1 : am_ev (d + 90) _ _ _ _ _ _ _ = some (some (.int (nI (tk k + N))), J, R, Q') := g1
          refine ⟨J, Q', ?_, fr_mo g2 fun a b j w => hM_md (hN_M w), relm_hist h hok (fr_mo g2 fun a b j w => hN_M w) g3, fun a b j ha => ?_⟩
          · rw [s234]
            simp (disch := first | omega | assumption) only [s234_0, s234_1, s234_4, s234_7, s234_8, s234_9, s234_11, s234_14, s234_17, s234_18, s234_21, s234_23, s234_24, s234_25, s234_26, s234_29, s234_32, s234_33, s234_34, s234_35, s234_36, s234_39, s234_40, s234_44, s234_45, s234_48, s234_49, s234_52, s234_53, s234_55, s234_58, s234_59, s234_62, s234_65, s234_66, s234_69, s234_70, s234_71, s234_72, s234_75, s234_76, s234_77, s234_78, s234_79, s234_82, s234_85, s234_88, s234_91, s234_92, s234_95, s234_97, s234_98, nI_le2, nI_lt2, nI_eq2, nI_lt0, nI_0le, nI_0lt, nI_le0, nI_eq0, nI_clamp, nI_add, bu_nI, bb_0, bb_1, rf_s, rf_n, tl_s, tl_n, am_th_some, if_true, if_false, sI_eq, uI_eq, and_self, true_and, and_true, not_false_eq_true, not_true_eq_false, Nat.reduceEqDiff, Nat.reduceLeDiff, Nat.reduceLT, Nat.reduceAdd, Nat.reduceMul, Nat.reduceSub, Nat.zero_add, hL, p0, mr31 hr, e5, e2, hsum]
            exact g1
          · rw [g4 a b j (fun w => ha w.1)]
            simp [am_sQ, ha]
    · refine op_k (v := -nI 1) hok (fun d u I R Q h => ?_) (fun d I R Q hr h => ?_)
      · have C := get_c (Q := Q) h hok
        have hL := C.lun L (d + 89)
        have p0 := c_within (d := d + 89) (x := x) (a := nI 1) (b := nI 60) (I := I) (R := R) (Q := Q)
        rw [if_neg e0] at p0
        rw [s122]
        simp (disch := first | omega | assumption) only [s122_0, s122_1, s122_4, s122_7, s122_8, s122_9, s122_11, s122_14, s122_17, s122_18, s122_21, s122_24, s122_25, s122_26, s122_29, s122_32, s122_33, s122_34, s122_35, s122_37, s122_38, s122_42, s122_43, s122_46, s122_47, s122_50, s122_51, s122_54, s122_57, s122_59, s122_62, s122_64, s122_66, s122_68, s122_71, s122_72, s122_75, s122_78, s122_79, s122_82, s122_85, s122_87, s122_90, s122_92, s122_93, s122_95, s122_96, s122_99, s122_100, s122_101, s122_104, s122_107, s122_110, s122_113, s122_114, s122_117, s122_120, nI_le2, nI_lt2, nI_eq2, nI_lt0, nI_0le, nI_0lt, nI_le0, nI_eq0, nI_clamp, nI_add, bu_nI, bb_0, bb_1, rf_s, rf_n, tl_s, tl_n, am_th_some, if_true, if_false, sI_eq, uI_eq, and_self, true_and, and_true, not_false_eq_true, not_true_eq_false, Nat.reduceEqDiff, Nat.reduceLeDiff, Nat.reduceLT, Nat.reduceAdd, Nat.reduceMul, Nat.reduceSub, Nat.zero_add, hL, p0]
      · have C := get_m (Q := Q) hr h hok
        have hL := C.lun L (d + 89)
        have p0 := m_inX (d := d + 89) (x := x) (lo := nI 1) (hi := nI 60) (I := I) (R := R) (Q := Q)
        rw [if_neg e0] at p0
        rw [s234]
        simp (disch := first | omega | assumption) only [s234_0, s234_1, s234_4, s234_7, s234_8, s234_9, s234_11, s234_14, s234_17, s234_18, s234_21, s234_23, s234_24, s234_25, s234_26, s234_29, s234_32, s234_33, s234_34, s234_35, s234_36, s234_39, s234_40, s234_44, s234_45, s234_48, s234_49, s234_52, s234_53, s234_55, s234_58, s234_59, s234_62, s234_65, s234_66, s234_69, s234_70, s234_71, s234_72, s234_75, s234_76, s234_77, s234_78, s234_79, s234_82, s234_85, s234_88, s234_91, s234_92, s234_95, s234_97, s234_98, nI_le2, nI_lt2, nI_eq2, nI_lt0, nI_0le, nI_0lt, nI_le0, nI_eq0, nI_clamp, nI_add, bu_nI, bb_0, bb_1, rf_s, rf_n, tl_s, tl_n, am_th_some, if_true, if_false, sI_eq, uI_eq, and_self, true_and, and_true, not_false_eq_true, not_true_eq_false, Nat.reduceEqDiff, Nat.reduceLeDiff, Nat.reduceLT, Nat.reduceAdd, Nat.reduceMul, Nat.reduceSub, Nat.zero_add, hL, p0]
end
