/-! COOK, HABITS. -/
section
variable {tp : Nat × (Nat → Nat)} {w : zLw} {st : Nat} {rf : Nat → Int32} {E : zE} {H : zH} {im : Option ((Nat → Nat → Int32) × Nat × (Nat → Nat → Int32))} {k0 k1 : Nat} {N0 N1 : Nat → Nat → Nat} {x y : Int32} {X : Int64}
/-- a refusal: what is left is to run both sides up to it -/
theorem op_no {s : zSt} {Mc Mm : Nat} {as : List Value} {v : Int32} (k : Nat) (hk : k < 4) (hok : rel_ok s) (hc : ∀ (d u : Nat) (I J : am_I) (R : am_R) (Q : am_Q), rel_c s u I R → am_cal (d + 89) 113 [.ref (am_mk 11 0), .int (nI k)] I R Q = some (some (.int (-nI 1)), J, R, Q) → am_cal (d + 90) Mc (.ref (am_mk 11 0) :: as) I R Q = some (some (.int v), J, R, Q)) (hm : ∀ (d : Nat) (I J : am_I) (R : am_R) (Q : am_Q), mm_R R → rel_m s I → am_cal (d + 89) 225 [.ref (am_mk 12 0), .int (nI k)] I R Q = some (some (.int (nI 1)), J, R, Q) → am_cal (d + 90) Mm (.ref (am_mk 12 0) :: as) I R Q = some (some (.int v), J, R, Q)) : op1 Mc Mm as s := by
  obtain ⟨tp, w, st, rf, o⟩ := s
  refine ⟨v, (tp, w, st, sp_re rf k, o), fun d u I R Q h => ?_, fun d I R Q hr h => ?_, hok⟩
  · obtain ⟨J, g1, g2, g3⟩ := c_refuse (d := d + 89) (R := R) (Q := Q) (rF_11 h.1.1).2.2.2.2.2.1 h.2.1.2.2.2.2.2.1 hk
    exact ⟨J, R, u, hc d u I J R Q h g1, fr_mo g2 fun a b j w => by unfold clS; omega, relc_re h hok g2 g3, fun _ _ _ _ => rfl⟩
  · obtain ⟨J, g1, g2, g3⟩ := m_refused (d := d + 89) (Q := Q) hr h.1.2.2.2 hk
    exact ⟨J, Q, hm d I J R Q hr h g1, fr_mo g2 fun a b j w => by unfold mdS; omega, relm_re h hok g2 g3, fun _ _ _ _ => rfl⟩
theorem op_cook {s : zSt} (hok : rel_ok s) : op1 115 226 [.int x, .int y] s := by
  obtain ⟨tp, w, st, rf, o⟩ := s
  cases o with
  | none =>
    refine op_no (v := -nI 1) 0 (by decide) hok (fun d u I J R Q h g1 => ?_) (fun d I J R Q hr h g1 => ?_)
    · have C := get_nc h
      have hL := C.lun (Q := Q) (d + 89)
      rw [s115]
      simp (disch := first | omega | assumption) only [s115_0, s115_1, s115_4, s115_7, s115_8, s115_9, s115_12, s115_13, s115_14, s115_15, s115_17, s115_20, s115_23, s115_24, s115_25, s115_28, s115_31, s115_32, s115_33, s115_36, s115_37, s115_38, s115_41, s115_44, s115_45, s115_46, s115_49, s115_52, s115_53, s115_54, s115_57, s115_58, s115_59, s115_61, s115_62, s115_65, s115_66, s115_69, s115_70, s115_73, s115_76, s115_77, s115_78, s115_81, s115_84, s115_87, s115_88, s115_91, s115_94, nI_le2, nI_lt2, nI_eq2, nI_lt0, nI_0le, nI_0lt, nI_le0, nI_eq0, nI_clamp, nI_add, bu_nI, bb_0, bb_1, rf_s, rf_n, tl_s, tl_n, am_th_some, if_true, if_false, sI_eq, uI_eq, and_self, true_and, and_true, not_false_eq_true, not_true_eq_false, Nat.reduceEqDiff, Nat.reduceLeDiff, Nat.reduceLT, Nat.reduceAdd, Nat.reduceMul, Nat.reduceSub, Nat.zero_add, hL, g1]
    · have C := get_nm h
      have hL := C.lun (R := R) (Q := Q) (d + 89)
      rw [s226]
      simp (disch := first | omega | assumption) only [s226_0, s226_1, s226_4, s226_7, s226_8, s226_11, s226_12, s226_13, s226_15, s226_18, s226_21, s226_22, s226_23, s226_26, s226_29, s226_30, s226_33, s226_34, s226_37, s226_39, s226_40, s226_41, s226_42, s226_45, s226_48, s226_49, s226_52, s226_53, s226_54, s226_55, s226_56, s226_59, s226_62, s226_63, s226_64, s226_65, s226_69, s226_70, s226_73, s226_74, s226_77, s226_78, s226_79, s226_82, s226_85, s226_88, s226_89, s226_92, s226_94, s226_95, nI_le2, nI_lt2, nI_eq2, nI_lt0, nI_0le, nI_0lt, nI_le0, nI_eq0, nI_clamp, nI_add, bu_nI, bb_0, bb_1, rf_s, rf_n, tl_s, tl_n, am_th_some, if_true, if_false, sI_eq, uI_eq, and_self, true_and, and_true, not_false_eq_true, not_true_eq_false, Nat.reduceEqDiff, Nat.reduceLeDiff, Nat.reduceLT, Nat.reduceAdd, Nat.reduceMul, Nat.reduceSub, Nat.zero_add, hL, g1]
  | some l =>
    obtain ⟨E, k, PK, tk, EL, im, ⟨k0, N0⟩, k1, N1⟩ := l
    have L := get_l hok
    have tm := L.tm
    by_cases e0 : nI 1 ≤ x ∧ x ≤ nI 60
    · by_cases e1 : 0 ≤ y ∧ y ≤ nI (E.2.1 2)
      · obtain ⟨N, hN1, hN2, rfl⟩ := in_nat1 (by decide) e0
        obtain ⟨q, hq, rfl⟩ := in_nat0 (by have := L.q9; omega) e1
        have hq9 : q ≤ 9 := Nat.le_trans hq L.q9
        by_cases e2 : 9999 < tk k + N
        · refine op_no (v := -nI 1) 3 (by decide) hok (fun d u I J R Q h g1 => ?_) (fun d I J R Q hr h g1 => ?_)
          · have C := get_c (Q := Q) h hok
            have hL := C.lun L (d + 89)
            have p0 := c_within (d := d + 89) (x := nI N) (a := nI 1) (b := nI 60) (I := I) (R := R) (Q := Q)
            rw [if_pos e0] at p0
            have p1 := C.pow L (d + 89) (nI q)
            rw [if_pos e1] at p1
            have e5 : I 9 12 5 = nI (tk k) := C.pp.2.2.1.trans L.p1
            have e6 : ¬ tk k + N ≤ 9999 := by omega
            rw [s115]
            simp (disch := first | omega | assumption) only [s115_0, s115_1, s115_4, s115_7, s115_8, s115_9, s115_12, s115_13, s115_14, s115_15, s115_17, s115_20, s115_23, s115_24, s115_25, s115_28, s115_31, s115_32, s115_33, s115_36, s115_37, s115_38, s115_41, s115_44, s115_45, s115_46, s115_49, s115_52, s115_53, s115_54, s115_57, s115_58, s115_59, s115_61, s115_62, s115_65, s115_66, s115_69, s115_70, s115_73, s115_76, s115_77, s115_78, s115_81, s115_84, s115_87, s115_88, s115_91, s115_94, nI_le2, nI_lt2, nI_eq2, nI_lt0, nI_0le, nI_0lt, nI_le0, nI_eq0, nI_clamp, nI_add, bu_nI, bb_0, bb_1, rf_s, rf_n, tl_s, tl_n, am_th_some, if_true, if_false, sI_eq, uI_eq, and_self, true_and, and_true, not_false_eq_true, not_true_eq_false, Nat.reduceEqDiff, Nat.reduceLeDiff, Nat.reduceLT, Nat.reduceAdd, Nat.reduceMul, Nat.reduceSub, Nat.zero_add, hL, p0, p1, C.pa.2.1, e5, e2, e6, g1]
          · have C := get_m (Q := Q) hr h hok
            have hL := C.lun L (d + 89)
            have p0 := m_inX (d := d + 89) (x := nI N) (lo := nI 1) (hi := nI 60) (I := I) (R := R) (Q := Q)
            rw [if_pos e0] at p0
            have p1 : am_cal (d + 89) _ _ _ _ _ = _ := C.pow L (d + 88) (nI q)
            rw [if_pos e1] at p1
            have e5 : I 60 0 101 = nI (tk k) := C.mm.2.2.1.trans L.p1
            have e6 : ¬ tk k + N ≤ 9999 := by omega
            rw [s226]
            simp (disch := first | omega | assumption) only [s226_0, s226_1, s226_4, s226_7, s226_8, s226_11, s226_12, s226_13, s226_15, s226_18, s226_21, s226_22, s226_23, s226_26, s226_29, s226_30, s226_33, s226_34, s226_37, s226_39, s226_40, s226_41, s226_42, s226_45, s226_48, s226_49, s226_52, s226_53, s226_54, s226_55, s226_56, s226_59, s226_62, s226_63, s226_64, s226_65, s226_69, s226_70, s226_73, s226_74, s226_77, s226_78, s226_79, s226_82, s226_85, s226_88, s226_89, s226_92, s226_94, s226_95, nI_le2, nI_lt2, nI_eq2, nI_lt0, nI_0le, nI_0lt, nI_le0, nI_eq0, nI_clamp, nI_add, bu_nI, bb_0, bb_1, rf_s, rf_n, tl_s, tl_n, am_th_some, if_true, if_false, sI_eq, uI_eq, and_self, true_and, and_true, not_false_eq_true, not_true_eq_false, Nat.reduceEqDiff, Nat.reduceLeDiff, Nat.reduceLT, Nat.reduceAdd, Nat.reduceMul, Nat.reduceSub, Nat.zero_add, hL, p0, p1, mr31 hr, e5, e2, e6, g1]
        · have hd : hOk (zn E) (E.2.1 4) (k, PK, tk, EL) := (hok.2.2.2 _ rfl).2.1
          have hsum : tk k + N ≤ 9999 := by omega
          have hsum' : hTm (k, PK, tk, EL) + N ≤ 9999 := hsum
          obtain ⟨o1, o2⟩ := hck_ok (q := q) L.hk L.ht hd N
          generalize hH : hck (zT E w) q (k, PK, tk, EL) N = H at o1 o2
          refine ⟨nI (tk k + N), (tp, w, st, rf, some (E, H.1, H.2.1, H.2.2.1, H.2.2.2, im, (k0, N0), (k1, N1))), fun d u I R Q h => ?_, fun d I R Q hr h => ?_, ok_hist hok o1 (by have e : H.2.2.1 H.1 = tk k + N := o2; omega)⟩
          · have C := get_c (Q := Q) h hok
            have hL := C.lun L (d + 89)
            have p0 := c_within (d := d + 89) (x := nI N) (a := nI 1) (b := nI 60) (I := I) (R := R) (Q := Q)
            rw [if_pos e0] at p0
            have p1 := C.pow L (d + 89) (nI q)
            rw [if_pos e1] at p1
            have e5 : I 9 12 5 = nI (tk k) := C.pp.2.2.1.trans L.p1
            obtain ⟨J, g1, g2, g3⟩ := c_cookL (d := d + 80) (H := (k, PK, tk, EL)) C.pa C.T L.hk L.ht L.b1 L.n25 hd hq9 h.2.2.2.1 hsum'
            rw [hH] at g3
            replace g1 : am_ev (d + 90) _ _ _ _ _ _ _ = some (some (.int (nI (tk k + N))), J, R, Q) := g1
            refine ⟨J, R, u, ?_, fr_mo g2 fun a b j w => hC_cl w, relc_hist h hok g2 g3, fun _ _ _ _ => rfl⟩
            rw [s115]
            simp (disch := first | omega | assumption) only [s115_0, s115_1, s115_4, s115_7, s115_8, s115_9, s115_12, s115_13, s115_14, s115_15, s115_17, s115_20, s115_23, s115_24, s115_25, s115_28, s115_31, s115_32, s115_33, s115_36, s115_37, s115_38, s115_41, s115_44, s115_45, s115_46, s115_49, s115_52, s115_53, s115_54, s115_57, s115_58, s115_59, s115_61, s115_62, s115_65, s115_66, s115_69, s115_70, s115_73, s115_76, s115_77, s115_78, s115_81, s115_84, s115_87, s115_88, s115_91, s115_94, nI_le2, nI_lt2, nI_eq2, nI_lt0, nI_0le, nI_0lt, nI_le0, nI_eq0, nI_clamp, nI_add, bu_nI, bb_0, bb_1, rf_s, rf_n, tl_s, tl_n, am_th_some, if_true, if_false, sI_eq, uI_eq, and_self, true_and, and_true, not_false_eq_true, not_true_eq_false, Nat.reduceEqDiff, Nat.reduceLeDiff, Nat.reduceLT, Nat.reduceAdd, Nat.reduceMul, Nat.reduceSub, Nat.zero_add, hL, p0, p1, C.pa.2.1, e5, e2, hsum]
            exact g1
          · have C := get_m (Q := Q) hr h hok
            have hL := C.lun L (d + 89)
            have p0 := m_inX (d := d + 89) (x := nI N) (lo := nI 1) (hi := nI 60) (I := I) (R := R) (Q := Q)
            rw [if_pos e0] at p0
            have p1 : am_cal (d + 89) _ _ _ _ _ = _ := C.pow L (d + 88) (nI q)
            rw [if_pos e1] at p1
            have e5 : I 60 0 101 = nI (tk k) := C.mm.2.2.1.trans L.p1
            have nr := m_notRefused (d := d + 89) (I := I) (R := R) (Q := Q)
            obtain ⟨J, g1, g2, g3⟩ := m_cookL (d := d + 80) (l3 := .int (-nI 1)) (H := (k, PK, tk, EL)) hr C.T L.hk L.ht L.b1 L.n25 hd hq9 h.2.2.1 hsum'
            rw [hH] at g3
            replace g1 : am_ev (d + 90) _ _ _ _ _ _ _ = some (some (.int (nI (tk k + N))), J, R, Q) := g1
            refine ⟨J, Q, ?_, fr_mo g2 fun a b j w => hM_md (hN_M w), relm_hist h hok (fr_mo g2 fun a b j w => hN_M w) g3, fun _ _ _ _ => rfl⟩
            rw [s226]
            simp (disch := first | omega | assumption) only [s226_0, s226_1, s226_4, s226_7, s226_8, s226_11, s226_12, s226_13, s226_15, s226_18, s226_21, s226_22, s226_23, s226_26, s226_29, s226_30, s226_33, s226_34, s226_37, s226_39, s226_40, s226_41, s226_42, s226_45, s226_48, s226_49, s226_52, s226_53, s226_54, s226_55, s226_56, s226_59, s226_62, s226_63, s226_64, s226_65, s226_69, s226_70, s226_73, s226_74, s226_77, s226_78, s226_79, s226_82, s226_85, s226_88, s226_89, s226_92, s226_94, s226_95, nI_le2, nI_lt2, nI_eq2, nI_lt0, nI_0le, nI_0lt, nI_le0, nI_eq0, nI_clamp, nI_add, bu_nI, bb_0, bb_1, rf_s, rf_n, tl_s, tl_n, am_th_some, if_true, if_false, sI_eq, uI_eq, and_self, true_and, and_true, not_false_eq_true, not_true_eq_false, Nat.reduceEqDiff, Nat.reduceLeDiff, Nat.reduceLT, Nat.reduceAdd, Nat.reduceMul, Nat.reduceSub, Nat.zero_add, hL, p0, p1, mr31 hr, e5, e2, hsum, nr]
            exact g1
      · refine op_no (v := -nI 1) 1 (by decide) hok (fun d u I J R Q h g1 => ?_) (fun d I J R Q hr h g1 => ?_)
        · have C := get_c (Q := Q) h hok
          have hL := C.lun L (d + 89)
          have p0 := c_within (d := d + 89) (x := x) (a := nI 1) (b := nI 60) (I := I) (R := R) (Q := Q)
          rw [if_pos e0] at p0
          have p1 := C.pow L (d + 89) y
          rw [if_neg e1] at p1
          rw [s115]
          simp (disch := first | omega | assumption) only [s115_0, s115_1, s115_4, s115_7, s115_8, s115_9, s115_12, s115_13, s115_14, s115_15, s115_17, s115_20, s115_23, s115_24, s115_25, s115_28, s115_31, s115_32, s115_33, s115_36, s115_37, s115_38, s115_41, s115_44, s115_45, s115_46, s115_49, s115_52, s115_53, s115_54, s115_57, s115_58, s115_59, s115_61, s115_62, s115_65, s115_66, s115_69, s115_70, s115_73, s115_76, s115_77, s115_78, s115_81, s115_84, s115_87, s115_88, s115_91, s115_94, nI_le2, nI_lt2, nI_eq2, nI_lt0, nI_0le, nI_0lt, nI_le0, nI_eq0, nI_clamp, nI_add, bu_nI, bb_0, bb_1, rf_s, rf_n, tl_s, tl_n, am_th_some, if_true, if_false, sI_eq, uI_eq, and_self, true_and, and_true, not_false_eq_true, not_true_eq_false, Nat.reduceEqDiff, Nat.reduceLeDiff, Nat.reduceLT, Nat.reduceAdd, Nat.reduceMul, Nat.reduceSub, Nat.zero_add, hL, p0, p1, g1]
        · have C := get_m (Q := Q) hr h hok
          have hL := C.lun L (d + 89)
          have p0 := m_inX (d := d + 89) (x := x) (lo := nI 1) (hi := nI 60) (I := I) (R := R) (Q := Q)
          rw [if_pos e0] at p0
          have p1 : am_cal (d + 89) _ _ _ _ _ = _ := C.pow L (d + 88) y
          rw [if_neg e1] at p1
          rw [s226]
          simp (disch := first | omega | assumption) only [s226_0, s226_1, s226_4, s226_7, s226_8, s226_11, s226_12, s226_13, s226_15, s226_18, s226_21, s226_22, s226_23, s226_26, s226_29, s226_30, s226_33, s226_34, s226_37, s226_39, s226_40, s226_41, s226_42, s226_45, s226_48, s226_49, s226_52, s226_53, s226_54, s226_55, s226_56, s226_59, s226_62, s226_63, s226_64, s226_65, s226_69, s226_70, s226_73, s226_74, s226_77, s226_78, s226_79, s226_82, s226_85, s226_88, s226_89, s226_92, s226_94, s226_95, nI_le2, nI_lt2, nI_eq2, nI_lt0, nI_0le, nI_0lt, nI_le0, nI_eq0, nI_clamp, nI_add, bu_nI, bb_0, bb_1, rf_s, rf_n, tl_s, tl_n, am_th_some, if_true, if_false, sI_eq, uI_eq, and_self, true_and, and_true, not_false_eq_true, not_true_eq_false, Nat.reduceEqDiff, Nat.reduceLeDiff, Nat.reduceLT, Nat.reduceAdd, Nat.reduceMul, Nat.reduceSub, Nat.zero_add, hL, p0, p1, g1]
    · refine op_no (v := -nI 1) 1 (by decide) hok (fun d u I J R Q h g1 => ?_) (fun d I J R Q hr h g1 => ?_)
      · have C := get_c (Q := Q) h hok
        have hL := C.lun L (d + 89)
        have p0 := c_within (d := d + 89) (x := x) (a := nI 1) (b := nI 60) (I := I) (R := R) (Q := Q)
        rw [if_neg e0] at p0
        rw [s115]
        simp (disch := first | omega | assumption) only [s115_0, s115_1, s115_4, s115_7, s115_8, s115_9, s115_12, s115_13, s115_14, s115_15, s115_17, s115_20, s115_23, s115_24, s115_25, s115_28, s115_31, s115_32, s115_33, s115_36, s115_37, s115_38, s115_41, s115_44, s115_45, s115_46, s115_49, s115_52, s115_53, s115_54, s115_57, s115_58, s115_59, s115_61, s115_62, s115_65, s115_66, s115_69, s115_70, s115_73, s115_76, s115_77, s115_78, s115_81, s115_84, s115_87, s115_88, s115_91, s115_94, nI_le2, nI_lt2, nI_eq2, nI_lt0, nI_0le, nI_0lt, nI_le0, nI_eq0, nI_clamp, nI_add, bu_nI, bb_0, bb_1, rf_s, rf_n, tl_s, tl_n, am_th_some, if_true, if_false, sI_eq, uI_eq, and_self, true_and, and_true, not_false_eq_true, not_true_eq_false, Nat.reduceEqDiff, Nat.reduceLeDiff, Nat.reduceLT, Nat.reduceAdd, Nat.reduceMul, Nat.reduceSub, Nat.zero_add, hL, p0, g1]
      · have C := get_m (Q := Q) hr h hok
        have hL := C.lun L (d + 89)
        have p0 := m_inX (d := d + 89) (x := x) (lo := nI 1) (hi := nI 60) (I := I) (R := R) (Q := Q)
        rw [if_neg e0] at p0
        rw [s226]
        simp (disch := first | omega | assumption) only [s226_0, s226_1, s226_4, s226_7, s226_8, s226_11, s226_12, s226_13, s226_15, s226_18, s226_21, s226_22, s226_23, s226_26, s226_29, s226_30, s226_33, s226_34, s226_37, s226_39, s226_40, s226_41, s226_42, s226_45, s226_48, s226_49, s226_52, s226_53, s226_54, s226_55, s226_56, s226_59, s226_62, s226_63, s226_64, s226_65, s226_69, s226_70, s226_73, s226_74, s226_77, s226_78, s226_79, s226_82, s226_85, s226_88, s226_89, s226_92, s226_94, s226_95, nI_le2, nI_lt2, nI_eq2, nI_lt0, nI_0le, nI_0lt, nI_le0, nI_eq0, nI_clamp, nI_add, bu_nI, bb_0, bb_1, rf_s, rf_n, tl_s, tl_n, am_th_some, if_true, if_false, sI_eq, uI_eq, and_self, true_and, and_true, not_false_eq_true, not_true_eq_false, Nat.reduceEqDiff, Nat.reduceLeDiff, Nat.reduceLT, Nat.reduceAdd, Nat.reduceMul, Nat.reduceSub, Nat.zero_add, hL, p0, g1]
end
