/-! LAW texts: compare, UNIT, TRUTH, CONDITION; the class. -/
theorem zl_33 : zl_c 10033 = -nI 33 := by rw [zl_c, if_neg (by decide)]
theorem zl_38 : zl_c 10038 = -nI 38 := by rw [zl_c, if_neg (by decide)]
theorem zl_124 : zl_c 10124 = -nI 124 := by rw [zl_c, if_neg (by decide)]
theorem zl_63 : zl_c 10063 = -nI 63 := by rw [zl_c, if_neg (by decide)]
theorem zl_59 : zl_c 10059 = -nI 59 := by rw [zl_c, if_neg (by decide)]
theorem zb_ok {ok : Bool} : am_bb (if ok = true then nI 1 else nI 0) = True := by cases ok <;> exact eq_true (by decide)
section
variable {L a dp N N2 a1 a2 a' : Nat} {B : Nat → Nat} {C1 C2 C' : List Nat} {ok1 ok2 ok' : Bool}
theorem zc_pNo (hk : tp_ok L B) (haL : a ≤ L) (e : ¬ sp_in 2 (sp_hr L B (sp_sk L B a))) : zc_K L B 4 40 [.ref (am_mk 4 0), .int (nI dp)] a false (sp_sk L B a) [] := by
  intro d I R Q C0 hN' hr h hl
  obtain ⟨d, rfl⟩ : ∃ q, d = q + 4 := ⟨d - 4, by omega⟩
  have hs := sk_L (B := B) haL
  have hL := hk.1
  have hx := hr_le (a := sp_sk L B a) hk
  have r0 := hr.2.2.1
  have r1 := hr.2.2.2
  have hne : ((nI 1 : Int32) = 0) = False := by decide
  obtain ⟨J1, g1, f1, h1⟩ := zc_sign (d := d + 2) (Q := Q) hr hk h haL
  obtain ⟨J2, g2, f2, h2⟩ := zc_oneOf (d := d + 1) (Q := Q) hr hk h1 hs.2 (j := 2) (by decide)
  rw [sk_sk, if_neg e] at g2
  rw [sk_sk] at h2
  refine ⟨J2, C0, ?_, fr_tr f1 f2, h2, by omega, fun w => by cases w⟩
  rw [s40]
  simp (disch := first | omega | assumption) only [s40_0, s40_1, s40_4, s40_7, s40_8, s40_9, s40_12, s40_14, s40_17, s40_20, s40_21, s40_22, s40_23, s40_26, s40_29, s40_30, s40_31, s40_34, s40_35, s40_36, s40_39, s40_40, s40_41, s40_44, s40_45, nI_le2, nI_lt2, nI_eq2, nI_lt0, nI_0le, nI_0lt, nI_le0, nI_eq0, nI_clamp, nI_add, bu_nI, bb_0, bb_1, rf_s, rf_n, tl_s, tl_n, am_th_some, if_true, if_false, sI_eq, uI_eq, and_self, true_and, and_true, not_false_eq_true, not_true_eq_false, Nat.reduceEqDiff, Nat.reduceLeDiff, Nat.reduceLT, Nat.reduceAdd, Nat.reduceMul, Nat.reduceSub, Nat.zero_add, r0, g1, g2, Bool.false_eq_true]
theorem zc_pAll (hk : tp_ok L B) (haL : a ≤ L) (ha1 : a1 ≤ L) (e : sp_in 2 (sp_hr L B (sp_sk L B a))) (hN : 4 ≤ N) (hi : zc_K L B N 41 [.ref (am_mk 4 0), .int (nI dp)] (sp_sk L B a + 1) ok1 a1 C1) : zc_K L B (N + 1) 40 [.ref (am_mk 4 0), .int (nI dp)] a ok1 a1 (C1 ++ [10000 + sp_hr L B (sp_sk L B a)]) := by
  intro d I R Q C0 hN' hr h hl
  obtain ⟨d, rfl⟩ : ∃ q, d = q + 4 := ⟨d - 4, by omega⟩
  have hs := sk_L (B := B) haL
  have hL := hk.1
  have hx := hr_le (a := sp_sk L B a) hk
  have r0 := hr.2.2.1
  have r1 := hr.2.2.2
  have hne : ((nI 1 : Int32) = 0) = False := by decide
  have hlt := hr_in (by decide) e
  have hx0 : 0 < sp_hr L B (sp_sk L B a) := Nat.pos_of_ne_zero (fun w => by rw [hr_0 hk] at w; exact w hlt)
  obtain ⟨J1, g1, f1, h1⟩ := zc_sign (d := d + 2) (Q := Q) hr hk h haL
  obtain ⟨J2, g2, f2, h2⟩ := zc_oneOf (d := d + 1) (Q := Q) hr hk h1 hs.2 (j := 2) (by decide)
  rw [sk_sk, if_pos e] at g2
  rw [sk_sk] at h2
  obtain ⟨J3, g3, f3, h3⟩ := zc_pass (d := d + 3) (R := R) (Q := Q) hk h2 hlt
  obtain ⟨J4, C4, g4, f4, h4, l4, k4⟩ := hi (d + 3) J3 R Q C0 (by omega) hr h3 (by omega)
  obtain ⟨J5, g5, f5, h5⟩ := zc_add (d := d + 3) (Q := Q) hr h4 (by omega) (10000 + sp_hr L B (sp_sk L B a))
  rw [← zl_neg hx0] at g5
  have hb := zb_ok (ok := ok1)
  refine ⟨J5, _, ?_, fr_tr (fr_tr (fr_tr (fr_tr f1 f2) f3) f4) f5, h5, ?_, fun w => by rw [k4 w, List.append_assoc]⟩
  · rw [s40]
    simp (disch := first | omega | assumption) only [s40_0, s40_1, s40_4, s40_7, s40_8, s40_9, s40_12, s40_14, s40_17, s40_20, s40_21, s40_22, s40_23, s40_26, s40_29, s40_30, s40_31, s40_34, s40_35, s40_36, s40_39, s40_40, s40_41, s40_44, s40_45, nI_le2, nI_lt2, nI_eq2, nI_lt0, nI_0le, nI_0lt, nI_le0, nI_eq0, nI_clamp, nI_add, bu_nI, bb_0, bb_1, rf_s, rf_n, tl_s, tl_n, am_th_some, if_true, if_false, sI_eq, uI_eq, and_self, true_and, and_true, not_false_eq_true, not_true_eq_false, Nat.reduceEqDiff, Nat.reduceLeDiff, Nat.reduceLT, Nat.reduceAdd, Nat.reduceMul, Nat.reduceSub, Nat.zero_add, r0, r1, g1, g2, g3, g4, g5, hne, hb]
  · rw [List.length_append, List.length_singleton]; omega
theorem zc_uDeepN (hk : tp_ok L B) (haL : a ≤ L) (e : sp_hr L B (sp_sk L B a) = 33) (hd : 6 ≤ dp) (hd2 : dp ≤ 6) : zc_K L B 4 39 [.ref (am_mk 4 0), .int (nI dp)] a false (sp_sk L B a) [] := by
  intro d I R Q C0 hN' hr h hl
  obtain ⟨d, rfl⟩ : ∃ q, d = q + 4 := ⟨d - 4, by omega⟩
  have hs := sk_L (B := B) haL
  have hL := hk.1
  have hx := hr_le (a := sp_sk L B a) hk
  have r0 := hr.2.2.1
  have r1 := hr.2.2.2
  have hne : ((nI 1 : Int32) = 0) = False := by decide
  obtain ⟨J1, g1, f1, h1⟩ := zc_sign (d := d + 2) (Q := Q) hr hk h haL
  obtain ⟨J2, g2, f2, h2⟩ := zc_sign (d := d + 2) (Q := Q) hr hk h1 hs.2
  rw [sk_sk, e] at g2
  rw [sk_sk] at h2
  rw [e] at g1
  have q : ¬ dp < 6 := by omega
  refine ⟨J1, C0, ?_, f1, h1, by omega, fun w => by cases w⟩
  rw [s39]
  simp (disch := first | omega | assumption) only [s39_0, s39_1, s39_4, s39_5, s39_6, s39_9, s39_11, s39_14, s39_15, s39_18, s39_19, s39_20, s39_21, s39_24, s39_25, s39_28, s39_30, s39_33, s39_34, s39_35, s39_38, s39_41, s39_42, s39_43, s39_46, s39_49, s39_50, s39_53, s39_54, s39_55, s39_56, s39_58, s39_61, s39_62, s39_63, s39_64, s39_67, s39_68, s39_71, s39_72, s39_73, s39_74, s39_75, s39_76, s39_79, s39_82, s39_83, s39_85, s39_88, s39_91, s39_92, s39_95, s39_96, s39_97, s39_98, s39_99, s39_100, s39_101, s39_104, s39_106, s39_107, s39_110, s39_112, s39_115, s39_117, nI_le2, nI_lt2, nI_eq2, nI_lt0, nI_0le, nI_0lt, nI_le0, nI_eq0, nI_clamp, nI_add, bu_nI, bb_0, bb_1, rf_s, rf_n, tl_s, tl_n, am_th_some, if_true, if_false, sI_eq, uI_eq, and_self, true_and, and_true, not_false_eq_true, not_true_eq_false, Nat.reduceEqDiff, Nat.reduceLeDiff, Nat.reduceLT, Nat.reduceAdd, Nat.reduceMul, Nat.reduceSub, Nat.zero_add, r0, g1, q, hne, Bool.false_eq_true]
theorem zc_uDeepP (hk : tp_ok L B) (haL : a ≤ L) (e : sp_hr L B (sp_sk L B a) = 40) (hd : 6 ≤ dp) (hd2 : dp ≤ 6) : zc_K L B 4 39 [.ref (am_mk 4 0), .int (nI dp)] a false (sp_sk L B a) [] := by
  intro d I R Q C0 hN' hr h hl
  obtain ⟨d, rfl⟩ : ∃ q, d = q + 4 := ⟨d - 4, by omega⟩
  have hs := sk_L (B := B) haL
  have hL := hk.1
  have hx := hr_le (a := sp_sk L B a) hk
  have r0 := hr.2.2.1
  have r1 := hr.2.2.2
  have hne : ((nI 1 : Int32) = 0) = False := by decide
  obtain ⟨J1, g1, f1, h1⟩ := zc_sign (d := d + 2) (Q := Q) hr hk h haL
  obtain ⟨J2, g2, f2, h2⟩ := zc_sign (d := d + 2) (Q := Q) hr hk h1 hs.2
  rw [sk_sk, e] at g2
  rw [sk_sk] at h2
  rw [e] at g1
  have q : ¬ dp < 6 := by omega
  refine ⟨J2, C0, ?_, fr_tr f1 f2, h2, by omega, fun w => by cases w⟩
  rw [s39]
  simp (disch := first | omega | assumption) only [s39_0, s39_1, s39_4, s39_5, s39_6, s39_9, s39_11, s39_14, s39_15, s39_18, s39_19, s39_20, s39_21, s39_24, s39_25, s39_28, s39_30, s39_33, s39_34, s39_35, s39_38, s39_41, s39_42, s39_43, s39_46, s39_49, s39_50, s39_53, s39_54, s39_55, s39_56, s39_58, s39_61, s39_62, s39_63, s39_64, s39_67, s39_68, s39_71, s39_72, s39_73, s39_74, s39_75, s39_76, s39_79, s39_82, s39_83, s39_85, s39_88, s39_91, s39_92, s39_95, s39_96, s39_97, s39_98, s39_99, s39_100, s39_101, s39_104, s39_106, s39_107, s39_110, s39_112, s39_115, s39_117, nI_le2, nI_lt2, nI_eq2, nI_lt0, nI_0le, nI_0lt, nI_le0, nI_eq0, nI_clamp, nI_add, bu_nI, bb_0, bb_1, rf_s, rf_n, tl_s, tl_n, am_th_some, if_true, if_false, sI_eq, uI_eq, and_self, true_and, and_true, not_false_eq_true, not_true_eq_false, Nat.reduceEqDiff, Nat.reduceLeDiff, Nat.reduceLT, Nat.reduceAdd, Nat.reduceMul, Nat.reduceSub, Nat.zero_add, r0, g1, g2, q, hne, Bool.false_eq_true]
theorem zc_uNot (hk : tp_ok L B) (haL : a ≤ L) (ha1 : a1 ≤ L) (e : sp_hr L B (sp_sk L B a) = 33) (hd : dp < 6) (hN : 4 ≤ N) (hi : zc_K L B N 39 [.ref (am_mk 4 0), .int (nI (dp + 1))] (sp_sk L B a + 1) ok1 a1 C1) : zc_K L B (N + 1) 39 [.ref (am_mk 4 0), .int (nI dp)] a ok1 a1 (C1 ++ [10033]) := by
  intro d I R Q C0 hN' hr h hl
  obtain ⟨d, rfl⟩ : ∃ q, d = q + 4 := ⟨d - 4, by omega⟩
  have hs := sk_L (B := B) haL
  have hL := hk.1
  have hx := hr_le (a := sp_sk L B a) hk
  have r0 := hr.2.2.1
  have r1 := hr.2.2.2
  have hne : ((nI 1 : Int32) = 0) = False := by decide
  have hlt := hr_ltx e (by decide)
  obtain ⟨J1, g1, f1, h1⟩ := zc_sign (d := d + 2) (Q := Q) hr hk h haL
  rw [e] at g1
  obtain ⟨J3, g3, f3, h3⟩ := zc_pass (d := d + 3) (R := R) (Q := Q) hk h1 hlt
  obtain ⟨J4, C4, g4, f4, h4, l4, k4⟩ := hi (d + 3) J3 R Q C0 (by omega) hr h3 (by omega)
  obtain ⟨J5, g5, f5, h5⟩ := zc_add (d := d + 3) (Q := Q) hr h4 (by omega) 10033
  rw [zl_33] at g5
  have hb := zb_ok (ok := ok1)
  refine ⟨J5, _, ?_, fr_tr (fr_tr (fr_tr f1 f3) f4) f5, h5, ?_, fun w => by rw [k4 w, List.append_assoc]⟩
  · rw [s39]
    simp (disch := first | omega | assumption) only [s39_0, s39_1, s39_4, s39_5, s39_6, s39_9, s39_11, s39_14, s39_15, s39_18, s39_19, s39_20, s39_21, s39_24, s39_25, s39_28, s39_30, s39_33, s39_34, s39_35, s39_38, s39_41, s39_42, s39_43, s39_46, s39_49, s39_50, s39_53, s39_54, s39_55, s39_56, s39_58, s39_61, s39_62, s39_63, s39_64, s39_67, s39_68, s39_71, s39_72, s39_73, s39_74, s39_75, s39_76, s39_79, s39_82, s39_83, s39_85, s39_88, s39_91, s39_92, s39_95, s39_96, s39_97, s39_98, s39_99, s39_100, s39_101, s39_104, s39_106, s39_107, s39_110, s39_112, s39_115, s39_117, nI_le2, nI_lt2, nI_eq2, nI_lt0, nI_0le, nI_0lt, nI_le0, nI_eq0, nI_clamp, nI_add, bu_nI, bb_0, bb_1, rf_s, rf_n, tl_s, tl_n, am_th_some, if_true, if_false, sI_eq, uI_eq, and_self, true_and, and_true, not_false_eq_true, not_true_eq_false, Nat.reduceEqDiff, Nat.reduceLeDiff, Nat.reduceLT, Nat.reduceAdd, Nat.reduceMul, Nat.reduceSub, Nat.zero_add, r0, r1, g1, g3, g4, g5, hd, hne, hb]
  · rw [List.length_append, List.length_singleton]; omega
theorem zc_uFail (hk : tp_ok L B) (haL : a ≤ L) (ha1 : a1 ≤ L) (e : sp_hr L B (sp_sk L B a) = 40) (hd : dp < 6) (hN : 4 ≤ N) (hi : zc_K L B N 37 [.ref (am_mk 4 0), .int (nI (dp + 1)), .int (nI 0)] (sp_sk L B a + 1) false a1 C1) : zc_K L B (N + 1) 39 [.ref (am_mk 4 0), .int (nI dp)] a false a1 [] := by
  intro d I R Q C0 hN' hr h hl
  obtain ⟨d, rfl⟩ : ∃ q, d = q + 4 := ⟨d - 4, by omega⟩
  have hs := sk_L (B := B) haL
  have hL := hk.1
  have hx := hr_le (a := sp_sk L B a) hk
  have r0 := hr.2.2.1
  have r1 := hr.2.2.2
  have hne : ((nI 1 : Int32) = 0) = False := by decide
  have hlt := hr_ltx e (by decide)
  have hs1 := sk_L (B := B) ha1
  obtain ⟨J1, g1, f1, h1⟩ := zc_sign (d := d + 2) (Q := Q) hr hk h haL
  obtain ⟨J2, g2, f2, h2⟩ := zc_sign (d := d + 2) (Q := Q) hr hk h1 hs.2
  rw [sk_sk, e] at g2
  rw [sk_sk] at h2
  rw [e] at g1
  obtain ⟨J3, g3, f3, h3⟩ := zc_pass (d := d + 3) (R := R) (Q := Q) hk h2 hlt
  obtain ⟨J4, C4, g4, f4, h4, l4, k4⟩ := hi (d + 3) J3 R Q C0 (by omega) hr h3 (by omega)
  rw [if_neg (by decide)] at g4
  refine ⟨J4, C4, ?_, fr_tr (fr_tr (fr_tr f1 f2) f3) f4, h4, by omega, fun w => by cases w⟩
  rw [s39]
  simp (disch := first | omega | assumption) only [s39_0, s39_1, s39_4, s39_5, s39_6, s39_9, s39_11, s39_14, s39_15, s39_18, s39_19, s39_20, s39_21, s39_24, s39_25, s39_28, s39_30, s39_33, s39_34, s39_35, s39_38, s39_41, s39_42, s39_43, s39_46, s39_49, s39_50, s39_53, s39_54, s39_55, s39_56, s39_58, s39_61, s39_62, s39_63, s39_64, s39_67, s39_68, s39_71, s39_72, s39_73, s39_74, s39_75, s39_76, s39_79, s39_82, s39_83, s39_85, s39_88, s39_91, s39_92, s39_95, s39_96, s39_97, s39_98, s39_99, s39_100, s39_101, s39_104, s39_106, s39_107, s39_110, s39_112, s39_115, s39_117, nI_le2, nI_lt2, nI_eq2, nI_lt0, nI_0le, nI_0lt, nI_le0, nI_eq0, nI_clamp, nI_add, bu_nI, bb_0, bb_1, rf_s, rf_n, tl_s, tl_n, am_th_some, if_true, if_false, sI_eq, uI_eq, and_self, true_and, and_true, not_false_eq_true, not_true_eq_false, Nat.reduceEqDiff, Nat.reduceLeDiff, Nat.reduceLT, Nat.reduceAdd, Nat.reduceMul, Nat.reduceSub, Nat.zero_add, r0, r1, g1, g2, g3, g4, hd, hne, Bool.false_eq_true]
theorem zc_uClose (hk : tp_ok L B) (haL : a ≤ L) (ha1 : a1 ≤ L) (e : sp_hr L B (sp_sk L B a) = 40) (hd : dp < 6) (hN : 4 ≤ N) (hi : zc_K L B N 37 [.ref (am_mk 4 0), .int (nI (dp + 1)), .int (nI 0)] (sp_sk L B a + 1) true a1 C1) (e2 : sp_hr L B (sp_sk L B a1) = 41) : zc_K L B (N + 1) 39 [.ref (am_mk 4 0), .int (nI dp)] a true (sp_sk L B a1 + 1) C1 := by
  intro d I R Q C0 hN' hr h hl
  obtain ⟨d, rfl⟩ : ∃ q, d = q + 4 := ⟨d - 4, by omega⟩
  have hs := sk_L (B := B) haL
  have hL := hk.1
  have hx := hr_le (a := sp_sk L B a) hk
  have r0 := hr.2.2.1
  have r1 := hr.2.2.2
  have hne : ((nI 1 : Int32) = 0) = False := by decide
  have hlt := hr_ltx e (by decide)
  have hs1 := sk_L (B := B) ha1
  obtain ⟨J1, g1, f1, h1⟩ := zc_sign (d := d + 2) (Q := Q) hr hk h haL
  obtain ⟨J2, g2, f2, h2⟩ := zc_sign (d := d + 2) (Q := Q) hr hk h1 hs.2
  rw [sk_sk, e] at g2
  rw [sk_sk] at h2
  rw [e] at g1
  obtain ⟨J3, g3, f3, h3⟩ := zc_pass (d := d + 3) (R := R) (Q := Q) hk h2 hlt
  obtain ⟨J4, C4, g4, f4, h4, l4, k4⟩ := hi (d + 3) J3 R Q C0 (by omega) hr h3 (by omega)
  rw [if_pos rfl] at g4
  obtain ⟨J5, g5, f5, h5⟩ := zc_passes (d := d + 1) (Q := Q) (x := 41) hr hk h4 ha1 (by decide)
  rw [if_pos e2] at g5 h5
  refine ⟨J5, C4, ?_, fr_tr (fr_tr (fr_tr (fr_tr f1 f2) f3) f4) f5, h5, by omega, k4⟩
  rw [s39]
  simp (disch := first | omega | assumption) only [s39_0, s39_1, s39_4, s39_5, s39_6, s39_9, s39_11, s39_14, s39_15, s39_18, s39_19, s39_20, s39_21, s39_24, s39_25, s39_28, s39_30, s39_33, s39_34, s39_35, s39_38, s39_41, s39_42, s39_43, s39_46, s39_49, s39_50, s39_53, s39_54, s39_55, s39_56, s39_58, s39_61, s39_62, s39_63, s39_64, s39_67, s39_68, s39_71, s39_72, s39_73, s39_74, s39_75, s39_76, s39_79, s39_82, s39_83, s39_85, s39_88, s39_91, s39_92, s39_95, s39_96, s39_97, s39_98, s39_99, s39_100, s39_101, s39_104, s39_106, s39_107, s39_110, s39_112, s39_115, s39_117, nI_le2, nI_lt2, nI_eq2, nI_lt0, nI_0le, nI_0lt, nI_le0, nI_eq0, nI_clamp, nI_add, bu_nI, bb_0, bb_1, rf_s, rf_n, tl_s, tl_n, am_th_some, if_true, if_false, sI_eq, uI_eq, and_self, true_and, and_true, not_false_eq_true, not_true_eq_false, Nat.reduceEqDiff, Nat.reduceLeDiff, Nat.reduceLT, Nat.reduceAdd, Nat.reduceMul, Nat.reduceSub, Nat.zero_add, r0, r1, g1, g2, g3, g4, g5, hd, hne, Bool.false_eq_true]
theorem zc_uOpen (hk : tp_ok L B) (haL : a ≤ L) (ha1 : a1 ≤ L) (e : sp_hr L B (sp_sk L B a) = 40) (hd : dp < 6) (hN : 4 ≤ N) (hi : zc_K L B N 37 [.ref (am_mk 4 0), .int (nI (dp + 1)), .int (nI 0)] (sp_sk L B a + 1) true a1 C1) (e2 : ¬ sp_hr L B (sp_sk L B a1) = 41) : zc_K L B (N + 1) 39 [.ref (am_mk 4 0), .int (nI dp)] a false (sp_sk L B a1) [] := by
  intro d I R Q C0 hN' hr h hl
  obtain ⟨d, rfl⟩ : ∃ q, d = q + 4 := ⟨d - 4, by omega⟩
  have hs := sk_L (B := B) haL
  have hL := hk.1
  have hx := hr_le (a := sp_sk L B a) hk
  have r0 := hr.2.2.1
  have r1 := hr.2.2.2
  have hne : ((nI 1 : Int32) = 0) = False := by decide
  have hlt := hr_ltx e (by decide)
  have hs1 := sk_L (B := B) ha1
  obtain ⟨J1, g1, f1, h1⟩ := zc_sign (d := d + 2) (Q := Q) hr hk h haL
  obtain ⟨J2, g2, f2, h2⟩ := zc_sign (d := d + 2) (Q := Q) hr hk h1 hs.2
  rw [sk_sk, e] at g2
  rw [sk_sk] at h2
  rw [e] at g1
  obtain ⟨J3, g3, f3, h3⟩ := zc_pass (d := d + 3) (R := R) (Q := Q) hk h2 hlt
  obtain ⟨J4, C4, g4, f4, h4, l4, k4⟩ := hi (d + 3) J3 R Q C0 (by omega) hr h3 (by omega)
  rw [if_pos rfl] at g4
  obtain ⟨J5, g5, f5, h5⟩ := zc_passes (d := d + 1) (Q := Q) (x := 41) hr hk h4 ha1 (by decide)
  rw [if_neg e2] at g5 h5
  refine ⟨J5, C4, ?_, fr_tr (fr_tr (fr_tr (fr_tr f1 f2) f3) f4) f5, h5, by omega, fun w => by cases w⟩
  rw [s39]
  simp (disch := first | omega | assumption) only [s39_0, s39_1, s39_4, s39_5, s39_6, s39_9, s39_11, s39_14, s39_15, s39_18, s39_19, s39_20, s39_21, s39_24, s39_25, s39_28, s39_30, s39_33, s39_34, s39_35, s39_38, s39_41, s39_42, s39_43, s39_46, s39_49, s39_50, s39_53, s39_54, s39_55, s39_56, s39_58, s39_61, s39_62, s39_63, s39_64, s39_67, s39_68, s39_71, s39_72, s39_73, s39_74, s39_75, s39_76, s39_79, s39_82, s39_83, s39_85, s39_88, s39_91, s39_92, s39_95, s39_96, s39_97, s39_98, s39_99, s39_100, s39_101, s39_104, s39_106, s39_107, s39_110, s39_112, s39_115, s39_117, nI_le2, nI_lt2, nI_eq2, nI_lt0, nI_0le, nI_0lt, nI_le0, nI_eq0, nI_clamp, nI_add, bu_nI, bb_0, bb_1, rf_s, rf_n, tl_s, tl_n, am_th_some, if_true, if_false, sI_eq, uI_eq, and_self, true_and, and_true, not_false_eq_true, not_true_eq_false, Nat.reduceEqDiff, Nat.reduceLeDiff, Nat.reduceLT, Nat.reduceAdd, Nat.reduceMul, Nat.reduceSub, Nat.zero_add, r0, r1, g1, g2, g3, g4, g5, hd, hne, Bool.false_eq_true]
theorem zc_uSumBad (hk : tp_ok L B) (haL : a ≤ L) (e3 : ¬ sp_hr L B (sp_sk L B a) = 33) (e4 : ¬ sp_hr L B (sp_sk L B a) = 40) (hN : 4 ≤ N) (hi : zc_K L B N 41 [.ref (am_mk 4 0), .int (nI dp)] (sp_sk L B a) false a1 C1) : zc_K L B (N + 1) 39 [.ref (am_mk 4 0), .int (nI dp)] a false a1 [] := by
  intro d I R Q C0 hN' hr h hl
  obtain ⟨d, rfl⟩ : ∃ q, d = q + 4 := ⟨d - 4, by omega⟩
  have hs := sk_L (B := B) haL
  have hL := hk.1
  have hx := hr_le (a := sp_sk L B a) hk
  have r0 := hr.2.2.1
  have r1 := hr.2.2.2
  have hne : ((nI 1 : Int32) = 0) = False := by decide
  obtain ⟨J1, g1, f1, h1⟩ := zc_sign (d := d + 2) (Q := Q) hr hk h haL
  obtain ⟨J2, g2, f2, h2⟩ := zc_sign (d := d + 2) (Q := Q) hr hk h1 hs.2
  rw [sk_sk] at g2 h2
  obtain ⟨J4, C4, g4, f4, h4, l4, k4⟩ := hi (d + 3) J2 R Q C0 (by omega) hr h2 (by omega)
  rw [if_neg (by decide)] at g4
  refine ⟨J4, C4, ?_, fr_tr (fr_tr f1 f2) f4, h4, by omega, fun w => by cases w⟩
  rw [s39]
  simp (disch := first | omega | assumption) only [s39_0, s39_1, s39_4, s39_5, s39_6, s39_9, s39_11, s39_14, s39_15, s39_18, s39_19, s39_20, s39_21, s39_24, s39_25, s39_28, s39_30, s39_33, s39_34, s39_35, s39_38, s39_41, s39_42, s39_43, s39_46, s39_49, s39_50, s39_53, s39_54, s39_55, s39_56, s39_58, s39_61, s39_62, s39_63, s39_64, s39_67, s39_68, s39_71, s39_72, s39_73, s39_74, s39_75, s39_76, s39_79, s39_82, s39_83, s39_85, s39_88, s39_91, s39_92, s39_95, s39_96, s39_97, s39_98, s39_99, s39_100, s39_101, s39_104, s39_106, s39_107, s39_110, s39_112, s39_115, s39_117, nI_le2, nI_lt2, nI_eq2, nI_lt0, nI_0le, nI_0lt, nI_le0, nI_eq0, nI_clamp, nI_add, bu_nI, bb_0, bb_1, rf_s, rf_n, tl_s, tl_n, am_th_some, if_true, if_false, sI_eq, uI_eq, and_self, true_and, and_true, not_false_eq_true, not_true_eq_false, Nat.reduceEqDiff, Nat.reduceLeDiff, Nat.reduceLT, Nat.reduceAdd, Nat.reduceMul, Nat.reduceSub, Nat.zero_add, r0, r1, g1, g2, g4, e3, e4, hne, Bool.false_eq_true]
theorem zc_uCmp (hk : tp_ok L B) (haL : a ≤ L) (e3 : ¬ sp_hr L B (sp_sk L B a) = 33) (e4 : ¬ sp_hr L B (sp_sk L B a) = 40) (hN : 4 ≤ N) (hi : zc_K L B N 41 [.ref (am_mk 4 0), .int (nI dp)] (sp_sk L B a) true a1 C1) (hc : sp_sk L B a ≤ a1) (hp : zc_K L B N 40 [.ref (am_mk 4 0), .int (nI dp)] a1 ok2 a2 C2) : zc_K L B (N + 1) 39 [.ref (am_mk 4 0), .int (nI dp)] a ok2 a2 (C1 ++ C2) := by
  intro d I R Q C0 hN' hr h hl
  obtain ⟨d, rfl⟩ : ∃ q, d = q + 4 := ⟨d - 4, by omega⟩
  have hs := sk_L (B := B) haL
  have hL := hk.1
  have hx := hr_le (a := sp_sk L B a) hk
  have r0 := hr.2.2.1
  have r1 := hr.2.2.2
  have hne : ((nI 1 : Int32) = 0) = False := by decide
  obtain ⟨J1, g1, f1, h1⟩ := zc_sign (d := d + 2) (Q := Q) hr hk h haL
  obtain ⟨J2, g2, f2, h2⟩ := zc_sign (d := d + 2) (Q := Q) hr hk h1 hs.2
  rw [sk_sk] at g2 h2
  obtain ⟨J4, C4, g4, f4, h4, l4, k4⟩ := hi (d + 3) J2 R Q C0 (by omega) hr h2 (by omega)
  rw [if_pos rfl] at g4
  have k4 := k4 rfl
  obtain ⟨J5, C5, g5, f5, h5, l5, k5⟩ := hp (d + 3) J4 R Q C4 (by omega) hr h4 (by omega)
  refine ⟨J5, C5, ?_, fr_tr (fr_tr (fr_tr f1 f2) f4) f5, h5, by omega, fun w => by rw [k5 w, k4, List.append_assoc]⟩
  rw [s39]
  cases ok2
  · rw [if_neg (by decide)] at g5
    simp (disch := first | omega | assumption) only [s39_0, s39_1, s39_4, s39_5, s39_6, s39_9, s39_11, s39_14, s39_15, s39_18, s39_19, s39_20, s39_21, s39_24, s39_25, s39_28, s39_30, s39_33, s39_34, s39_35, s39_38, s39_41, s39_42, s39_43, s39_46, s39_49, s39_50, s39_53, s39_54, s39_55, s39_56, s39_58, s39_61, s39_62, s39_63, s39_64, s39_67, s39_68, s39_71, s39_72, s39_73, s39_74, s39_75, s39_76, s39_79, s39_82, s39_83, s39_85, s39_88, s39_91, s39_92, s39_95, s39_96, s39_97, s39_98, s39_99, s39_100, s39_101, s39_104, s39_106, s39_107, s39_110, s39_112, s39_115, s39_117, nI_le2, nI_lt2, nI_eq2, nI_lt0, nI_0le, nI_0lt, nI_le0, nI_eq0, nI_clamp, nI_add, bu_nI, bb_0, bb_1, rf_s, rf_n, tl_s, tl_n, am_th_some, if_true, if_false, sI_eq, uI_eq, and_self, true_and, and_true, not_false_eq_true, not_true_eq_false, Nat.reduceEqDiff, Nat.reduceLeDiff, Nat.reduceLT, Nat.reduceAdd, Nat.reduceMul, Nat.reduceSub, Nat.zero_add, r0, r1, g1, g2, g4, g5, e3, e4, hne, Bool.false_eq_true]
  · rw [if_pos rfl] at g5
    simp (disch := first | omega | assumption) only [s39_0, s39_1, s39_4, s39_5, s39_6, s39_9, s39_11, s39_14, s39_15, s39_18, s39_19, s39_20, s39_21, s39_24, s39_25, s39_28, s39_30, s39_33, s39_34, s39_35, s39_38, s39_41, s39_42, s39_43, s39_46, s39_49, s39_50, s39_53, s39_54, s39_55, s39_56, s39_58, s39_61, s39_62, s39_63, s39_64, s39_67, s39_68, s39_71, s39_72, s39_73, s39_74, s39_75, s39_76, s39_79, s39_82, s39_83, s39_85, s39_88, s39_91, s39_92, s39_95, s39_96, s39_97, s39_98, s39_99, s39_100, s39_101, s39_104, s39_106, s39_107, s39_110, s39_112, s39_115, s39_117, nI_le2, nI_lt2, nI_eq2, nI_lt0, nI_0le, nI_0lt, nI_le0, nI_eq0, nI_clamp, nI_add, bu_nI, bb_0, bb_1, rf_s, rf_n, tl_s, tl_n, am_th_some, if_true, if_false, sI_eq, uI_eq, and_self, true_and, and_true, not_false_eq_true, not_true_eq_false, Nat.reduceEqDiff, Nat.reduceLeDiff, Nat.reduceLT, Nat.reduceAdd, Nat.reduceMul, Nat.reduceSub, Nat.zero_add, r0, r1, g1, g2, g4, g5, e3, e4, hne]
abbrev zc_ln (dp : Nat) : Nat → Value → List Value := fun i l => [.ref (am_mk 4 0), .int (nI dp), l, .int (nI 1), .int (nI i)]
theorem zc_nEnd (hk : tp_ok L B) (haL : a ≤ L) (e : ¬ sp_hr L B (sp_sk L B a) = 38) (hN : 4 ≤ N) : zc_W L B N 38 21 (zc_ln dp) a true (sp_sk L B a) [] := by
  intro d I R Q C0 i l hN' hr h hl hi
  obtain ⟨d, rfl⟩ : ∃ q, d = q + 4 := ⟨d - 4, by omega⟩
  have hs := sk_L (B := B) haL
  have hL := hk.1
  have r0 := hr.2.2.1
  have hne : ((nI 1 : Int32) = 0) = False := by decide
  by_cases q : i < 240
  · obtain ⟨J1, g1, f1, h1⟩ := zc_passes (d := d + 1) (Q := Q) (x := 38) hr hk h haL (by decide)
    rw [if_neg e] at g1 h1
    have q' : ¬ 240 ≤ i := by omega
    refine ⟨J1, C0, ?_, f1, h1, by omega, fun _ => (List.append_nil C0).symm⟩
    rw [s38_21]
    simp (disch := first | omega | assumption) only [s38_0, s38_1, s38_4, s38_5, s38_6, s38_9, s38_12, s38_13, s38_14, s38_17, s38_18, s38_19, s38_22, s38_25, s38_27, s38_30, s38_33, s38_34, s38_37, s38_39, s38_42, s38_45, s38_46, s38_47, s38_50, s38_51, s38_52, s38_55, s38_57, s38_60, s38_63, s38_66, s38_67, nI_le2, nI_lt2, nI_eq2, nI_lt0, nI_0le, nI_0lt, nI_le0, nI_eq0, nI_clamp, nI_add, bu_nI, bb_0, bb_1, rf_s, rf_n, tl_s, tl_n, am_th_some, if_true, if_false, sI_eq, uI_eq, and_self, true_and, and_true, not_false_eq_true, not_true_eq_false, Nat.reduceEqDiff, Nat.reduceLeDiff, Nat.reduceLT, Nat.reduceAdd, Nat.reduceMul, Nat.reduceSub, Nat.zero_add, r0, g1, q', hne]
  · have hsa : sp_sk L B a = a := sk_e (by omega)
    rw [hsa]
    have q' : 240 ≤ i := by omega
    refine ⟨I, C0, ?_, fr_rf, h, by omega, fun _ => (List.append_nil C0).symm⟩
    rw [s38_21]
    simp (disch := first | omega | assumption) only [s38_0, s38_1, s38_4, s38_5, s38_6, s38_9, s38_12, s38_13, s38_14, s38_17, s38_18, s38_19, s38_22, s38_25, s38_27, s38_30, s38_33, s38_34, s38_37, s38_39, s38_42, s38_45, s38_46, s38_47, s38_50, s38_51, s38_52, s38_55, s38_57, s38_60, s38_63, s38_66, s38_67, nI_le2, nI_lt2, nI_eq2, nI_lt0, nI_0le, nI_0lt, nI_le0, nI_eq0, nI_clamp, nI_add, bu_nI, bb_0, bb_1, rf_s, rf_n, tl_s, tl_n, am_th_some, if_true, if_false, sI_eq, uI_eq, and_self, true_and, and_true, not_false_eq_true, not_true_eq_false, Nat.reduceEqDiff, Nat.reduceLeDiff, Nat.reduceLT, Nat.reduceAdd, Nat.reduceMul, Nat.reduceSub, Nat.zero_add, r0, q', hne]
theorem zc_nBad (hk : tp_ok L B) (haL : a ≤ L) (ha1 : a1 ≤ L) (e : sp_hr L B (sp_sk L B a) = 38) (hN : 4 ≤ N) (hi : zc_K L B N 39 [.ref (am_mk 4 0), .int (nI dp)] (sp_sk L B a + 1) false a1 C1) : zc_W L B (N + 1) 38 21 (zc_ln dp) a false a1 [] := by
  intro d I R Q C0 i l hN' hr h hl hia
  obtain ⟨d, rfl⟩ : ∃ q, d = q + 4 := ⟨d - 4, by omega⟩
  have hs := sk_L (B := B) haL
  have hL := hk.1
  have hlt := hr_ltx e (by decide)
  have hne : ((nI 1 : Int32) = 0) = False := by decide
  obtain ⟨J1, g1, f1, h1⟩ := zc_passes (d := d + 1) (Q := Q) (x := 38) hr hk h haL (by decide)
  rw [if_pos e] at g1 h1
  obtain ⟨J4, C4, g4, f4, h4, l4, -⟩ := hi (d + 3) J1 R Q C0 (by omega) hr h1 (by omega)
  rw [if_neg (by decide)] at g4
  obtain ⟨J5, g5, f5, h5⟩ := zc_add (d := d + 3) (Q := Q) hr h4 (by omega) 10038
  rw [zl_38] at g5
  have r0 := hr.2.2.1
  have r1 := hr.2.2.2
  have q' : ¬ 240 ≤ i := by omega
  refine ⟨J5, _, ?_, fr_tr (fr_tr f1 f4) f5, h5, ?_, fun w => by cases w⟩
  · rw [s38_21]
    simp (disch := first | omega | assumption) only [s38_0, s38_1, s38_4, s38_5, s38_6, s38_9, s38_12, s38_13, s38_14, s38_17, s38_18, s38_19, s38_22, s38_25, s38_27, s38_30, s38_33, s38_34, s38_37, s38_39, s38_42, s38_45, s38_46, s38_47, s38_50, s38_51, s38_52, s38_55, s38_57, s38_60, s38_63, s38_66, s38_67, nI_le2, nI_lt2, nI_eq2, nI_lt0, nI_0le, nI_0lt, nI_le0, nI_eq0, nI_clamp, nI_add, bu_nI, bb_0, bb_1, rf_s, rf_n, tl_s, tl_n, am_th_some, if_true, if_false, sI_eq, uI_eq, and_self, true_and, and_true, not_false_eq_true, not_true_eq_false, Nat.reduceEqDiff, Nat.reduceLeDiff, Nat.reduceLT, Nat.reduceAdd, Nat.reduceMul, Nat.reduceSub, Nat.zero_add, r0, r1, g1, g4, g5, q', hne]
    rw [s38_21]
    simp (disch := first | omega | assumption) only [s38_0, s38_1, s38_4, s38_5, s38_6, s38_9, s38_12, s38_13, s38_14, s38_17, s38_18, s38_19, s38_22, s38_25, s38_27, s38_30, s38_33, s38_34, s38_37, s38_39, s38_42, s38_45, s38_46, s38_47, s38_50, s38_51, s38_52, s38_55, s38_57, s38_60, s38_63, s38_66, s38_67, nI_le2, nI_lt2, nI_eq2, nI_lt0, nI_0le, nI_0lt, nI_le0, nI_eq0, nI_clamp, nI_add, bu_nI, bb_0, bb_1, rf_s, rf_n, tl_s, tl_n, am_th_some, if_true, if_false, sI_eq, uI_eq, and_self, true_and, and_true, not_false_eq_true, not_true_eq_false, Nat.reduceEqDiff, Nat.reduceLeDiff, Nat.reduceLT, Nat.reduceAdd, Nat.reduceMul, Nat.reduceSub, Nat.zero_add, Bool.false_eq_true]
  · rw [List.length_append, List.length_singleton]; omega
theorem zc_nGo (hk : tp_ok L B) (haL : a ≤ L) (ha1 : a1 ≤ L) (e : sp_hr L B (sp_sk L B a) = 38) (hN : 4 ≤ N) (hi : zc_K L B N 39 [.ref (am_mk 4 0), .int (nI dp)] (sp_sk L B a + 1) true a1 C1) (hc : sp_sk L B a + 1 ≤ a1) (hw : zc_W L B (N + 1) 38 21 (zc_ln dp) a1 ok' a' C') : zc_W L B (N + 1) 38 21 (zc_ln dp) a ok' a' (C1 ++ 10038 :: C') := by
  intro d I R Q C0 i l hN' hr h hl hia
  obtain ⟨d, rfl⟩ : ∃ q, d = q + 4 := ⟨d - 4, by omega⟩
  have hs := sk_L (B := B) haL
  have hL := hk.1
  have hlt := hr_ltx e (by decide)
  have hne : ((nI 1 : Int32) = 0) = False := by decide
  obtain ⟨J1, g1, f1, h1⟩ := zc_passes (d := d + 1) (Q := Q) (x := 38) hr hk h haL (by decide)
  rw [if_pos e] at g1 h1
  obtain ⟨J4, C4, g4, f4, h4, l4, k4⟩ := hi (d + 3) J1 R Q C0 (by omega) hr h1 (by omega)
  have k4 := k4 rfl
  rw [if_pos rfl] at g4
  obtain ⟨J5, g5, f5, h5⟩ := zc_add (d := d + 3) (Q := Q) hr h4 (by omega) 10038
  rw [zl_38] at g5
  have hlen : (C4 ++ [10038]).length = C4.length + 1 := by rw [List.length_append, List.length_singleton]
  obtain ⟨J6, C6, g6, f6, h6, l6, k6⟩ := hw (d + 4) J5 R Q _ (i + 1) l hN' hr h5 (by rw [hlen]; omega) (by omega)
  have r0 := hr.2.2.1
  have r1 := hr.2.2.2
  have q' : ¬ 240 ≤ i := by omega
  refine ⟨J6, C6, ?_, fr_tr (fr_tr (fr_tr f1 f4) f5) f6, h6, by rw [hlen] at l6; omega, fun w => ?_⟩
  · rw [s38_21]
    simp (disch := first | omega | assumption) only [s38_0, s38_1, s38_4, s38_5, s38_6, s38_9, s38_12, s38_13, s38_14, s38_17, s38_18, s38_19, s38_22, s38_25, s38_27, s38_30, s38_33, s38_34, s38_37, s38_39, s38_42, s38_45, s38_46, s38_47, s38_50, s38_51, s38_52, s38_55, s38_57, s38_60, s38_63, s38_66, s38_67, nI_le2, nI_lt2, nI_eq2, nI_lt0, nI_0le, nI_0lt, nI_le0, nI_eq0, nI_clamp, nI_add, bu_nI, bb_0, bb_1, rf_s, rf_n, tl_s, tl_n, am_th_some, if_true, if_false, sI_eq, uI_eq, and_self, true_and, and_true, not_false_eq_true, not_true_eq_false, Nat.reduceEqDiff, Nat.reduceLeDiff, Nat.reduceLT, Nat.reduceAdd, Nat.reduceMul, Nat.reduceSub, Nat.zero_add, r0, r1, g1, g4, g5, q', hne]
    exact g6
  · rw [k6 w, k4]
    simp
theorem zc_oEnd (hk : tp_ok L B) (haL : a ≤ L) (e : ¬ sp_hr L B (sp_sk L B a) = 124) (hN : 4 ≤ N) : zc_W L B N 37 10 (zc_ln dp) a true (sp_sk L B a) [] := by
  intro d I R Q C0 i l hN' hr h hl hi
  obtain ⟨d, rfl⟩ : ∃ q, d = q + 4 := ⟨d - 4, by omega⟩
  have hs := sk_L (B := B) haL
  have hL := hk.1
  have r0 := hr.2.2.1
  have hne : ((nI 1 : Int32) = 0) = False := by decide
  by_cases q : i < 240
  · obtain ⟨J1, g1, f1, h1⟩ := zc_passes (d := d + 1) (Q := Q) (x := 124) hr hk h haL (by decide)
    rw [if_neg e] at g1 h1
    have q' : ¬ 240 ≤ i := by omega
    refine ⟨J1, C0, ?_, f1, h1, by omega, fun _ => (List.append_nil C0).symm⟩
    rw [s37_10]
    simp (disch := first | omega | assumption) only [s37_0, s37_1, s37_2, s37_3, s37_6, s37_7, s37_8, s37_11, s37_14, s37_16, s37_19, s37_22, s37_23, s37_26, s37_28, s37_31, s37_34, s37_35, s37_36, s37_37, s37_40, s37_41, s37_42, s37_45, s37_47, s37_50, s37_53, s37_56, s37_57, nI_le2, nI_lt2, nI_eq2, nI_lt0, nI_0le, nI_0lt, nI_le0, nI_eq0, nI_clamp, nI_add, bu_nI, bb_0, bb_1, rf_s, rf_n, tl_s, tl_n, am_th_some, if_true, if_false, sI_eq, uI_eq, and_self, true_and, and_true, not_false_eq_true, not_true_eq_false, Nat.reduceEqDiff, Nat.reduceLeDiff, Nat.reduceLT, Nat.reduceAdd, Nat.reduceMul, Nat.reduceSub, Nat.zero_add, r0, g1, q', hne]
  · have hsa : sp_sk L B a = a := sk_e (by omega)
    rw [hsa]
    have q' : 240 ≤ i := by omega
    refine ⟨I, C0, ?_, fr_rf, h, by omega, fun _ => (List.append_nil C0).symm⟩
    rw [s37_10]
    simp (disch := first | omega | assumption) only [s37_0, s37_1, s37_2, s37_3, s37_6, s37_7, s37_8, s37_11, s37_14, s37_16, s37_19, s37_22, s37_23, s37_26, s37_28, s37_31, s37_34, s37_35, s37_36, s37_37, s37_40, s37_41, s37_42, s37_45, s37_47, s37_50, s37_53, s37_56, s37_57, nI_le2, nI_lt2, nI_eq2, nI_lt0, nI_0le, nI_0lt, nI_le0, nI_eq0, nI_clamp, nI_add, bu_nI, bb_0, bb_1, rf_s, rf_n, tl_s, tl_n, am_th_some, if_true, if_false, sI_eq, uI_eq, and_self, true_and, and_true, not_false_eq_true, not_true_eq_false, Nat.reduceEqDiff, Nat.reduceLeDiff, Nat.reduceLT, Nat.reduceAdd, Nat.reduceMul, Nat.reduceSub, Nat.zero_add, r0, q', hne]
theorem zc_oBad (hk : tp_ok L B) (haL : a ≤ L) (ha1 : a1 ≤ L) (e : sp_hr L B (sp_sk L B a) = 124) (hN : 4 ≤ N) (hi : zc_K L B N 38 [.ref (am_mk 4 0), .int (nI dp), .int (nI 0)] (sp_sk L B a + 1) false a1 C1) : zc_W L B (N + 1) 37 10 (zc_ln dp) a false a1 [] := by
  intro d I R Q C0 i l hN' hr h hl hia
  obtain ⟨d, rfl⟩ : ∃ q, d = q + 4 := ⟨d - 4, by omega⟩
  have hs := sk_L (B := B) haL
  have hL := hk.1
  have hlt := hr_ltx e (by decide)
  have hne : ((nI 1 : Int32) = 0) = False := by decide
  obtain ⟨J1, g1, f1, h1⟩ := zc_passes (d := d + 1) (Q := Q) (x := 124) hr hk h haL (by decide)
  rw [if_pos e] at g1 h1
  obtain ⟨J4, C4, g4, f4, h4, l4, -⟩ := hi (d + 3) J1 R Q C0 (by omega) hr h1 (by omega)
  rw [if_neg (by decide)] at g4
  obtain ⟨J5, g5, f5, h5⟩ := zc_add (d := d + 3) (Q := Q) hr h4 (by omega) 10124
  rw [zl_124] at g5
  have r0 := hr.2.2.1
  have r1 := hr.2.2.2
  have q' : ¬ 240 ≤ i := by omega
  refine ⟨J5, _, ?_, fr_tr (fr_tr f1 f4) f5, h5, ?_, fun w => by cases w⟩
  · rw [s37_10]
    simp (disch := first | omega | assumption) only [s37_0, s37_1, s37_2, s37_3, s37_6, s37_7, s37_8, s37_11, s37_14, s37_16, s37_19, s37_22, s37_23, s37_26, s37_28, s37_31, s37_34, s37_35, s37_36, s37_37, s37_40, s37_41, s37_42, s37_45, s37_47, s37_50, s37_53, s37_56, s37_57, nI_le2, nI_lt2, nI_eq2, nI_lt0, nI_0le, nI_0lt, nI_le0, nI_eq0, nI_clamp, nI_add, bu_nI, bb_0, bb_1, rf_s, rf_n, tl_s, tl_n, am_th_some, if_true, if_false, sI_eq, uI_eq, and_self, true_and, and_true, not_false_eq_true, not_true_eq_false, Nat.reduceEqDiff, Nat.reduceLeDiff, Nat.reduceLT, Nat.reduceAdd, Nat.reduceMul, Nat.reduceSub, Nat.zero_add, r0, r1, g1, g4, g5, q', hne]
    rw [s37_10]
    simp (disch := first | omega | assumption) only [s37_0, s37_1, s37_2, s37_3, s37_6, s37_7, s37_8, s37_11, s37_14, s37_16, s37_19, s37_22, s37_23, s37_26, s37_28, s37_31, s37_34, s37_35, s37_36, s37_37, s37_40, s37_41, s37_42, s37_45, s37_47, s37_50, s37_53, s37_56, s37_57, nI_le2, nI_lt2, nI_eq2, nI_lt0, nI_0le, nI_0lt, nI_le0, nI_eq0, nI_clamp, nI_add, bu_nI, bb_0, bb_1, rf_s, rf_n, tl_s, tl_n, am_th_some, if_true, if_false, sI_eq, uI_eq, and_self, true_and, and_true, not_false_eq_true, not_true_eq_false, Nat.reduceEqDiff, Nat.reduceLeDiff, Nat.reduceLT, Nat.reduceAdd, Nat.reduceMul, Nat.reduceSub, Nat.zero_add, Bool.false_eq_true]
  · rw [List.length_append, List.length_singleton]; omega
theorem zc_oGo (hk : tp_ok L B) (haL : a ≤ L) (ha1 : a1 ≤ L) (e : sp_hr L B (sp_sk L B a) = 124) (hN : 4 ≤ N) (hi : zc_K L B N 38 [.ref (am_mk 4 0), .int (nI dp), .int (nI 0)] (sp_sk L B a + 1) true a1 C1) (hc : sp_sk L B a + 1 ≤ a1) (hw : zc_W L B (N + 1) 37 10 (zc_ln dp) a1 ok' a' C') : zc_W L B (N + 1) 37 10 (zc_ln dp) a ok' a' (C1 ++ 10124 :: C') := by
  intro d I R Q C0 i l hN' hr h hl hia
  obtain ⟨d, rfl⟩ : ∃ q, d = q + 4 := ⟨d - 4, by omega⟩
  have hs := sk_L (B := B) haL
  have hL := hk.1
  have hlt := hr_ltx e (by decide)
  have hne : ((nI 1 : Int32) = 0) = False := by decide
  obtain ⟨J1, g1, f1, h1⟩ := zc_passes (d := d + 1) (Q := Q) (x := 124) hr hk h haL (by decide)
  rw [if_pos e] at g1 h1
  obtain ⟨J4, C4, g4, f4, h4, l4, k4⟩ := hi (d + 3) J1 R Q C0 (by omega) hr h1 (by omega)
  have k4 := k4 rfl
  rw [if_pos rfl] at g4
  obtain ⟨J5, g5, f5, h5⟩ := zc_add (d := d + 3) (Q := Q) hr h4 (by omega) 10124
  rw [zl_124] at g5
  have hlen : (C4 ++ [10124]).length = C4.length + 1 := by rw [List.length_append, List.length_singleton]
  obtain ⟨J6, C6, g6, f6, h6, l6, k6⟩ := hw (d + 4) J5 R Q _ (i + 1) l hN' hr h5 (by rw [hlen]; omega) (by omega)
  have r0 := hr.2.2.1
  have r1 := hr.2.2.2
  have q' : ¬ 240 ≤ i := by omega
  refine ⟨J6, C6, ?_, fr_tr (fr_tr (fr_tr f1 f4) f5) f6, h6, by rw [hlen] at l6; omega, fun w => ?_⟩
  · rw [s37_10]
    simp (disch := first | omega | assumption) only [s37_0, s37_1, s37_2, s37_3, s37_6, s37_7, s37_8, s37_11, s37_14, s37_16, s37_19, s37_22, s37_23, s37_26, s37_28, s37_31, s37_34, s37_35, s37_36, s37_37, s37_40, s37_41, s37_42, s37_45, s37_47, s37_50, s37_53, s37_56, s37_57, nI_le2, nI_lt2, nI_eq2, nI_lt0, nI_0le, nI_0lt, nI_le0, nI_eq0, nI_clamp, nI_add, bu_nI, bb_0, bb_1, rf_s, rf_n, tl_s, tl_n, am_th_some, if_true, if_false, sI_eq, uI_eq, and_self, true_and, and_true, not_false_eq_true, not_true_eq_false, Nat.reduceEqDiff, Nat.reduceLeDiff, Nat.reduceLT, Nat.reduceAdd, Nat.reduceMul, Nat.reduceSub, Nat.zero_add, r0, r1, g1, g4, g5, q', hne]
    exact g6
  · rw [k6 w, k4]
    simp
theorem zc_r0Fail (hN : 4 ≤ N) (hi : zc_K L B N 39 [.ref (am_mk 4 0), .int (nI dp)] a false a1 C1) : zc_K L B (N + 1) 38 [.ref (am_mk 4 0), .int (nI dp), .int (nI 0)] a false a1 [] := by
  intro d I R Q C0 hN' hr h hl
  obtain ⟨d, rfl⟩ : ∃ q, d = q + 4 := ⟨d - 4, by omega⟩
  have hne : ((nI 1 : Int32) = 0) = False := by decide
  obtain ⟨J4, C4, g4, f4, h4, l4, -⟩ := hi (d + 3) I R Q C0 (by omega) hr h hl
  rw [if_neg (by decide)] at g4
  refine ⟨J4, C4, ?_, f4, h4, l4, fun w => by cases w⟩
  rw [s38]
  simp (disch := first | omega | assumption) only [s38_0, s38_1, s38_4, s38_5, s38_6, s38_9, s38_12, s38_13, s38_14, s38_17, s38_18, s38_19, s38_21, s38_22, s38_25, s38_27, s38_30, s38_33, s38_34, s38_37, s38_39, s38_42, s38_45, s38_46, s38_47, s38_50, s38_51, s38_52, s38_55, s38_57, s38_60, s38_63, s38_66, s38_67, nI_le2, nI_lt2, nI_eq2, nI_lt0, nI_0le, nI_0lt, nI_le0, nI_eq0, nI_clamp, nI_add, bu_nI, bb_0, bb_1, rf_s, rf_n, tl_s, tl_n, am_th_some, if_true, if_false, sI_eq, uI_eq, and_self, true_and, and_true, not_false_eq_true, not_true_eq_false, Nat.reduceEqDiff, Nat.reduceLeDiff, Nat.reduceLT, Nat.reduceAdd, Nat.reduceMul, Nat.reduceSub, Nat.zero_add, g4, hne, Bool.false_eq_true]
theorem zc_r0All (hN : 4 ≤ N) (haa : a ≤ a1) (hi : zc_K L B N 39 [.ref (am_mk 4 0), .int (nI dp)] a true a1 C1) (hw : zc_W L B (N + 1) 38 21 (zc_ln dp) a1 ok' a' C') : zc_K L B (N + 1) 38 [.ref (am_mk 4 0), .int (nI dp), .int (nI 0)] a ok' a' (C1 ++ C') := by
  intro d I R Q C0 hN' hr h hl
  obtain ⟨d, rfl⟩ : ∃ q, d = q + 4 := ⟨d - 4, by omega⟩
  have hne : ((nI 1 : Int32) = 0) = False := by decide
  obtain ⟨J4, C4, g4, f4, h4, l4, k4⟩ := hi (d + 3) I R Q C0 (by omega) hr h hl
  have k4 := k4 rfl
  rw [if_pos rfl] at g4
  obtain ⟨J6, C6, g6, f6, h6, l6, k6⟩ := hw (d + 4) J4 R Q C4 0 (.int (nI 0)) hN' hr h4 (by omega) (by omega)
  refine ⟨J6, C6, ?_, fr_tr f4 f6, h6, by omega, fun w => by rw [k6 w, k4, List.append_assoc]⟩
  rw [s38]
  simp (disch := first | omega | assumption) only [s38_0, s38_1, s38_4, s38_5, s38_6, s38_9, s38_12, s38_13, s38_14, s38_17, s38_18, s38_19, s38_22, s38_25, s38_27, s38_30, s38_33, s38_34, s38_37, s38_39, s38_42, s38_45, s38_46, s38_47, s38_50, s38_51, s38_52, s38_55, s38_57, s38_60, s38_63, s38_66, s38_67, nI_le2, nI_lt2, nI_eq2, nI_lt0, nI_0le, nI_0lt, nI_le0, nI_eq0, nI_clamp, nI_add, bu_nI, bb_0, bb_1, rf_s, rf_n, tl_s, tl_n, am_th_some, if_true, if_false, sI_eq, uI_eq, and_self, true_and, and_true, not_false_eq_true, not_true_eq_false, Nat.reduceEqDiff, Nat.reduceLeDiff, Nat.reduceLT, Nat.reduceAdd, Nat.reduceMul, Nat.reduceSub, Nat.zero_add, g4, hne]
  exact g6
theorem zc_r1Fail (hN : 4 ≤ N) (hi : zc_K L B N 40 [.ref (am_mk 4 0), .int (nI dp)] a false a1 C1) : zc_K L B (N + 1) 38 [.ref (am_mk 4 0), .int (nI dp), .int (nI 1)] a false a1 [] := by
  intro d I R Q C0 hN' hr h hl
  obtain ⟨d, rfl⟩ : ∃ q, d = q + 4 := ⟨d - 4, by omega⟩
  have hne : ((nI 1 : Int32) = 0) = False := by decide
  obtain ⟨J4, C4, g4, f4, h4, l4, -⟩ := hi (d + 3) I R Q C0 (by omega) hr h hl
  rw [if_neg (by decide)] at g4
  refine ⟨J4, C4, ?_, f4, h4, l4, fun w => by cases w⟩
  rw [s38]
  simp (disch := first | omega | assumption) only [s38_0, s38_1, s38_4, s38_5, s38_6, s38_9, s38_12, s38_13, s38_14, s38_17, s38_18, s38_19, s38_21, s38_22, s38_25, s38_27, s38_30, s38_33, s38_34, s38_37, s38_39, s38_42, s38_45, s38_46, s38_47, s38_50, s38_51, s38_52, s38_55, s38_57, s38_60, s38_63, s38_66, s38_67, nI_le2, nI_lt2, nI_eq2, nI_lt0, nI_0le, nI_0lt, nI_le0, nI_eq0, nI_clamp, nI_add, bu_nI, bb_0, bb_1, rf_s, rf_n, tl_s, tl_n, am_th_some, if_true, if_false, sI_eq, uI_eq, and_self, true_and, and_true, not_false_eq_true, not_true_eq_false, Nat.reduceEqDiff, Nat.reduceLeDiff, Nat.reduceLT, Nat.reduceAdd, Nat.reduceMul, Nat.reduceSub, Nat.zero_add, g4, hne, Bool.false_eq_true]
theorem zc_r1All (hN : 4 ≤ N) (haa : a ≤ a1) (hi : zc_K L B N 40 [.ref (am_mk 4 0), .int (nI dp)] a true a1 C1) (hw : zc_W L B (N + 1) 38 21 (zc_ln dp) a1 ok' a' C') : zc_K L B (N + 1) 38 [.ref (am_mk 4 0), .int (nI dp), .int (nI 1)] a ok' a' (C1 ++ C') := by
  intro d I R Q C0 hN' hr h hl
  obtain ⟨d, rfl⟩ : ∃ q, d = q + 4 := ⟨d - 4, by omega⟩
  have hne : ((nI 1 : Int32) = 0) = False := by decide
  obtain ⟨J4, C4, g4, f4, h4, l4, k4⟩ := hi (d + 3) I R Q C0 (by omega) hr h hl
  have k4 := k4 rfl
  rw [if_pos rfl] at g4
  obtain ⟨J6, C6, g6, f6, h6, l6, k6⟩ := hw (d + 4) J4 R Q C4 0 (.int (nI 1)) hN' hr h4 (by omega) (by omega)
  refine ⟨J6, C6, ?_, fr_tr f4 f6, h6, by omega, fun w => by rw [k6 w, k4, List.append_assoc]⟩
  rw [s38]
  simp (disch := first | omega | assumption) only [s38_0, s38_1, s38_4, s38_5, s38_6, s38_9, s38_12, s38_13, s38_14, s38_17, s38_18, s38_19, s38_22, s38_25, s38_27, s38_30, s38_33, s38_34, s38_37, s38_39, s38_42, s38_45, s38_46, s38_47, s38_50, s38_51, s38_52, s38_55, s38_57, s38_60, s38_63, s38_66, s38_67, nI_le2, nI_lt2, nI_eq2, nI_lt0, nI_0le, nI_0lt, nI_le0, nI_eq0, nI_clamp, nI_add, bu_nI, bb_0, bb_1, rf_s, rf_n, tl_s, tl_n, am_th_some, if_true, if_false, sI_eq, uI_eq, and_self, true_and, and_true, not_false_eq_true, not_true_eq_false, Nat.reduceEqDiff, Nat.reduceLeDiff, Nat.reduceLT, Nat.reduceAdd, Nat.reduceMul, Nat.reduceSub, Nat.zero_add, g4, hne]
  exact g6
theorem zc_d0Fail (hN : 4 ≤ N) (hi : zc_K L B N 38 [.ref (am_mk 4 0), .int (nI dp), .int (nI 0)] a false a1 C1) : zc_K L B (N + 1) 37 [.ref (am_mk 4 0), .int (nI dp), .int (nI 0)] a false a1 [] := by
  intro d I R Q C0 hN' hr h hl
  obtain ⟨d, rfl⟩ : ∃ q, d = q + 4 := ⟨d - 4, by omega⟩
  have hne : ((nI 1 : Int32) = 0) = False := by decide
  obtain ⟨J4, C4, g4, f4, h4, l4, -⟩ := hi (d + 3) I R Q C0 (by omega) hr h hl
  rw [if_neg (by decide)] at g4
  refine ⟨J4, C4, ?_, f4, h4, l4, fun w => by cases w⟩
  rw [s37]
  simp (disch := first | omega | assumption) only [s37_0, s37_1, s37_2, s37_3, s37_6, s37_7, s37_8, s37_10, s37_11, s37_14, s37_16, s37_19, s37_22, s37_23, s37_26, s37_28, s37_31, s37_34, s37_35, s37_36, s37_37, s37_40, s37_41, s37_42, s37_45, s37_47, s37_50, s37_53, s37_56, s37_57, nI_le2, nI_lt2, nI_eq2, nI_lt0, nI_0le, nI_0lt, nI_le0, nI_eq0, nI_clamp, nI_add, bu_nI, bb_0, bb_1, rf_s, rf_n, tl_s, tl_n, am_th_some, if_true, if_false, sI_eq, uI_eq, and_self, true_and, and_true, not_false_eq_true, not_true_eq_false, Nat.reduceEqDiff, Nat.reduceLeDiff, Nat.reduceLT, Nat.reduceAdd, Nat.reduceMul, Nat.reduceSub, Nat.zero_add, g4, hne, Bool.false_eq_true]
theorem zc_d0All (hN : 4 ≤ N) (haa : a ≤ a1) (hi : zc_K L B N 38 [.ref (am_mk 4 0), .int (nI dp), .int (nI 0)] a true a1 C1) (hw : zc_W L B (N + 1) 37 10 (zc_ln dp) a1 ok' a' C') : zc_K L B (N + 1) 37 [.ref (am_mk 4 0), .int (nI dp), .int (nI 0)] a ok' a' (C1 ++ C') := by
  intro d I R Q C0 hN' hr h hl
  obtain ⟨d, rfl⟩ : ∃ q, d = q + 4 := ⟨d - 4, by omega⟩
  have hne : ((nI 1 : Int32) = 0) = False := by decide
  obtain ⟨J4, C4, g4, f4, h4, l4, k4⟩ := hi (d + 3) I R Q C0 (by omega) hr h hl
  have k4 := k4 rfl
  rw [if_pos rfl] at g4
  obtain ⟨J6, C6, g6, f6, h6, l6, k6⟩ := hw (d + 4) J4 R Q C4 0 (.int (nI 0)) hN' hr h4 (by omega) (by omega)
  refine ⟨J6, C6, ?_, fr_tr f4 f6, h6, by omega, fun w => by rw [k6 w, k4, List.append_assoc]⟩
  rw [s37]
  simp (disch := first | omega | assumption) only [s37_0, s37_1, s37_2, s37_3, s37_6, s37_7, s37_8, s37_11, s37_14, s37_16, s37_19, s37_22, s37_23, s37_26, s37_28, s37_31, s37_34, s37_35, s37_36, s37_37, s37_40, s37_41, s37_42, s37_45, s37_47, s37_50, s37_53, s37_56, s37_57, nI_le2, nI_lt2, nI_eq2, nI_lt0, nI_0le, nI_0lt, nI_le0, nI_eq0, nI_clamp, nI_add, bu_nI, bb_0, bb_1, rf_s, rf_n, tl_s, tl_n, am_th_some, if_true, if_false, sI_eq, uI_eq, and_self, true_and, and_true, not_false_eq_true, not_true_eq_false, Nat.reduceEqDiff, Nat.reduceLeDiff, Nat.reduceLT, Nat.reduceAdd, Nat.reduceMul, Nat.reduceSub, Nat.zero_add, g4, hne]
  exact g6
theorem zc_d1Fail (hN : 4 ≤ N) (hi : zc_K L B N 38 [.ref (am_mk 4 0), .int (nI dp), .int (nI 1)] a false a1 C1) : zc_K L B (N + 1) 37 [.ref (am_mk 4 0), .int (nI dp), .int (nI 1)] a false a1 [] := by
  intro d I R Q C0 hN' hr h hl
  obtain ⟨d, rfl⟩ : ∃ q, d = q + 4 := ⟨d - 4, by omega⟩
  have hne : ((nI 1 : Int32) = 0) = False := by decide
  obtain ⟨J4, C4, g4, f4, h4, l4, -⟩ := hi (d + 3) I R Q C0 (by omega) hr h hl
  rw [if_neg (by decide)] at g4
  refine ⟨J4, C4, ?_, f4, h4, l4, fun w => by cases w⟩
  rw [s37]
  simp (disch := first | omega | assumption) only [s37_0, s37_1, s37_2, s37_3, s37_6, s37_7, s37_8, s37_10, s37_11, s37_14, s37_16, s37_19, s37_22, s37_23, s37_26, s37_28, s37_31, s37_34, s37_35, s37_36, s37_37, s37_40, s37_41, s37_42, s37_45, s37_47, s37_50, s37_53, s37_56, s37_57, nI_le2, nI_lt2, nI_eq2, nI_lt0, nI_0le, nI_0lt, nI_le0, nI_eq0, nI_clamp, nI_add, bu_nI, bb_0, bb_1, rf_s, rf_n, tl_s, tl_n, am_th_some, if_true, if_false, sI_eq, uI_eq, and_self, true_and, and_true, not_false_eq_true, not_true_eq_false, Nat.reduceEqDiff, Nat.reduceLeDiff, Nat.reduceLT, Nat.reduceAdd, Nat.reduceMul, Nat.reduceSub, Nat.zero_add, g4, hne, Bool.false_eq_true]
theorem zc_d1All (hN : 4 ≤ N) (haa : a ≤ a1) (hi : zc_K L B N 38 [.ref (am_mk 4 0), .int (nI dp), .int (nI 1)] a true a1 C1) (hw : zc_W L B (N + 1) 37 10 (zc_ln dp) a1 ok' a' C') : zc_K L B (N + 1) 37 [.ref (am_mk 4 0), .int (nI dp), .int (nI 1)] a ok' a' (C1 ++ C') := by
  intro d I R Q C0 hN' hr h hl
  obtain ⟨d, rfl⟩ : ∃ q, d = q + 4 := ⟨d - 4, by omega⟩
  have hne : ((nI 1 : Int32) = 0) = False := by decide
  obtain ⟨J4, C4, g4, f4, h4, l4, k4⟩ := hi (d + 3) I R Q C0 (by omega) hr h hl
  have k4 := k4 rfl
  rw [if_pos rfl] at g4
  obtain ⟨J6, C6, g6, f6, h6, l6, k6⟩ := hw (d + 4) J4 R Q C4 0 (.int (nI 1)) hN' hr h4 (by omega) (by omega)
  refine ⟨J6, C6, ?_, fr_tr f4 f6, h6, by omega, fun w => by rw [k6 w, k4, List.append_assoc]⟩
  rw [s37]
  simp (disch := first | omega | assumption) only [s37_0, s37_1, s37_2, s37_3, s37_6, s37_7, s37_8, s37_11, s37_14, s37_16, s37_19, s37_22, s37_23, s37_26, s37_28, s37_31, s37_34, s37_35, s37_36, s37_37, s37_40, s37_41, s37_42, s37_45, s37_47, s37_50, s37_53, s37_56, s37_57, nI_le2, nI_lt2, nI_eq2, nI_lt0, nI_0le, nI_0lt, nI_le0, nI_eq0, nI_clamp, nI_add, bu_nI, bb_0, bb_1, rf_s, rf_n, tl_s, tl_n, am_th_some, if_true, if_false, sI_eq, uI_eq, and_self, true_and, and_true, not_false_eq_true, not_true_eq_false, Nat.reduceEqDiff, Nat.reduceLeDiff, Nat.reduceLT, Nat.reduceAdd, Nat.reduceMul, Nat.reduceSub, Nat.zero_add, g4, hne]
  exact g6
end
