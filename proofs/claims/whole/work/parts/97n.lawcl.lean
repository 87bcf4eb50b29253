/-! LAW texts: a CLAUSE that turns out to begin with a CONDITION; CLAUSES of the class. -/
def zm_U (L : Nat) (B : Nat → Nat) (N dp a : Nat) (ok : Bool) (a' : Nat) (C : List Nat) : Prop := ∀ (d : Nat) (I : am_I) (R : am_R) (Q : am_Q) (n : Nat) (C0 : List Nat), N ≤ d → mm_R R → n < 5 → zm_at I L B n a dp C0 → C0.length ≤ a → ∃ (J1 J2 J : am_I) (C1 : List Nat), am_cal d 176 [.ref (am_mk 12 0)] I R Q = some (none, J1, R, Q) ∧ am_cal d 178 [.ref (am_mk 12 0)] J1 R Q = some (none, J2, R, Q) ∧ am_cal d 179 [.ref (am_mk 12 0)] J2 R Q = some (none, J, R, Q) ∧ zm_P L B n dp a C0 ok a' C I J C1
def zl_cl (T U : List Nat) : List Nat := (if T = [] then [] else T ++ [10063]) ++ U ++ [10059]
def zc_Q (L : Nat) (B : Nat → Nat) (pc : Nat) (ls : List Value) (a : Nat) (ok : Bool) (a' : Nat) (C : List Nat) : Prop := ∀ (d : Nat) (I : am_I) (R : am_R) (Q : am_Q) (C0 : List Nat), 64 ≤ d → zc_R R → zc_at I L B a C0 → C0.length + 2 ≤ a → ∃ (J : am_I) (C1 : List Nat), am_ev d 36 pc ls [] I R Q = some (some (.int (if ok = true then nI 1 else nI 0)), J, R, Q) ∧ am_fr zc_S I J ∧ zc_at J L B a' C1 ∧ C1.length + a ≤ C0.length + a' + 2 ∧ (ok = true → C1 = C0 ++ C)
section
variable {L a a1 a2 a' : Nat} {B : Nat → Nat} {C1 C2 C' D T U : List Nat} {ok1 ok2 ok' : Bool}
theorem zm_UFail {N dp : Nat} (hk : tp_ok L B) (ha1 : a1 ≤ L) (hi : zm_T L B N 176 dp a false a1 C1) : zm_U L B N dp a false a1 [] := by
  intro d I R Q n C0 hN' hr hn h hl
  have hL := hk.1
  obtain ⟨J2, J3, C3, g2, g3, f3, -, m3⟩ := hi d I R Q n C0 hN' hr hn h hl
  obtain ⟨h3, w3, l3⟩ := m3 rfl
  exact ⟨J2, J3, J3, C3, g2, g3, zm_oWrong w3 (by omega), f3, fa_f, fun _ => ⟨h3, w3, l3⟩⟩
theorem zm_UAll {N dp : Nat} (hlC : C1.length + a ≤ a1) (hi : zm_T L B N 176 dp a true a1 C1) (hw : zm_K L B N 179 dp a1 ok' a' C') : zm_U L B N dp a ok' a' (C1 ++ C') := by
  intro d I R Q n C0 hN' hr hn h hl
  obtain ⟨J2, J3, C3, g2, g3, f3, k3, -⟩ := hi d I R Q n C0 hN' hr hn h hl
  have h3 := k3 rfl
  have hlen : (C0 ++ C1).length = C0.length + C1.length := List.length_append
  obtain ⟨J6, C6, g6, f6, k6, m6⟩ := hw d J3 R Q n _ hN' hr hn h3 (by rw [hlen]; omega)
  refine ⟨J2, J3, J6, C6, g2, g3, g6, fr_tr f3 f6, fun w => by rw [← List.append_assoc]; exact k6 w, fun w => ?_⟩
  obtain ⟨z1, z2, z3⟩ := m6 w
  exact ⟨z1, z2, by rw [hlen] at z3; omega⟩
theorem zj_D1 (hk : tp_ok L B) (haL : a ≤ L) : ∃ (ok : Bool) (a' : Nat) (C : List Nat), zc_K L B 60 37 [.ref (am_mk 4 0), .int (nI 0), .int (nI 1)] a ok a' C ∧ zm_U L B 60 0 a ok a' C ∧ a ≤ a' ∧ a' ≤ L ∧ (ok = true → C.length + a ≤ a' ∧ zg false true 30 C) := by
  have all := fun a'' (h : a'' ≤ L) => zj_all hk (L - a'' + 1) a'' (by omega) h 0 (by decide)
  obtain ⟨ok1, a1, C1, c1, m1, p1, p2, p3⟩ := zj_cmp_of (dp := 0) hk haL (by decide) (fun a'' _ h => (all a'' h).2.2.1)
  cases ok1
  · exact ⟨false, a1, [], zcK_mo (by decide) (zc_d1Fail (N := (8 * (6 - 0) + 4 + 4)) (by decide) (zc_r1Fail (by decide) c1)), zm_UFail hk p2 (zmT_mo (by decide) (zm_TFail hk p2 m1)), p1, p2, fa_f⟩
  · obtain ⟨r1, r2⟩ := p3 rfl
    obtain ⟨ok2, a2, C2, c2, m2, q1, q2, q3⟩ := zj_nloop (dp := 0) hk (by decide) _ a1 (Nat.le_refl _) p2 (fun a'' _ h => (all a'' h).2.2.2.1)
    have ct := zc_r1All (by decide) p1 (zcK_mo (show (8 * (6 - 0) + 4 + 3) ≤ (8 * (6 - 0) + 4 + 4) by decide) c1) c2
    have mt := zm_TAll r1 (zmK_mo (show (8 * (6 - 0) + 4 + 3) ≤ (8 * (6 - 0) + 4 + 5) by decide) m1) m2
    cases ok2
    · exact ⟨false, a2, [], zcK_mo (by decide) (zc_d1Fail (by decide) ct), zm_UFail hk q2 (zmT_mo (by decide) mt), by omega, q2, fa_f⟩
    · obtain ⟨s1, s2⟩ := q3 rfl
      obtain ⟨ok3, a3, C3, c3, m3, t1, t2, t3⟩ := zj_oloop (dp := 0) hk (by decide) _ a2 (Nat.le_refl _) q2 (fun a'' _ h => (all a'' h).2.2.2.2.1)
      refine ⟨ok3, a3, C1 ++ C2 ++ C3, zcK_mo (by decide) (zc_d1All (by decide) (by omega) ct c3), zm_UAll (by rw [List.length_append]; omega) (zmT_mo (by decide) mt) (zmK_mo (by decide) m3), by omega, t2, fun w => ⟨?_, zg_zg (zg_zg (zg_mo (by decide) r2) (zg_mo (by decide) s2)) (zg_mo (by decide) (t3 w).2)⟩⟩
      have := (t3 w).1
      rw [List.length_append, List.length_append]
      omega
theorem zc_q0 (hk : tp_ok L B) (haL : a ≤ L) {l1 : Value} : zc_Q L B 84 [.ref (am_mk 4 0), l1, .int (nI 0)] a false a [] := by
  intro d I R Q C0 hN hr h hl
  obtain ⟨d, rfl⟩ : ∃ q, d = q + 4 := ⟨d - 4, by omega⟩
  have hL := hk.1
  have r1 := hr.2.2.2
  obtain ⟨J5, g5, f5, h5⟩ := zc_add (d := d + 3) (Q := Q) hr h (by omega) 10059
  rw [zl_59] at g5
  refine ⟨J5, _, ?_, f5, h5, by rw [List.length_append, List.length_singleton]; omega, fun w => by cases w⟩
  simp (disch := first | omega | assumption) only [s36_0, s36_1, s36_4, s36_6, s36_9, s36_12, s36_13, s36_16, s36_18, s36_21, s36_24, s36_25, s36_26, s36_27, s36_30, s36_32, s36_35, s36_36, s36_37, s36_40, s36_41, s36_42, s36_43, s36_46, s36_49, s36_50, s36_51, s36_54, s36_55, s36_56, s36_59, s36_60, s36_63, s36_64, s36_67, s36_69, s36_72, s36_75, s36_76, s36_77, s36_78, s36_79, s36_80, s36_83, s36_84, s36_85, s36_88, s36_89, s36_92, s36_93, s36_96, s36_98, s36_101, s36_102, s36_103, s36_106, s36_108, s36_111, s36_112, s36_115, s36_116, s36_117, s36_120, s36_123, s36_124, s36_127, s36_128, s36_129, s36_130, s36_133, s36_135, s36_138, s36_139, nI_le2, nI_lt2, nI_eq2, nI_lt0, nI_0le, nI_0lt, nI_le0, nI_eq0, nI_clamp, nI_add, bu_nI, bb_0, bb_1, rf_s, rf_n, tl_s, tl_n, am_th_some, if_true, if_false, sI_eq, uI_eq, and_self, true_and, and_true, not_false_eq_true, not_true_eq_false, Nat.reduceEqDiff, Nat.reduceLeDiff, Nat.reduceLT, Nat.reduceAdd, Nat.reduceMul, Nat.reduceSub, Nat.zero_add, r1, g5, Bool.false_eq_true]
theorem zc_q5 (hk : tp_ok L B) (haL : a ≤ L) : zc_Q L B 84 [.ref (am_mk 4 0), .int (nI 0), .int (nI 1)] a true a [10059] := by
  intro d I R Q C0 hN hr h hl
  obtain ⟨d, rfl⟩ : ∃ q, d = q + 4 := ⟨d - 4, by omega⟩
  have hL := hk.1
  have r1 := hr.2.2.2
  have hne : ((nI 1 : Int32) = 0) = False := by decide
  obtain ⟨J5, g5, f5, h5⟩ := zc_add (d := d + 3) (Q := Q) hr h (by omega) 10059
  rw [zl_59] at g5
  refine ⟨J5, _, ?_, f5, h5, by rw [List.length_append, List.length_singleton]; omega, fun w => rfl⟩
  simp (disch := first | omega | assumption) only [s36_0, s36_1, s36_4, s36_6, s36_9, s36_12, s36_13, s36_16, s36_18, s36_21, s36_24, s36_25, s36_26, s36_27, s36_30, s36_32, s36_35, s36_36, s36_37, s36_40, s36_41, s36_42, s36_43, s36_46, s36_49, s36_50, s36_51, s36_54, s36_55, s36_56, s36_59, s36_60, s36_63, s36_64, s36_67, s36_69, s36_72, s36_75, s36_76, s36_77, s36_78, s36_79, s36_80, s36_83, s36_84, s36_85, s36_88, s36_89, s36_92, s36_93, s36_96, s36_98, s36_101, s36_102, s36_103, s36_106, s36_108, s36_111, s36_112, s36_115, s36_116, s36_117, s36_120, s36_123, s36_124, s36_127, s36_128, s36_129, s36_130, s36_133, s36_135, s36_138, s36_139, nI_le2, nI_lt2, nI_eq2, nI_lt0, nI_0le, nI_0lt, nI_le0, nI_eq0, nI_clamp, nI_add, bu_nI, bb_0, bb_1, rf_s, rf_n, tl_s, tl_n, am_th_some, if_true, if_false, sI_eq, uI_eq, and_self, true_and, and_true, not_false_eq_true, not_true_eq_false, Nat.reduceEqDiff, Nat.reduceLeDiff, Nat.reduceLT, Nat.reduceAdd, Nat.reduceMul, Nat.reduceSub, Nat.zero_add, r1, g5, hne]
theorem zc_qNo (hk : tp_ok L B) (haL : a ≤ L) (e : ¬ sp_hr L B (sp_sk L B a) = 63) : zc_Q L B 84 [.ref (am_mk 4 0), .int (nI 1), .int (nI 1)] a false (sp_sk L B a) [] := by
  intro d I R Q C0 hN hr h hl
  obtain ⟨d, rfl⟩ : ∃ q, d = q + 4 := ⟨d - 4, by omega⟩
  have hs := sk_L (B := B) haL
  have hL := hk.1
  have r0 := hr.2.2.1
  have r1 := hr.2.2.2
  have hne : ((nI 1 : Int32) = 0) = False := by decide
  obtain ⟨J1, g1, f1, h1⟩ := zc_passes (d := d + 1) (Q := Q) (x := 63) hr hk h haL (by decide)
  rw [if_neg e] at g1 h1
  obtain ⟨J4, g4, f4, h4⟩ := zc_add (d := d + 3) (Q := Q) hr h1 (by omega) 10063
  rw [zl_63] at g4
  obtain ⟨J5, g5, f5, h5⟩ := zc_add (d := d + 3) (Q := Q) hr h4 (by rw [List.length_append, List.length_singleton]; omega) 10059
  rw [zl_59] at g5
  refine ⟨J5, _, ?_, fr_tr (fr_tr f1 f4) f5, h5, by rw [List.length_append, List.length_append, List.length_singleton, List.length_singleton]; omega, fun w => by cases w⟩
  simp (disch := first | omega | assumption) only [s36_0, s36_1, s36_4, s36_6, s36_9, s36_12, s36_13, s36_16, s36_18, s36_21, s36_24, s36_25, s36_26, s36_27, s36_30, s36_32, s36_35, s36_36, s36_37, s36_40, s36_41, s36_42, s36_43, s36_46, s36_49, s36_50, s36_51, s36_54, s36_55, s36_56, s36_59, s36_60, s36_63, s36_64, s36_67, s36_69, s36_72, s36_75, s36_76, s36_77, s36_78, s36_79, s36_80, s36_83, s36_84, s36_85, s36_88, s36_89, s36_92, s36_93, s36_96, s36_98, s36_101, s36_102, s36_103, s36_106, s36_108, s36_111, s36_112, s36_115, s36_116, s36_117, s36_120, s36_123, s36_124, s36_127, s36_128, s36_129, s36_130, s36_133, s36_135, s36_138, s36_139, nI_le2, nI_lt2, nI_eq2, nI_lt0, nI_0le, nI_0lt, nI_le0, nI_eq0, nI_clamp, nI_add, bu_nI, bb_0, bb_1, rf_s, rf_n, tl_s, tl_n, am_th_some, if_true, if_false, sI_eq, uI_eq, and_self, true_and, and_true, not_false_eq_true, not_true_eq_false, Nat.reduceEqDiff, Nat.reduceLeDiff, Nat.reduceLT, Nat.reduceAdd, Nat.reduceMul, Nat.reduceSub, Nat.zero_add, r0, r1, g1, g4, g5, hne, Bool.false_eq_true]
theorem zc_qAll (hk : tp_ok L B) (haL : a ≤ L) (ha1 : a1 ≤ L) (e : sp_hr L B (sp_sk L B a) = 63) (hc : sp_sk L B a + 1 ≤ a1) (hi : zc_K L B 60 41 [.ref (am_mk 4 0), .int (nI 0)] (sp_sk L B a + 1) ok1 a1 C1) : zc_Q L B 84 [.ref (am_mk 4 0), .int (nI 1), .int (nI 1)] a ok1 a1 (10063 :: (C1 ++ [10059])) := by
  intro d I R Q C0 hN hr h hl
  obtain ⟨d, rfl⟩ : ∃ q, d = q + 4 := ⟨d - 4, by omega⟩
  have hs := sk_L (B := B) haL
  have hL := hk.1
  have r0 := hr.2.2.1
  have r1 := hr.2.2.2
  have hne : ((nI 1 : Int32) = 0) = False := by decide
  obtain ⟨J1, g1, f1, h1⟩ := zc_passes (d := d + 1) (Q := Q) (x := 63) hr hk h haL (by decide)
  rw [if_pos e] at g1 h1
  obtain ⟨J4, g4, f4, h4⟩ := zc_add (d := d + 3) (Q := Q) hr h1 (by omega) 10063
  rw [zl_63] at g4
  have hlen : (C0 ++ [10063]).length = C0.length + 1 := by rw [List.length_append, List.length_singleton]
  obtain ⟨J6, C6, g6, f6, h6, l6, k6⟩ := hi (d + 3) J4 R Q _ (by omega) hr h4 (by rw [hlen]; omega)
  rw [hlen] at l6
  obtain ⟨J5, g5, f5, h5⟩ := zc_add (d := d + 3) (Q := Q) hr h6 (by omega) 10059
  rw [zl_59] at g5
  refine ⟨J5, _, ?_, fr_tr (fr_tr (fr_tr f1 f4) f6) f5, h5, by rw [List.length_append, List.length_singleton]; omega, fun w => by rw [k6 w]; simp⟩
  cases ok1
  · rw [if_neg (by decide)] at g6
    simp (disch := first | omega | assumption) only [s36_0, s36_1, s36_4, s36_6, s36_9, s36_12, s36_13, s36_16, s36_18, s36_21, s36_24, s36_25, s36_26, s36_27, s36_30, s36_32, s36_35, s36_36, s36_37, s36_40, s36_41, s36_42, s36_43, s36_46, s36_49, s36_50, s36_51, s36_54, s36_55, s36_56, s36_59, s36_60, s36_63, s36_64, s36_67, s36_69, s36_72, s36_75, s36_76, s36_77, s36_78, s36_79, s36_80, s36_83, s36_84, s36_85, s36_88, s36_89, s36_92, s36_93, s36_96, s36_98, s36_101, s36_102, s36_103, s36_106, s36_108, s36_111, s36_112, s36_115, s36_116, s36_117, s36_120, s36_123, s36_124, s36_127, s36_128, s36_129, s36_130, s36_133, s36_135, s36_138, s36_139, nI_le2, nI_lt2, nI_eq2, nI_lt0, nI_0le, nI_0lt, nI_le0, nI_eq0, nI_clamp, nI_add, bu_nI, bb_0, bb_1, rf_s, rf_n, tl_s, tl_n, am_th_some, if_true, if_false, sI_eq, uI_eq, and_self, true_and, and_true, not_false_eq_true, not_true_eq_false, Nat.reduceEqDiff, Nat.reduceLeDiff, Nat.reduceLT, Nat.reduceAdd, Nat.reduceMul, Nat.reduceSub, Nat.zero_add, r0, r1, g1, g4, g5, g6, hne, Bool.false_eq_true]
  · rw [if_pos rfl] at g6
    simp (disch := first | omega | assumption) only [s36_0, s36_1, s36_4, s36_6, s36_9, s36_12, s36_13, s36_16, s36_18, s36_21, s36_24, s36_25, s36_26, s36_27, s36_30, s36_32, s36_35, s36_36, s36_37, s36_40, s36_41, s36_42, s36_43, s36_46, s36_49, s36_50, s36_51, s36_54, s36_55, s36_56, s36_59, s36_60, s36_63, s36_64, s36_67, s36_69, s36_72, s36_75, s36_76, s36_77, s36_78, s36_79, s36_80, s36_83, s36_84, s36_85, s36_88, s36_89, s36_92, s36_93, s36_96, s36_98, s36_101, s36_102, s36_103, s36_106, s36_108, s36_111, s36_112, s36_115, s36_116, s36_117, s36_120, s36_123, s36_124, s36_127, s36_128, s36_129, s36_130, s36_133, s36_135, s36_138, s36_139, nI_le2, nI_lt2, nI_eq2, nI_lt0, nI_0le, nI_0lt, nI_le0, nI_eq0, nI_clamp, nI_add, bu_nI, bb_0, bb_1, rf_s, rf_n, tl_s, tl_n, am_th_some, if_true, if_false, sI_eq, uI_eq, and_self, true_and, and_true, not_false_eq_true, not_true_eq_false, Nat.reduceEqDiff, Nat.reduceLeDiff, Nat.reduceLT, Nat.reduceAdd, Nat.reduceMul, Nat.reduceSub, Nat.zero_add, r0, r1, g1, g4, g5, g6, hne]
theorem zc_eCond (hk : tp_ok L B) (haL : a ≤ L) (haa : sp_sk L B a ≤ a1) (e : sp_in 1 (sp_hr L B (sp_sk L B a))) (hi : zc_K L B 60 37 [.ref (am_mk 4 0), .int (nI 0), .int (nI 0)] (sp_sk L B a) ok1 a1 C1) (hq : zc_Q L B 84 [.ref (am_mk 4 0), .int (nI 1), .int (if ok1 = true then nI 1 else nI 0)] a1 ok' a' C') (hok : ok' = true → ok1 = true) : zc_Q L B 26 [.ref (am_mk 4 0), am_J, am_J] a ok' a' (C1 ++ C') := by
  intro d I R Q C0 hN hr h hl
  obtain ⟨d, rfl⟩ : ∃ q, d = q + 4 := ⟨d - 4, by omega⟩
  have hs := sk_L (B := B) haL
  have hL := hk.1
  have r0 := hr.2.2.1
  have hne : ((nI 1 : Int32) = 0) = False := by decide
  obtain ⟨J1, g1, f1, h1⟩ := zc_oneOf (d := d + 1) (Q := Q) hr hk h haL (j := 1) (by decide)
  rw [if_pos e] at g1
  obtain ⟨J6, C6, g6, f6, h6, l6, k6⟩ := hi (d + 3) J1 R Q C0 (by omega) hr h1 (by omega)
  by_cases hC : C6.length + 2 ≤ a1
  · obtain ⟨J7, C7, g7, f7, h7, l7, k7⟩ := hq (d + 4) J6 R Q C6 (by omega) hr h6 hC
    refine ⟨J7, C7, ?_, fr_tr (fr_tr f1 f6) f7, h7, by omega, fun w => by rw [k7 w, k6 (hok w), List.append_assoc]⟩
    cases ok1
    · rw [if_neg (by decide)] at g6 g7
      simp (disch := first | omega | assumption) only [s36_0, s36_1, s36_4, s36_6, s36_9, s36_12, s36_13, s36_16, s36_18, s36_21, s36_24, s36_25, s36_26, s36_27, s36_30, s36_32, s36_35, s36_36, s36_37, s36_40, s36_41, s36_42, s36_43, s36_46, s36_49, s36_50, s36_51, s36_54, s36_55, s36_56, s36_59, s36_60, s36_63, s36_64, s36_67, s36_69, s36_72, s36_75, s36_76, s36_77, s36_78, s36_79, s36_80, s36_83, s36_85, s36_88, s36_89, s36_92, s36_93, s36_96, s36_98, s36_101, s36_102, s36_103, s36_106, s36_108, s36_111, s36_112, s36_115, s36_116, s36_117, s36_120, s36_123, s36_124, s36_127, s36_128, s36_129, s36_130, s36_133, s36_135, s36_138, s36_139, nI_le2, nI_lt2, nI_eq2, nI_lt0, nI_0le, nI_0lt, nI_le0, nI_eq0, nI_clamp, nI_add, bu_nI, bb_0, bb_1, rf_s, rf_n, tl_s, tl_n, am_th_some, if_true, if_false, sI_eq, uI_eq, and_self, true_and, and_true, not_false_eq_true, not_true_eq_false, Nat.reduceEqDiff, Nat.reduceLeDiff, Nat.reduceLT, Nat.reduceAdd, Nat.reduceMul, Nat.reduceSub, Nat.zero_add, r0, g1, g6, hne]
      exact g7
    · rw [if_pos rfl] at g6 g7
      simp (disch := first | omega | assumption) only [s36_0, s36_1, s36_4, s36_6, s36_9, s36_12, s36_13, s36_16, s36_18, s36_21, s36_24, s36_25, s36_26, s36_27, s36_30, s36_32, s36_35, s36_36, s36_37, s36_40, s36_41, s36_42, s36_43, s36_46, s36_49, s36_50, s36_51, s36_54, s36_55, s36_56, s36_59, s36_60, s36_63, s36_64, s36_67, s36_69, s36_72, s36_75, s36_76, s36_77, s36_78, s36_79, s36_80, s36_83, s36_85, s36_88, s36_89, s36_92, s36_93, s36_96, s36_98, s36_101, s36_102, s36_103, s36_106, s36_108, s36_111, s36_112, s36_115, s36_116, s36_117, s36_120, s36_123, s36_124, s36_127, s36_128, s36_129, s36_130, s36_133, s36_135, s36_138, s36_139, nI_le2, nI_lt2, nI_eq2, nI_lt0, nI_0le, nI_0lt, nI_le0, nI_eq0, nI_clamp, nI_add, bu_nI, bb_0, bb_1, rf_s, rf_n, tl_s, tl_n, am_th_some, if_true, if_false, sI_eq, uI_eq, and_self, true_and, and_true, not_false_eq_true, not_true_eq_false, Nat.reduceEqDiff, Nat.reduceLeDiff, Nat.reduceLT, Nat.reduceAdd, Nat.reduceMul, Nat.reduceSub, Nat.zero_add, r0, g1, g6, hne]
      exact g7
  · omega
theorem zc_eSumBad (hk : tp_ok L B) (haL : a ≤ L) (haa : sp_sk L B a ≤ a1) (e : ¬ sp_in 1 (sp_hr L B (sp_sk L B a))) (hi : zc_K L B 60 41 [.ref (am_mk 4 0), .int (nI 0)] (sp_sk L B a) false a1 C1) (hq : zc_Q L B 84 [.ref (am_mk 4 0), .int (nI 0), .int (nI 0)] a1 false a' C') : zc_Q L B 26 [.ref (am_mk 4 0), am_J, am_J] a false a' [] := by
  intro d I R Q C0 hN hr h hl
  obtain ⟨d, rfl⟩ : ∃ q, d = q + 4 := ⟨d - 4, by omega⟩
  have hs := sk_L (B := B) haL
  have hL := hk.1
  have r0 := hr.2.2.1
  obtain ⟨J1, g1, f1, h1⟩ := zc_oneOf (d := d + 1) (Q := Q) hr hk h haL (j := 1) (by decide)
  rw [if_neg e] at g1
  obtain ⟨J6, C6, g6, f6, h6, l6, k6⟩ := hi (d + 3) J1 R Q C0 (by omega) hr h1 (by omega)
  rw [if_neg (by decide)] at g6
  obtain ⟨J7, C7, g7, f7, h7, l7, k7⟩ := hq (d + 4) J6 R Q C6 (by omega) hr h6 (by omega)
  refine ⟨J7, C7, ?_, fr_tr (fr_tr f1 f6) f7, h7, by omega, fun w => by cases w⟩
  simp (disch := first | omega | assumption) only [s36_0, s36_1, s36_4, s36_6, s36_9, s36_12, s36_13, s36_16, s36_18, s36_21, s36_24, s36_25, s36_26, s36_27, s36_30, s36_32, s36_35, s36_36, s36_37, s36_40, s36_41, s36_42, s36_43, s36_46, s36_49, s36_50, s36_51, s36_54, s36_55, s36_56, s36_59, s36_60, s36_63, s36_64, s36_67, s36_69, s36_72, s36_75, s36_76, s36_77, s36_78, s36_79, s36_80, s36_83, s36_85, s36_88, s36_89, s36_92, s36_93, s36_96, s36_98, s36_101, s36_102, s36_103, s36_106, s36_108, s36_111, s36_112, s36_115, s36_116, s36_117, s36_120, s36_123, s36_124, s36_127, s36_128, s36_129, s36_130, s36_133, s36_135, s36_138, s36_139, nI_le2, nI_lt2, nI_eq2, nI_lt0, nI_0le, nI_0lt, nI_le0, nI_eq0, nI_clamp, nI_add, bu_nI, bb_0, bb_1, rf_s, rf_n, tl_s, tl_n, am_th_some, if_true, if_false, sI_eq, uI_eq, and_self, true_and, and_true, not_false_eq_true, not_true_eq_false, Nat.reduceEqDiff, Nat.reduceLeDiff, Nat.reduceLT, Nat.reduceAdd, Nat.reduceMul, Nat.reduceSub, Nat.zero_add, r0, g1, g6]
  exact g7
theorem zc_eSum (hk : tp_ok L B) (haL : a ≤ L) (ha1 : a1 ≤ L) (haa : sp_sk L B a ≤ a1) (e : ¬ sp_in 1 (sp_hr L B (sp_sk L B a))) (hi : zc_K L B 60 41 [.ref (am_mk 4 0), .int (nI 0)] (sp_sk L B a) true a1 C1) (e2 : ¬ sp_in 2 (sp_hr L B (sp_sk L B a1))) (hq : zc_Q L B 84 [.ref (am_mk 4 0), .int (nI 0), .int (nI 1)] (sp_sk L B a1) ok' a' C') : zc_Q L B 26 [.ref (am_mk 4 0), am_J, am_J] a ok' a' (C1 ++ C') := by
  intro d I R Q C0 hN hr h hl
  obtain ⟨d, rfl⟩ : ∃ q, d = q + 4 := ⟨d - 4, by omega⟩
  have hs := sk_L (B := B) haL
  have hs1 := sk_L (B := B) ha1
  have hL := hk.1
  have r0 := hr.2.2.1
  have hne : ((nI 1 : Int32) = 0) = False := by decide
  obtain ⟨J1, g1, f1, h1⟩ := zc_oneOf (d := d + 1) (Q := Q) hr hk h haL (j := 1) (by decide)
  rw [if_neg e] at g1
  obtain ⟨J6, C6, g6, f6, h6, l6, k6⟩ := hi (d + 3) J1 R Q C0 (by omega) hr h1 (by omega)
  rw [if_pos rfl] at g6
  obtain ⟨J2, g2, f2, h2⟩ := zc_oneOf (d := d + 1) (Q := Q) hr hk h6 ha1 (j := 2) (by decide)
  rw [if_neg e2] at g2
  obtain ⟨J7, C7, g7, f7, h7, l7, k7⟩ := hq (d + 4) J2 R Q C6 (by omega) hr h2 (by omega)
  refine ⟨J7, C7, ?_, fr_tr (fr_tr (fr_tr f1 f6) f2) f7, h7, by omega, fun w => by rw [k7 w, k6 rfl, List.append_assoc]⟩
  simp (disch := first | omega | assumption) only [s36_0, s36_1, s36_4, s36_6, s36_9, s36_12, s36_13, s36_16, s36_18, s36_21, s36_24, s36_25, s36_26, s36_27, s36_30, s36_32, s36_35, s36_36, s36_37, s36_40, s36_41, s36_42, s36_43, s36_46, s36_49, s36_50, s36_51, s36_54, s36_55, s36_56, s36_59, s36_60, s36_63, s36_64, s36_67, s36_69, s36_72, s36_75, s36_76, s36_77, s36_78, s36_79, s36_80, s36_83, s36_85, s36_88, s36_89, s36_92, s36_93, s36_96, s36_98, s36_101, s36_102, s36_103, s36_106, s36_108, s36_111, s36_112, s36_115, s36_116, s36_117, s36_120, s36_123, s36_124, s36_127, s36_128, s36_129, s36_130, s36_133, s36_135, s36_138, s36_139, nI_le2, nI_lt2, nI_eq2, nI_lt0, nI_0le, nI_0lt, nI_le0, nI_eq0, nI_clamp, nI_add, bu_nI, bb_0, bb_1, rf_s, rf_n, tl_s, tl_n, am_th_some, if_true, if_false, sI_eq, uI_eq, and_self, true_and, and_true, not_false_eq_true, not_true_eq_false, Nat.reduceEqDiff, Nat.reduceLeDiff, Nat.reduceLT, Nat.reduceAdd, Nat.reduceMul, Nat.reduceSub, Nat.zero_add, r0, g1, g2, g6, hne]
  exact g7
theorem zc_eCmp (hk : tp_ok L B) (haL : a ≤ L) (ha1 : a1 ≤ L) (haa : sp_sk L B a ≤ a1) (ha2 : sp_sk L B a1 ≤ a2) (e : ¬ sp_in 1 (sp_hr L B (sp_sk L B a))) (hi : zc_K L B 60 41 [.ref (am_mk 4 0), .int (nI 0)] (sp_sk L B a) true a1 C1) (e2 : sp_in 2 (sp_hr L B (sp_sk L B a1))) (hd : zc_K L B 60 37 [.ref (am_mk 4 0), .int (nI 0), .int (nI 1)] (sp_sk L B a1) ok2 a2 C2) (hq : zc_Q L B 84 [.ref (am_mk 4 0), .int (nI 1), .int (if ok2 = true then nI 1 else nI 0)] a2 ok' a' C') (hok : ok' = true → ok2 = true) : zc_Q L B 26 [.ref (am_mk 4 0), am_J, am_J] a ok' a' (C1 ++ C2 ++ C') := by
  intro d I R Q C0 hN hr h hl
  obtain ⟨d, rfl⟩ : ∃ q, d = q + 4 := ⟨d - 4, by omega⟩
  have hs := sk_L (B := B) haL
  have hs1 := sk_L (B := B) ha1
  have hL := hk.1
  have r0 := hr.2.2.1
  have hne : ((nI 1 : Int32) = 0) = False := by decide
  obtain ⟨J1, g1, f1, h1⟩ := zc_oneOf (d := d + 1) (Q := Q) hr hk h haL (j := 1) (by decide)
  rw [if_neg e] at g1
  obtain ⟨J6, C6, g6, f6, h6, l6, k6⟩ := hi (d + 3) J1 R Q C0 (by omega) hr h1 (by omega)
  rw [if_pos rfl] at g6
  obtain ⟨J2, g2, f2, h2⟩ := zc_oneOf (d := d + 1) (Q := Q) hr hk h6 ha1 (j := 2) (by decide)
  rw [if_pos e2] at g2
  obtain ⟨J3, C3, g3, f3, h3, l3, k3⟩ := hd (d + 3) J2 R Q C6 (by omega) hr h2 (by omega)
  obtain ⟨J7, C7, g7, f7, h7, l7, k7⟩ := hq (d + 4) J3 R Q C3 (by omega) hr h3 (by omega)
  refine ⟨J7, C7, ?_, fr_tr (fr_tr (fr_tr (fr_tr f1 f6) f2) f3) f7, h7, by omega, fun w => by rw [k7 w, k3 (hok w), k6 rfl, List.append_assoc, List.append_assoc, List.append_assoc]⟩
  cases ok2
  · rw [if_neg (by decide)] at g3 g7
    simp (disch := first | omega | assumption) only [s36_0, s36_1, s36_4, s36_6, s36_9, s36_12, s36_13, s36_16, s36_18, s36_21, s36_24, s36_25, s36_26, s36_27, s36_30, s36_32, s36_35, s36_36, s36_37, s36_40, s36_41, s36_42, s36_43, s36_46, s36_49, s36_50, s36_51, s36_54, s36_55, s36_56, s36_59, s36_60, s36_63, s36_64, s36_67, s36_69, s36_72, s36_75, s36_76, s36_77, s36_78, s36_79, s36_80, s36_83, s36_85, s36_88, s36_89, s36_92, s36_93, s36_96, s36_98, s36_101, s36_102, s36_103, s36_106, s36_108, s36_111, s36_112, s36_115, s36_116, s36_117, s36_120, s36_123, s36_124, s36_127, s36_128, s36_129, s36_130, s36_133, s36_135, s36_138, s36_139, nI_le2, nI_lt2, nI_eq2, nI_lt0, nI_0le, nI_0lt, nI_le0, nI_eq0, nI_clamp, nI_add, bu_nI, bb_0, bb_1, rf_s, rf_n, tl_s, tl_n, am_th_some, if_true, if_false, sI_eq, uI_eq, and_self, true_and, and_true, not_false_eq_true, not_true_eq_false, Nat.reduceEqDiff, Nat.reduceLeDiff, Nat.reduceLT, Nat.reduceAdd, Nat.reduceMul, Nat.reduceSub, Nat.zero_add, r0, g1, g2, g6, g3, hne]
    exact g7
  · rw [if_pos rfl] at g3 g7
    simp (disch := first | omega | assumption) only [s36_0, s36_1, s36_4, s36_6, s36_9, s36_12, s36_13, s36_16, s36_18, s36_21, s36_24, s36_25, s36_26, s36_27, s36_30, s36_32, s36_35, s36_36, s36_37, s36_40, s36_41, s36_42, s36_43, s36_46, s36_49, s36_50, s36_51, s36_54, s36_55, s36_56, s36_59, s36_60, s36_63, s36_64, s36_67, s36_69, s36_72, s36_75, s36_76, s36_77, s36_78, s36_79, s36_80, s36_83, s36_85, s36_88, s36_89, s36_92, s36_93, s36_96, s36_98, s36_101, s36_102, s36_103, s36_106, s36_108, s36_111, s36_112, s36_115, s36_116, s36_117, s36_120, s36_123, s36_124, s36_127, s36_128, s36_129, s36_130, s36_133, s36_135, s36_138, s36_139, nI_le2, nI_lt2, nI_eq2, nI_lt0, nI_0le, nI_0lt, nI_le0, nI_eq0, nI_clamp, nI_add, bu_nI, bb_0, bb_1, rf_s, rf_n, tl_s, tl_n, am_th_some, if_true, if_false, sI_eq, uI_eq, and_self, true_and, and_true, not_false_eq_true, not_true_eq_false, Nat.reduceEqDiff, Nat.reduceLeDiff, Nat.reduceLT, Nat.reduceAdd, Nat.reduceMul, Nat.reduceSub, Nat.zero_add, r0, g1, g2, g6, g3, hne]
    exact g7
theorem zc_yA (hk : tp_ok L B) (haL : a ≤ L) (e : ¬ sp_hr L B (sp_sk L B a) = 121) : zc_K L B 64 36 [.ref (am_mk 4 0)] a false (sp_sk L B a) [] := by
  intro d I R Q C0 hN hr h hl
  obtain ⟨d, rfl⟩ : ∃ q, d = q + 4 := ⟨d - 4, by omega⟩
  have hs := sk_L (B := B) haL
  have r0 := hr.2.2.1
  obtain ⟨J1, g1, f1, h1⟩ := zc_passes (d := d + 1) (Q := Q) (x := 121) hr hk h haL (by decide)
  rw [if_neg e] at g1 h1
  refine ⟨J1, C0, ?_, f1, h1, by omega, fun w => by cases w⟩
  rw [s36]
  simp (disch := first | omega | assumption) only [s36_0, s36_1, s36_4, s36_6, s36_9, s36_12, s36_13, s36_16, s36_18, s36_21, s36_24, s36_25, s36_26, s36_27, s36_30, s36_32, s36_35, s36_36, s36_37, s36_40, s36_41, s36_42, s36_43, s36_46, s36_49, s36_50, s36_51, s36_54, s36_55, s36_56, s36_59, s36_60, s36_63, s36_64, s36_67, s36_69, s36_72, s36_75, s36_76, s36_77, s36_78, s36_79, s36_80, s36_83, s36_84, s36_85, s36_88, s36_89, s36_92, s36_93, s36_96, s36_98, s36_101, s36_102, s36_103, s36_106, s36_108, s36_111, s36_112, s36_115, s36_116, s36_117, s36_120, s36_123, s36_124, s36_127, s36_128, s36_129, s36_130, s36_133, s36_135, s36_138, s36_139, nI_le2, nI_lt2, nI_eq2, nI_lt0, nI_0le, nI_0lt, nI_le0, nI_eq0, nI_clamp, nI_add, bu_nI, bb_0, bb_1, rf_s, rf_n, tl_s, tl_n, am_th_some, if_true, if_false, sI_eq, uI_eq, and_self, true_and, and_true, not_false_eq_true, not_true_eq_false, Nat.reduceEqDiff, Nat.reduceLeDiff, Nat.reduceLT, Nat.reduceAdd, Nat.reduceMul, Nat.reduceSub, Nat.zero_add, r0, g1, Bool.false_eq_true]
theorem zc_yB (hk : tp_ok L B) (haL : a ≤ L) (e : sp_hr L B (sp_sk L B a) = 121) (e2 : ¬ sp_hr L B (sp_sk L B (sp_sk L B a + 1)) = 58) : zc_K L B 64 36 [.ref (am_mk 4 0)] a false (sp_sk L B (sp_sk L B a + 1)) [] := by
  intro d I R Q C0 hN hr h hl
  obtain ⟨d, rfl⟩ : ∃ q, d = q + 4 := ⟨d - 4, by omega⟩
  have hs := sk_L (B := B) haL
  have hlt := hr_ltx e (by decide)
  have hs2 := sk_L (B := B) (a := sp_sk L B a + 1) (L := L) (by omega)
  have r0 := hr.2.2.1
  have hne : ((nI 1 : Int32) = 0) = False := by decide
  obtain ⟨J1, g1, f1, h1⟩ := zc_passes (d := d + 1) (Q := Q) (x := 121) hr hk h haL (by decide)
  rw [if_pos e] at g1 h1
  obtain ⟨J2, g2, f2, h2⟩ := zc_passes (d := d + 1) (Q := Q) (x := 58) hr hk h1 (by omega) (by decide)
  rw [if_neg e2] at g2 h2
  refine ⟨J2, C0, ?_, fr_tr f1 f2, h2, by omega, fun w => by cases w⟩
  rw [s36]
  simp (disch := first | omega | assumption) only [s36_0, s36_1, s36_4, s36_6, s36_9, s36_12, s36_13, s36_16, s36_18, s36_21, s36_24, s36_25, s36_26, s36_27, s36_30, s36_32, s36_35, s36_36, s36_37, s36_40, s36_41, s36_42, s36_43, s36_46, s36_49, s36_50, s36_51, s36_54, s36_55, s36_56, s36_59, s36_60, s36_63, s36_64, s36_67, s36_69, s36_72, s36_75, s36_76, s36_77, s36_78, s36_79, s36_80, s36_83, s36_84, s36_85, s36_88, s36_89, s36_92, s36_93, s36_96, s36_98, s36_101, s36_102, s36_103, s36_106, s36_108, s36_111, s36_112, s36_115, s36_116, s36_117, s36_120, s36_123, s36_124, s36_127, s36_128, s36_129, s36_130, s36_133, s36_135, s36_138, s36_139, nI_le2, nI_lt2, nI_eq2, nI_lt0, nI_0le, nI_0lt, nI_le0, nI_eq0, nI_clamp, nI_add, bu_nI, bb_0, bb_1, rf_s, rf_n, tl_s, tl_n, am_th_some, if_true, if_false, sI_eq, uI_eq, and_self, true_and, and_true, not_false_eq_true, not_true_eq_false, Nat.reduceEqDiff, Nat.reduceLeDiff, Nat.reduceLT, Nat.reduceAdd, Nat.reduceMul, Nat.reduceSub, Nat.zero_add, r0, g1, g2, hne, Bool.false_eq_true]
theorem zc_yAll (hk : tp_ok L B) (haL : a ≤ L) (e : sp_hr L B (sp_sk L B a) = 121) (e2 : sp_hr L B (sp_sk L B (sp_sk L B a + 1)) = 58) (hq : zc_Q L B 26 [.ref (am_mk 4 0), am_J, am_J] (sp_sk L B (sp_sk L B a + 1) + 1) ok' a' C') : zc_K L B 64 36 [.ref (am_mk 4 0)] a ok' a' C' := by
  intro d I R Q C0 hN hr h hl
  obtain ⟨d, rfl⟩ : ∃ q, d = q + 4 := ⟨d - 4, by omega⟩
  have hs := sk_L (B := B) haL
  have hlt := hr_ltx e (by decide)
  have hs2 := sk_L (B := B) (a := sp_sk L B a + 1) (L := L) (by omega)
  have r0 := hr.2.2.1
  have hne : ((nI 1 : Int32) = 0) = False := by decide
  obtain ⟨J1, g1, f1, h1⟩ := zc_passes (d := d + 1) (Q := Q) (x := 121) hr hk h haL (by decide)
  rw [if_pos e] at g1 h1
  obtain ⟨J2, g2, f2, h2⟩ := zc_passes (d := d + 1) (Q := Q) (x := 58) hr hk h1 (by omega) (by decide)
  rw [if_pos e2] at g2 h2
  obtain ⟨J7, C7, g7, f7, h7, l7, k7⟩ := hq (d + 4) J2 R Q C0 (by omega) hr h2 (by omega)
  refine ⟨J7, C7, ?_, fr_tr (fr_tr f1 f2) f7, h7, by omega, k7⟩
  rw [s36]
  simp (disch := first | omega | assumption) only [s36_0, s36_1, s36_4, s36_6, s36_9, s36_12, s36_13, s36_16, s36_18, s36_21, s36_24, s36_25, s36_27, s36_30, s36_32, s36_35, s36_36, s36_37, s36_40, s36_41, s36_42, s36_43, s36_46, s36_49, s36_50, s36_51, s36_54, s36_55, s36_56, s36_59, s36_60, s36_63, s36_64, s36_67, s36_69, s36_72, s36_75, s36_76, s36_77, s36_78, s36_79, s36_80, s36_83, s36_84, s36_85, s36_88, s36_89, s36_92, s36_93, s36_96, s36_98, s36_101, s36_102, s36_103, s36_106, s36_108, s36_111, s36_112, s36_115, s36_116, s36_117, s36_120, s36_123, s36_124, s36_127, s36_128, s36_129, s36_130, s36_133, s36_135, s36_138, s36_139, nI_le2, nI_lt2, nI_eq2, nI_lt0, nI_0le, nI_0lt, nI_le0, nI_eq0, nI_clamp, nI_add, bu_nI, bb_0, bb_1, rf_s, rf_n, tl_s, tl_n, am_th_some, if_true, if_false, sI_eq, uI_eq, and_self, true_and, and_true, not_false_eq_true, not_true_eq_false, Nat.reduceEqDiff, Nat.reduceLeDiff, Nat.reduceLT, Nat.reduceAdd, Nat.reduceMul, Nat.reduceSub, Nat.zero_add, r0, g1, g2, hne]
  exact g7
end
