/-! LAW texts: ATOM, TERM, SUM; the class. -/
theorem dg_lt {L : Nat} {B : Nat → Nat} : ∀ f v a, (sp_dg L B f v a).1 < (v + 1) * 10 ^ f := by
  intro f
  induction f with
  | zero => intro v a; rw [sp_dg]; simp
  | succ f ih =>
    intro v a
    rw [sp_dg]
    by_cases e : 48 ≤ sp_hr L B a ∧ sp_hr L B a ≤ 57
    · rw [if_pos e]
      refine Nat.lt_of_lt_of_le (ih _ _) ?_
      rw [Nat.pow_succ, Nat.mul_comm (10 ^ f) 10, ← Nat.mul_assoc]
      exact Nat.mul_le_mul_right _ (by omega)
    · rw [if_neg e]
      show v < (v + 1) * 10 ^ (f + 1)
      have : 0 < 10 ^ (f + 1) := Nat.pow_pos (by decide)
      exact Nat.lt_of_lt_of_le (Nat.lt_succ_self v) (Nat.le_mul_of_pos_right _ this)
section
variable {L a dp N a1 a' : Nat} {B : Nat → Nat} {C1 C' : List Nat} {ok' : Bool}
theorem zc_aDeep (hk : tp_ok L B) (haL : a ≤ L) (e : sp_hr L B (sp_sk L B a) = 91) (hd : 6 ≤ dp) (hd2 : dp ≤ 6) : zc_K L B 4 43 [.ref (am_mk 4 0), .int (nI dp)] a false (sp_sk L B a) [] := by
  intro d I R Q C0 hN hr h hl
  obtain ⟨d, rfl⟩ : ∃ q, d = q + 4 := ⟨d - 4, by omega⟩
  obtain ⟨J1, g1, f1, h1⟩ := zc_sign (d := d + 2) (Q := Q) hr hk h haL
  have hs := sk_L (B := B) haL
  rw [e] at g1
  have r0 := hr.2.2.1
  have q : ¬ dp < 6 := by omega
  refine ⟨J1, C0, ?_, f1, h1, by omega, fun w => by cases w⟩
  rw [s43]
  simp (disch := first | omega | assumption) only [s43_0, s43_1, s43_4, s43_5, s43_6, s43_9, s43_11, s43_14, s43_15, s43_17, s43_20, s43_21, s43_22, s43_23, s43_26, s43_27, s43_28, s43_29, s43_30, s43_33, s43_36, s43_37, s43_39, s43_42, s43_45, s43_46, s43_49, s43_50, s43_51, s43_52, s43_54, s43_57, s43_60, s43_61, s43_64, s43_65, s43_68, s43_69, s43_72, s43_73, s43_76, s43_77, s43_78, s43_79, s43_80, s43_83, s43_84, s43_85, s43_86, s43_89, s43_90, s43_93, s43_94, s43_97, s43_98, s43_99, s43_102, s43_103, s43_106, s43_107, nI_le2, nI_lt2, nI_eq2, nI_lt0, nI_0le, nI_0lt, nI_le0, nI_eq0, nI_clamp, nI_add, bu_nI, bb_0, bb_1, rf_s, rf_n, tl_s, tl_n, am_th_some, if_true, if_false, sI_eq, uI_eq, and_self, true_and, and_true, not_false_eq_true, not_true_eq_false, Nat.reduceEqDiff, Nat.reduceLeDiff, Nat.reduceLT, Nat.reduceAdd, Nat.reduceMul, Nat.reduceSub, Nat.zero_add, r0, g1, q, Bool.false_eq_true]
theorem zc_aFail (hk : tp_ok L B) (haL : a ≤ L) (e : sp_hr L B (sp_sk L B a) = 91) (hd : dp < 6) (hN : 3 ≤ N) (hi : zc_K L B N 41 [.ref (am_mk 4 0), .int (nI (dp + 1))] (sp_sk L B a + 1) false a1 C1) : zc_K L B (N + 1) 43 [.ref (am_mk 4 0), .int (nI dp)] a false a1 [] := by
  intro d I R Q C0 hN' hr h hl
  obtain ⟨d, rfl⟩ : ∃ q, d = q + 4 := ⟨d - 4, by omega⟩
  obtain ⟨J1, g1, f1, h1⟩ := zc_sign (d := d + 2) (Q := Q) hr hk h haL
  have hs := sk_L (B := B) haL
  have hlt := hr_ltx e (by decide)
  obtain ⟨J2, g2, f2, h2⟩ := zc_pass (d := d + 3) (R := R) (Q := Q) hk h1 hlt
  obtain ⟨J3, C3, g3, f3, h3, l3, -⟩ := hi (d + 3) J2 R Q C0 (by omega) hr h2 (by omega)
  rw [e] at g1
  rw [if_neg (by decide)] at g3
  have r0 := hr.2.2.1
  refine ⟨J3, C3, ?_, fr_tr (fr_tr f1 f2) f3, h3, by omega, fun w => by cases w⟩
  rw [s43]
  simp (disch := first | omega | assumption) only [s43_0, s43_1, s43_4, s43_5, s43_6, s43_9, s43_11, s43_14, s43_15, s43_17, s43_20, s43_21, s43_22, s43_23, s43_26, s43_27, s43_28, s43_29, s43_30, s43_33, s43_36, s43_37, s43_39, s43_42, s43_45, s43_46, s43_49, s43_50, s43_51, s43_52, s43_54, s43_57, s43_60, s43_61, s43_64, s43_65, s43_68, s43_69, s43_72, s43_73, s43_76, s43_77, s43_78, s43_79, s43_80, s43_83, s43_84, s43_85, s43_86, s43_89, s43_90, s43_93, s43_94, s43_97, s43_98, s43_99, s43_102, s43_103, s43_106, s43_107, nI_le2, nI_lt2, nI_eq2, nI_lt0, nI_0le, nI_0lt, nI_le0, nI_eq0, nI_clamp, nI_add, bu_nI, bb_0, bb_1, rf_s, rf_n, tl_s, tl_n, am_th_some, if_true, if_false, sI_eq, uI_eq, and_self, true_and, and_true, not_false_eq_true, not_true_eq_false, Nat.reduceEqDiff, Nat.reduceLeDiff, Nat.reduceLT, Nat.reduceAdd, Nat.reduceMul, Nat.reduceSub, Nat.zero_add, r0, g1, g2, g3, hd, Bool.false_eq_true]
theorem zc_aClose (hk : tp_ok L B) (haL : a ≤ L) (ha1 : a1 ≤ L) (e : sp_hr L B (sp_sk L B a) = 91) (hd : dp < 6) (hN : 3 ≤ N) (hi : zc_K L B N 41 [.ref (am_mk 4 0), .int (nI (dp + 1))] (sp_sk L B a + 1) true a1 C1) (e2 : sp_hr L B (sp_sk L B a1) = 93) : zc_K L B (N + 1) 43 [.ref (am_mk 4 0), .int (nI dp)] a true (sp_sk L B a1 + 1) C1 := by
  intro d I R Q C0 hN' hr h hl
  obtain ⟨d, rfl⟩ : ∃ q, d = q + 4 := ⟨d - 4, by omega⟩
  obtain ⟨J1, g1, f1, h1⟩ := zc_sign (d := d + 2) (Q := Q) hr hk h haL
  have hs := sk_L (B := B) haL
  have hs1 := sk_L (B := B) ha1
  have hlt := hr_ltx e (by decide)
  obtain ⟨J2, g2, f2, h2⟩ := zc_pass (d := d + 3) (R := R) (Q := Q) hk h1 hlt
  obtain ⟨J3, C3, g3, f3, h3, l3, k3⟩ := hi (d + 3) J2 R Q C0 (by omega) hr h2 (by omega)
  obtain ⟨J4, g4, f4, h4⟩ := zc_passes (d := d + 1) (Q := Q) (x := 93) hr hk h3 ha1 (by decide)
  rw [if_pos e2] at g4 h4
  rw [e] at g1
  rw [if_pos rfl] at g3
  have r0 := hr.2.2.1
  refine ⟨J4, C3, ?_, fr_tr (fr_tr (fr_tr f1 f2) f3) f4, h4, by omega, k3⟩
  rw [s43]
  simp (disch := first | omega | assumption) only [s43_0, s43_1, s43_4, s43_5, s43_6, s43_9, s43_11, s43_14, s43_15, s43_17, s43_20, s43_21, s43_22, s43_23, s43_26, s43_27, s43_28, s43_29, s43_30, s43_33, s43_36, s43_37, s43_39, s43_42, s43_45, s43_46, s43_49, s43_50, s43_51, s43_52, s43_54, s43_57, s43_60, s43_61, s43_64, s43_65, s43_68, s43_69, s43_72, s43_73, s43_76, s43_77, s43_78, s43_79, s43_80, s43_83, s43_84, s43_85, s43_86, s43_89, s43_90, s43_93, s43_94, s43_97, s43_98, s43_99, s43_102, s43_103, s43_106, s43_107, nI_le2, nI_lt2, nI_eq2, nI_lt0, nI_0le, nI_0lt, nI_le0, nI_eq0, nI_clamp, nI_add, bu_nI, bb_0, bb_1, rf_s, rf_n, tl_s, tl_n, am_th_some, if_true, if_false, sI_eq, uI_eq, and_self, true_and, and_true, not_false_eq_true, not_true_eq_false, Nat.reduceEqDiff, Nat.reduceLeDiff, Nat.reduceLT, Nat.reduceAdd, Nat.reduceMul, Nat.reduceSub, Nat.zero_add, r0, g1, g2, g3, g4, hd]
theorem zc_aOpen (hk : tp_ok L B) (haL : a ≤ L) (ha1 : a1 ≤ L) (e : sp_hr L B (sp_sk L B a) = 91) (hd : dp < 6) (hN : 3 ≤ N) (hi : zc_K L B N 41 [.ref (am_mk 4 0), .int (nI (dp + 1))] (sp_sk L B a + 1) true a1 C1) (e2 : ¬ sp_hr L B (sp_sk L B a1) = 93) : zc_K L B (N + 1) 43 [.ref (am_mk 4 0), .int (nI dp)] a false (sp_sk L B a1) [] := by
  intro d I R Q C0 hN' hr h hl
  obtain ⟨d, rfl⟩ : ∃ q, d = q + 4 := ⟨d - 4, by omega⟩
  obtain ⟨J1, g1, f1, h1⟩ := zc_sign (d := d + 2) (Q := Q) hr hk h haL
  have hs := sk_L (B := B) haL
  have hs1 := sk_L (B := B) ha1
  have hlt := hr_ltx e (by decide)
  obtain ⟨J2, g2, f2, h2⟩ := zc_pass (d := d + 3) (R := R) (Q := Q) hk h1 hlt
  obtain ⟨J3, C3, g3, f3, h3, l3, k3⟩ := hi (d + 3) J2 R Q C0 (by omega) hr h2 (by omega)
  obtain ⟨J4, g4, f4, h4⟩ := zc_passes (d := d + 1) (Q := Q) (x := 93) hr hk h3 ha1 (by decide)
  rw [if_neg e2] at g4 h4
  rw [e] at g1
  rw [if_pos rfl] at g3
  have r0 := hr.2.2.1
  refine ⟨J4, C3, ?_, fr_tr (fr_tr (fr_tr f1 f2) f3) f4, h4, by omega, fun w => by cases w⟩
  rw [s43]
  simp (disch := first | omega | assumption) only [s43_0, s43_1, s43_4, s43_5, s43_6, s43_9, s43_11, s43_14, s43_15, s43_17, s43_20, s43_21, s43_22, s43_23, s43_26, s43_27, s43_28, s43_29, s43_30, s43_33, s43_36, s43_37, s43_39, s43_42, s43_45, s43_46, s43_49, s43_50, s43_51, s43_52, s43_54, s43_57, s43_60, s43_61, s43_64, s43_65, s43_68, s43_69, s43_72, s43_73, s43_76, s43_77, s43_78, s43_79, s43_80, s43_83, s43_84, s43_85, s43_86, s43_89, s43_90, s43_93, s43_94, s43_97, s43_98, s43_99, s43_102, s43_103, s43_106, s43_107, nI_le2, nI_lt2, nI_eq2, nI_lt0, nI_0le, nI_0lt, nI_le0, nI_eq0, nI_clamp, nI_add, bu_nI, bb_0, bb_1, rf_s, rf_n, tl_s, tl_n, am_th_some, if_true, if_false, sI_eq, uI_eq, and_self, true_and, and_true, not_false_eq_true, not_true_eq_false, Nat.reduceEqDiff, Nat.reduceLeDiff, Nat.reduceLT, Nat.reduceAdd, Nat.reduceMul, Nat.reduceSub, Nat.zero_add, r0, g1, g2, g3, g4, hd, Bool.false_eq_true]
theorem zc_aLetter (hk : tp_ok L B) (haL : a ≤ L) (e0 : ¬ sp_hr L B (sp_sk L B a) = 91) (e : sp_in 5 (sp_hr L B (sp_sk L B a))) : zc_K L B 4 43 [.ref (am_mk 4 0), .int (nI dp)] a true (sp_sk L B a + 1) [10000 + sp_hr L B (sp_sk L B a)] := by
  intro d I R Q C0 hN' hr h hl
  obtain ⟨d, rfl⟩ : ∃ q, d = q + 4 := ⟨d - 4, by omega⟩
  have hs := sk_L (B := B) haL
  have hL := hk.1
  have hlt := hr_in (by decide) e
  have hx := hr_le (a := sp_sk L B a) hk
  have hx0 : 0 < sp_hr L B (sp_sk L B a) := Nat.pos_of_ne_zero (fun w => by rw [hr_0 hk] at w; exact w hlt)
  obtain ⟨J1, g1, f1, h1⟩ := zc_sign (d := d + 2) (Q := Q) hr hk h haL
  obtain ⟨J2, g2, f2, h2⟩ := zc_oneOf (d := d + 1) (Q := Q) hr hk h1 hs.2 (j := 5) (by decide)
  rw [sk_sk, if_pos e] at g2
  rw [sk_sk] at h2
  obtain ⟨J3, g3, f3, h3⟩ := zc_sign (d := d + 2) (Q := Q) hr hk h2 hs.2
  rw [sk_sk] at g3 h3
  obtain ⟨J4, g4, f4, h4⟩ := zc_add (d := d + 3) (Q := Q) hr h3 (by omega) (10000 + sp_hr L B (sp_sk L B a))
  rw [← zl_neg hx0] at g4
  obtain ⟨J5, g5, f5, h5⟩ := zc_pass (d := d + 3) (R := R) (Q := Q) hk h4 hlt
  have r0 := hr.2.2.1
  have r1 := hr.2.2.2
  refine ⟨J5, _, ?_, fr_tr (fr_tr (fr_tr (fr_tr f1 f2) f3) f4) f5, h5, ?_, fun _ => rfl⟩
  · rw [s43]
    simp (disch := first | omega | assumption) only [s43_0, s43_1, s43_4, s43_5, s43_6, s43_9, s43_11, s43_14, s43_15, s43_17, s43_20, s43_21, s43_22, s43_23, s43_26, s43_27, s43_28, s43_29, s43_30, s43_33, s43_36, s43_37, s43_39, s43_42, s43_45, s43_46, s43_49, s43_50, s43_51, s43_52, s43_54, s43_57, s43_60, s43_61, s43_64, s43_65, s43_68, s43_69, s43_72, s43_73, s43_76, s43_77, s43_78, s43_79, s43_80, s43_83, s43_84, s43_85, s43_86, s43_89, s43_90, s43_93, s43_94, s43_97, s43_98, s43_99, s43_102, s43_103, s43_106, s43_107, nI_le2, nI_lt2, nI_eq2, nI_lt0, nI_0le, nI_0lt, nI_le0, nI_eq0, nI_clamp, nI_add, bu_nI, bb_0, bb_1, rf_s, rf_n, tl_s, tl_n, am_th_some, if_true, if_false, sI_eq, uI_eq, and_self, true_and, and_true, not_false_eq_true, not_true_eq_false, Nat.reduceEqDiff, Nat.reduceLeDiff, Nat.reduceLT, Nat.reduceAdd, Nat.reduceMul, Nat.reduceSub, Nat.zero_add, r0, r1, g1, g2, g3, g4, g5, e0]
  · rw [List.length_append, List.length_singleton]; omega
theorem zc_aNum (hk : tp_ok L B) (haL : a ≤ L) (e0 : ¬ sp_hr L B (sp_sk L B a) = 91) (e : ¬ sp_in 5 (sp_hr L B (sp_sk L B a))) (e2 : ¬ ((sp_dg L B 4 0 (sp_sk L B a)).2 = sp_sk L B a ∨ (48 ≤ sp_hr L B (sp_dg L B 4 0 (sp_sk L B a)).2 ∧ sp_hr L B (sp_dg L B 4 0 (sp_sk L B a)).2 ≤ 57))) : zc_K L B 4 43 [.ref (am_mk 4 0), .int (nI dp)] a true (sp_dg L B 4 0 (sp_sk L B a)).2 [(sp_dg L B 4 0 (sp_sk L B a)).1] := by
  intro d I R Q C0 hN' hr h hl
  obtain ⟨d, rfl⟩ : ∃ q, d = q + 4 := ⟨d - 4, by omega⟩
  have hs := sk_L (B := B) haL
  have hL := hk.1
  have hx := hr_le (a := sp_sk L B a) hk
  have hv : (sp_dg L B 4 0 (sp_sk L B a)).1 < 10000 := dg_lt 4 0 (sp_sk L B a)
  obtain ⟨J1, g1, f1, h1⟩ := zc_sign (d := d + 2) (Q := Q) hr hk h haL
  obtain ⟨J2, g2, f2, h2⟩ := zc_oneOf (d := d + 1) (Q := Q) hr hk h1 hs.2 (j := 5) (by decide)
  rw [sk_sk, if_neg e] at g2
  rw [sk_sk] at h2
  obtain ⟨J3, g3, f3, h3, l3, m3, -⟩ := c_number (d := d + 1) (Q := Q) hr.1 hk h2.1 h2.2.2.1 hs.2 (f := 4) (by decide)
  rw [sk_sk] at g3 h3 l3 m3
  rw [if_neg e2] at g3
  obtain ⟨f3', h3'⟩ := zc_t h2 f3 h3
  have hne : ¬ (sp_dg L B 4 0 (sp_sk L B a)).2 = sp_sk L B a := fun w => e2 (Or.inl w)
  obtain ⟨J4, g4, f4, h4⟩ := zc_add (d := d + 3) (Q := Q) hr h3' (by omega) (sp_dg L B 4 0 (sp_sk L B a)).1
  rw [← zl_num hv] at g4
  have r0 := hr.2.2.1
  have r1 := hr.2.2.2
  have hm : ¬ nI (sp_dg L B 4 0 (sp_sk L B a)).1 = -nI 1 := m1_ne (by omega)
  refine ⟨J4, _, ?_, fr_tr (fr_tr (fr_tr f1 f2) f3') f4, h4, ?_, fun _ => rfl⟩
  · rw [s43]
    simp (disch := first | omega | assumption) only [s43_0, s43_1, s43_4, s43_5, s43_6, s43_9, s43_11, s43_14, s43_15, s43_17, s43_20, s43_21, s43_22, s43_23, s43_26, s43_27, s43_28, s43_29, s43_30, s43_33, s43_36, s43_37, s43_39, s43_42, s43_45, s43_46, s43_49, s43_50, s43_51, s43_52, s43_54, s43_57, s43_60, s43_61, s43_64, s43_65, s43_68, s43_69, s43_72, s43_73, s43_76, s43_77, s43_78, s43_79, s43_80, s43_83, s43_84, s43_85, s43_86, s43_89, s43_90, s43_93, s43_94, s43_97, s43_98, s43_99, s43_102, s43_103, s43_106, s43_107, nI_le2, nI_lt2, nI_eq2, nI_lt0, nI_0le, nI_0lt, nI_le0, nI_eq0, nI_clamp, nI_add, bu_nI, bb_0, bb_1, rf_s, rf_n, tl_s, tl_n, am_th_some, if_true, if_false, sI_eq, uI_eq, and_self, true_and, and_true, not_false_eq_true, not_true_eq_false, Nat.reduceEqDiff, Nat.reduceLeDiff, Nat.reduceLT, Nat.reduceAdd, Nat.reduceMul, Nat.reduceSub, Nat.zero_add, r0, r1, g1, g2, g3, g4, e0, hm]
  · rw [List.length_append, List.length_singleton]; omega
theorem zc_aBad (hk : tp_ok L B) (haL : a ≤ L) (e0 : ¬ sp_hr L B (sp_sk L B a) = 91) (e : ¬ sp_in 5 (sp_hr L B (sp_sk L B a))) (e2 : ((sp_dg L B 4 0 (sp_sk L B a)).2 = sp_sk L B a ∨ (48 ≤ sp_hr L B (sp_dg L B 4 0 (sp_sk L B a)).2 ∧ sp_hr L B (sp_dg L B 4 0 (sp_sk L B a)).2 ≤ 57))) : zc_K L B 4 43 [.ref (am_mk 4 0), .int (nI dp)] a false (sp_dg L B 4 0 (sp_sk L B a)).2 [] := by
  intro d I R Q C0 hN' hr h hl
  obtain ⟨d, rfl⟩ : ∃ q, d = q + 4 := ⟨d - 4, by omega⟩
  have hs := sk_L (B := B) haL
  have hL := hk.1
  have hx := hr_le (a := sp_sk L B a) hk
  obtain ⟨J1, g1, f1, h1⟩ := zc_sign (d := d + 2) (Q := Q) hr hk h haL
  obtain ⟨J2, g2, f2, h2⟩ := zc_oneOf (d := d + 1) (Q := Q) hr hk h1 hs.2 (j := 5) (by decide)
  rw [sk_sk, if_neg e] at g2
  rw [sk_sk] at h2
  obtain ⟨J3, g3, f3, h3, l3, m3, -⟩ := c_number (d := d + 1) (Q := Q) hr.1 hk h2.1 h2.2.2.1 hs.2 (f := 4) (by decide)
  rw [sk_sk] at g3 h3 l3 m3
  rw [if_pos e2] at g3
  obtain ⟨f3', h3'⟩ := zc_t h2 f3 h3
  have r0 := hr.2.2.1
  refine ⟨J3, C0, ?_, fr_tr (fr_tr f1 f2) f3', h3', by omega, fun w => by cases w⟩
  rw [s43]
  simp (disch := first | omega | assumption) only [s43_0, s43_1, s43_4, s43_5, s43_6, s43_9, s43_11, s43_14, s43_15, s43_17, s43_20, s43_21, s43_22, s43_23, s43_26, s43_27, s43_28, s43_29, s43_30, s43_33, s43_36, s43_37, s43_39, s43_42, s43_45, s43_46, s43_49, s43_50, s43_51, s43_52, s43_54, s43_57, s43_60, s43_61, s43_64, s43_65, s43_68, s43_69, s43_72, s43_73, s43_76, s43_77, s43_78, s43_79, s43_80, s43_83, s43_84, s43_85, s43_86, s43_89, s43_90, s43_93, s43_94, s43_97, s43_98, s43_99, s43_102, s43_103, s43_106, s43_107, nI_le2, nI_lt2, nI_eq2, nI_lt0, nI_0le, nI_0lt, nI_le0, nI_eq0, nI_clamp, nI_add, bu_nI, bb_0, bb_1, rf_s, rf_n, tl_s, tl_n, am_th_some, if_true, if_false, sI_eq, uI_eq, and_self, true_and, and_true, not_false_eq_true, not_true_eq_false, Nat.reduceEqDiff, Nat.reduceLeDiff, Nat.reduceLT, Nat.reduceAdd, Nat.reduceMul, Nat.reduceSub, Nat.zero_add, r0, g1, g2, g3, e0, Bool.false_eq_true]
abbrev zc_lt (dp : Nat) : Nat → Value → List Value := fun i l => [.ref (am_mk 4 0), .int (nI dp), .int (nI 1), .int (nI i), l]
theorem zc_tEnd (hk : tp_ok L B) (haL : a ≤ L) (e : ¬ sp_in 4 (sp_hr L B (sp_sk L B a))) (hN : 4 ≤ N) : zc_W L B N 42 8 (zc_lt dp) a true (sp_sk L B a) [] := by
  intro d I R Q C0 i l hN' hr h hl hi
  obtain ⟨d, rfl⟩ : ∃ q, d = q + 4 := ⟨d - 4, by omega⟩
  have hs := sk_L (B := B) haL
  have hL := hk.1
  have r0 := hr.2.2.1
  have hne : ((nI 1 : Int32) = 0) = False := by decide
  by_cases q : i < 240
  · obtain ⟨J1, g1, f1, h1⟩ := zc_oneOf (d := d + 1) (Q := Q) hr hk h haL (j := 4) (by decide)
    rw [if_neg e] at g1
    have q' : ¬ 240 ≤ i := by omega
    refine ⟨J1, C0, ?_, f1, h1, by omega, fun _ => (List.append_nil C0).symm⟩
    rw [s42_8]
    simp (disch := first | omega | assumption) only [s42_0, s42_1, s42_2, s42_5, s42_6, s42_7, s42_9, s42_12, s42_13, s42_16, s42_19, s42_20, s42_23, s42_25, s42_28, s42_31, s42_32, s42_35, s42_38, s42_40, s42_41, s42_44, s42_47, s42_48, s42_49, s42_52, s42_53, s42_54, s42_57, s42_59, s42_60, s42_63, s42_66, s42_69, s42_70, nI_le2, nI_lt2, nI_eq2, nI_lt0, nI_0le, nI_0lt, nI_le0, nI_eq0, nI_clamp, nI_add, bu_nI, bb_0, bb_1, rf_s, rf_n, tl_s, tl_n, am_th_some, if_true, if_false, sI_eq, uI_eq, and_self, true_and, and_true, not_false_eq_true, not_true_eq_false, Nat.reduceEqDiff, Nat.reduceLeDiff, Nat.reduceLT, Nat.reduceAdd, Nat.reduceMul, Nat.reduceSub, Nat.zero_add, r0, g1, q', hne]
  · have hsa : sp_sk L B a = a := sk_e (by omega)
    rw [hsa]
    have q' : 240 ≤ i := by omega
    refine ⟨I, C0, ?_, fr_rf, h, by omega, fun _ => (List.append_nil C0).symm⟩
    rw [s42_8]
    simp (disch := first | omega | assumption) only [s42_0, s42_1, s42_2, s42_5, s42_6, s42_7, s42_9, s42_12, s42_13, s42_16, s42_19, s42_20, s42_23, s42_25, s42_28, s42_31, s42_32, s42_35, s42_38, s42_40, s42_41, s42_44, s42_47, s42_48, s42_49, s42_52, s42_53, s42_54, s42_57, s42_59, s42_60, s42_63, s42_66, s42_69, s42_70, nI_le2, nI_lt2, nI_eq2, nI_lt0, nI_0le, nI_0lt, nI_le0, nI_eq0, nI_clamp, nI_add, bu_nI, bb_0, bb_1, rf_s, rf_n, tl_s, tl_n, am_th_some, if_true, if_false, sI_eq, uI_eq, and_self, true_and, and_true, not_false_eq_true, not_true_eq_false, Nat.reduceEqDiff, Nat.reduceLeDiff, Nat.reduceLT, Nat.reduceAdd, Nat.reduceMul, Nat.reduceSub, Nat.zero_add, r0, q', hne]
theorem zc_tBad (hk : tp_ok L B) (haL : a ≤ L) (ha1 : a1 ≤ L) (e : sp_in 4 (sp_hr L B (sp_sk L B a))) (hN : 4 ≤ N) (hi : zc_K L B N 43 [.ref (am_mk 4 0), .int (nI dp)] (sp_sk L B a + 1) false a1 C1) : zc_W L B (N + 1) 42 8 (zc_lt dp) a false a1 [] := by
  intro d I R Q C0 i l hN' hr h hl hia
  obtain ⟨d, rfl⟩ : ∃ q, d = q + 4 := ⟨d - 4, by omega⟩
  have hs := sk_L (B := B) haL
  have hL := hk.1
  have hlt := hr_in (by decide) e
  have hx := hr_le (a := sp_sk L B a) hk
  have hx0 : 0 < sp_hr L B (sp_sk L B a) := Nat.pos_of_ne_zero (fun w => by rw [hr_0 hk] at w; exact w hlt)
  have hne : ((nI 1 : Int32) = 0) = False := by decide
  obtain ⟨J1, g1, f1, h1⟩ := zc_oneOf (d := d + 1) (Q := Q) hr hk h haL (j := 4) (by decide)
  rw [if_pos e] at g1
  obtain ⟨J2, g2, f2, h2⟩ := zc_sign (d := d + 2) (Q := Q) hr hk h1 hs.2
  rw [sk_sk] at g2 h2
  obtain ⟨J3, g3, f3, h3⟩ := zc_pass (d := d + 3) (R := R) (Q := Q) hk h2 hlt
  obtain ⟨J4, C4, g4, f4, h4, l4, -⟩ := hi (d + 3) J3 R Q C0 (by omega) hr h3 (by omega)
  rw [if_neg (by decide)] at g4
  obtain ⟨J5, g5, f5, h5⟩ := zc_add (d := d + 3) (Q := Q) hr h4 (by omega) (10000 + sp_hr L B (sp_sk L B a))
  rw [← zl_neg hx0] at g5
  have r0 := hr.2.2.1
  have r1 := hr.2.2.2
  have q' : ¬ 240 ≤ i := by omega
  refine ⟨J5, _, ?_, fr_tr (fr_tr (fr_tr (fr_tr f1 f2) f3) f4) f5, h5, ?_, fun w => by cases w⟩
  · rw [s42_8]
    simp (disch := first | omega | assumption) only [s42_0, s42_1, s42_2, s42_5, s42_6, s42_7, s42_9, s42_12, s42_13, s42_16, s42_19, s42_20, s42_23, s42_25, s42_28, s42_31, s42_32, s42_35, s42_38, s42_40, s42_41, s42_44, s42_47, s42_48, s42_49, s42_52, s42_53, s42_54, s42_57, s42_59, s42_60, s42_63, s42_66, s42_69, s42_70, nI_le2, nI_lt2, nI_eq2, nI_lt0, nI_0le, nI_0lt, nI_le0, nI_eq0, nI_clamp, nI_add, bu_nI, bb_0, bb_1, rf_s, rf_n, tl_s, tl_n, am_th_some, if_true, if_false, sI_eq, uI_eq, and_self, true_and, and_true, not_false_eq_true, not_true_eq_false, Nat.reduceEqDiff, Nat.reduceLeDiff, Nat.reduceLT, Nat.reduceAdd, Nat.reduceMul, Nat.reduceSub, Nat.zero_add, r0, r1, g1, g2, g3, g4, g5, q', hne]
    rw [s42_8]
    simp (disch := first | omega | assumption) only [s42_0, s42_1, s42_2, s42_5, s42_6, s42_7, s42_9, s42_12, s42_13, s42_16, s42_19, s42_20, s42_23, s42_25, s42_28, s42_31, s42_32, s42_35, s42_38, s42_40, s42_41, s42_44, s42_47, s42_48, s42_49, s42_52, s42_53, s42_54, s42_57, s42_59, s42_60, s42_63, s42_66, s42_69, s42_70, nI_le2, nI_lt2, nI_eq2, nI_lt0, nI_0le, nI_0lt, nI_le0, nI_eq0, nI_clamp, nI_add, bu_nI, bb_0, bb_1, rf_s, rf_n, tl_s, tl_n, am_th_some, if_true, if_false, sI_eq, uI_eq, and_self, true_and, and_true, not_false_eq_true, not_true_eq_false, Nat.reduceEqDiff, Nat.reduceLeDiff, Nat.reduceLT, Nat.reduceAdd, Nat.reduceMul, Nat.reduceSub, Nat.zero_add, Bool.false_eq_true]
  · rw [List.length_append, List.length_singleton]; omega
theorem zc_tGo (hk : tp_ok L B) (haL : a ≤ L) (ha1 : a1 ≤ L) (e : sp_in 4 (sp_hr L B (sp_sk L B a))) (hN : 4 ≤ N) (hi : zc_K L B N 43 [.ref (am_mk 4 0), .int (nI dp)] (sp_sk L B a + 1) true a1 C1) (hc : sp_sk L B a + 1 ≤ a1) (hw : zc_W L B (N + 1) 42 8 (zc_lt dp) a1 ok' a' C') : zc_W L B (N + 1) 42 8 (zc_lt dp) a ok' a' (C1 ++ (10000 + sp_hr L B (sp_sk L B a)) :: C') := by
  intro d I R Q C0 i l hN' hr h hl hia
  obtain ⟨d, rfl⟩ : ∃ q, d = q + 4 := ⟨d - 4, by omega⟩
  have hs := sk_L (B := B) haL
  have hL := hk.1
  have hlt := hr_in (by decide) e
  have hx := hr_le (a := sp_sk L B a) hk
  have hx0 : 0 < sp_hr L B (sp_sk L B a) := Nat.pos_of_ne_zero (fun w => by rw [hr_0 hk] at w; exact w hlt)
  have hne : ((nI 1 : Int32) = 0) = False := by decide
  obtain ⟨J1, g1, f1, h1⟩ := zc_oneOf (d := d + 1) (Q := Q) hr hk h haL (j := 4) (by decide)
  rw [if_pos e] at g1
  obtain ⟨J2, g2, f2, h2⟩ := zc_sign (d := d + 2) (Q := Q) hr hk h1 hs.2
  rw [sk_sk] at g2 h2
  obtain ⟨J3, g3, f3, h3⟩ := zc_pass (d := d + 3) (R := R) (Q := Q) hk h2 hlt
  obtain ⟨J4, C4, g4, f4, h4, l4, k4⟩ := hi (d + 3) J3 R Q C0 (by omega) hr h3 (by omega)
  have k4 := k4 rfl
  rw [if_pos rfl] at g4
  obtain ⟨J5, g5, f5, h5⟩ := zc_add (d := d + 3) (Q := Q) hr h4 (by omega) (10000 + sp_hr L B (sp_sk L B a))
  rw [← zl_neg hx0] at g5
  have hlen : (C4 ++ [10000 + sp_hr L B (sp_sk L B a)]).length = C4.length + 1 := by rw [List.length_append, List.length_singleton]
  obtain ⟨J6, C6, g6, f6, h6, l6, k6⟩ := hw (d + 4) J5 R Q _ (i + 1) (.int (nI (sp_hr L B (sp_sk L B a)))) hN' hr h5 (by rw [hlen]; omega) (by omega)
  have r0 := hr.2.2.1
  have r1 := hr.2.2.2
  have q' : ¬ 240 ≤ i := by omega
  refine ⟨J6, C6, ?_, fr_tr (fr_tr (fr_tr (fr_tr (fr_tr f1 f2) f3) f4) f5) f6, h6, by rw [hlen] at l6; omega, fun w => ?_⟩
  · rw [s42_8]
    simp (disch := first | omega | assumption) only [s42_0, s42_1, s42_2, s42_5, s42_6, s42_7, s42_9, s42_12, s42_13, s42_16, s42_19, s42_20, s42_23, s42_25, s42_28, s42_31, s42_32, s42_35, s42_38, s42_40, s42_41, s42_44, s42_47, s42_48, s42_49, s42_52, s42_53, s42_54, s42_57, s42_59, s42_60, s42_63, s42_66, s42_69, s42_70, nI_le2, nI_lt2, nI_eq2, nI_lt0, nI_0le, nI_0lt, nI_le0, nI_eq0, nI_clamp, nI_add, bu_nI, bb_0, bb_1, rf_s, rf_n, tl_s, tl_n, am_th_some, if_true, if_false, sI_eq, uI_eq, and_self, true_and, and_true, not_false_eq_true, not_true_eq_false, Nat.reduceEqDiff, Nat.reduceLeDiff, Nat.reduceLT, Nat.reduceAdd, Nat.reduceMul, Nat.reduceSub, Nat.zero_add, r0, r1, g1, g2, g3, g4, g5, q', hne]
    exact g6
  · rw [k6 w, k4]
    simp
theorem zc_tFail (hN : 4 ≤ N) (hi : zc_K L B N 43 [.ref (am_mk 4 0), .int (nI dp)] a false a1 C1) : zc_K L B (N + 1) 42 [.ref (am_mk 4 0), .int (nI dp)] a false a1 [] := by
  intro d I R Q C0 hN' hr h hl
  obtain ⟨d, rfl⟩ : ∃ q, d = q + 4 := ⟨d - 4, by omega⟩
  obtain ⟨J4, C4, g4, f4, h4, l4, -⟩ := hi (d + 3) I R Q C0 (by omega) hr h hl
  rw [if_neg (by decide)] at g4
  refine ⟨J4, C4, ?_, f4, h4, l4, fun w => by cases w⟩
  rw [s42]
  simp (disch := first | omega | assumption) only [s42_0, s42_1, s42_2, s42_5, s42_6, s42_7, s42_8, s42_9, s42_12, s42_13, s42_16, s42_19, s42_20, s42_23, s42_25, s42_28, s42_31, s42_32, s42_35, s42_38, s42_40, s42_41, s42_44, s42_47, s42_48, s42_49, s42_52, s42_53, s42_54, s42_57, s42_59, s42_60, s42_63, s42_66, s42_69, s42_70, nI_le2, nI_lt2, nI_eq2, nI_lt0, nI_0le, nI_0lt, nI_le0, nI_eq0, nI_clamp, nI_add, bu_nI, bb_0, bb_1, rf_s, rf_n, tl_s, tl_n, am_th_some, if_true, if_false, sI_eq, uI_eq, and_self, true_and, and_true, not_false_eq_true, not_true_eq_false, Nat.reduceEqDiff, Nat.reduceLeDiff, Nat.reduceLT, Nat.reduceAdd, Nat.reduceMul, Nat.reduceSub, Nat.zero_add, g4, Bool.false_eq_true]
theorem zc_tAll (hN : 4 ≤ N) (haa : a ≤ a1) (hi : zc_K L B N 43 [.ref (am_mk 4 0), .int (nI dp)] a true a1 C1) (hw : zc_W L B (N + 1) 42 8 (zc_lt dp) a1 ok' a' C') : zc_K L B (N + 1) 42 [.ref (am_mk 4 0), .int (nI dp)] a ok' a' (C1 ++ C') := by
  intro d I R Q C0 hN' hr h hl
  obtain ⟨d, rfl⟩ : ∃ q, d = q + 4 := ⟨d - 4, by omega⟩
  obtain ⟨J4, C4, g4, f4, h4, l4, k4⟩ := hi (d + 3) I R Q C0 (by omega) hr h hl
  have k4 := k4 rfl
  rw [if_pos rfl] at g4
  obtain ⟨J6, C6, g6, f6, h6, l6, k6⟩ := hw (d + 4) J4 R Q C4 0 am_J hN' hr h4 (by omega) (by omega)
  refine ⟨J6, C6, ?_, fr_tr f4 f6, h6, by omega, fun w => by rw [k6 w, k4, List.append_assoc]⟩
  rw [s42]
  simp (disch := first | omega | assumption) only [s42_0, s42_1, s42_2, s42_5, s42_6, s42_7, s42_9, s42_12, s42_13, s42_16, s42_19, s42_20, s42_23, s42_25, s42_28, s42_31, s42_32, s42_35, s42_38, s42_40, s42_41, s42_44, s42_47, s42_48, s42_49, s42_52, s42_53, s42_54, s42_57, s42_59, s42_60, s42_63, s42_66, s42_69, s42_70, nI_le2, nI_lt2, nI_eq2, nI_lt0, nI_0le, nI_0lt, nI_le0, nI_eq0, nI_clamp, nI_add, bu_nI, bb_0, bb_1, rf_s, rf_n, tl_s, tl_n, am_th_some, if_true, if_false, sI_eq, uI_eq, and_self, true_and, and_true, not_false_eq_true, not_true_eq_false, Nat.reduceEqDiff, Nat.reduceLeDiff, Nat.reduceLT, Nat.reduceAdd, Nat.reduceMul, Nat.reduceSub, Nat.zero_add, g4]
  exact g6
abbrev zc_ls (dp : Nat) : Nat → Value → List Value := fun i l => [.ref (am_mk 4 0), .int (nI dp), .int (nI 1), .int (nI i), l]
theorem zc_sEnd (hk : tp_ok L B) (haL : a ≤ L) (e : ¬ sp_in 3 (sp_hr L B (sp_sk L B a))) (hN : 4 ≤ N) : zc_W L B N 41 8 (zc_ls dp) a true (sp_sk L B a) [] := by
  intro d I R Q C0 i l hN' hr h hl hi
  obtain ⟨d, rfl⟩ : ∃ q, d = q + 4 := ⟨d - 4, by omega⟩
  have hs := sk_L (B := B) haL
  have hL := hk.1
  have r0 := hr.2.2.1
  have hne : ((nI 1 : Int32) = 0) = False := by decide
  by_cases q : i < 240
  · obtain ⟨J1, g1, f1, h1⟩ := zc_oneOf (d := d + 1) (Q := Q) hr hk h haL (j := 3) (by decide)
    rw [if_neg e] at g1
    have q' : ¬ 240 ≤ i := by omega
    refine ⟨J1, C0, ?_, f1, h1, by omega, fun _ => (List.append_nil C0).symm⟩
    rw [s41_8]
    simp (disch := first | omega | assumption) only [s41_0, s41_1, s41_2, s41_5, s41_6, s41_7, s41_9, s41_12, s41_13, s41_16, s41_19, s41_20, s41_23, s41_25, s41_28, s41_31, s41_32, s41_35, s41_38, s41_40, s41_41, s41_44, s41_47, s41_48, s41_49, s41_52, s41_53, s41_54, s41_57, s41_59, s41_60, s41_63, s41_66, s41_69, s41_70, nI_le2, nI_lt2, nI_eq2, nI_lt0, nI_0le, nI_0lt, nI_le0, nI_eq0, nI_clamp, nI_add, bu_nI, bb_0, bb_1, rf_s, rf_n, tl_s, tl_n, am_th_some, if_true, if_false, sI_eq, uI_eq, and_self, true_and, and_true, not_false_eq_true, not_true_eq_false, Nat.reduceEqDiff, Nat.reduceLeDiff, Nat.reduceLT, Nat.reduceAdd, Nat.reduceMul, Nat.reduceSub, Nat.zero_add, r0, g1, q', hne]
  · have hsa : sp_sk L B a = a := sk_e (by omega)
    rw [hsa]
    have q' : 240 ≤ i := by omega
    refine ⟨I, C0, ?_, fr_rf, h, by omega, fun _ => (List.append_nil C0).symm⟩
    rw [s41_8]
    simp (disch := first | omega | assumption) only [s41_0, s41_1, s41_2, s41_5, s41_6, s41_7, s41_9, s41_12, s41_13, s41_16, s41_19, s41_20, s41_23, s41_25, s41_28, s41_31, s41_32, s41_35, s41_38, s41_40, s41_41, s41_44, s41_47, s41_48, s41_49, s41_52, s41_53, s41_54, s41_57, s41_59, s41_60, s41_63, s41_66, s41_69, s41_70, nI_le2, nI_lt2, nI_eq2, nI_lt0, nI_0le, nI_0lt, nI_le0, nI_eq0, nI_clamp, nI_add, bu_nI, bb_0, bb_1, rf_s, rf_n, tl_s, tl_n, am_th_some, if_true, if_false, sI_eq, uI_eq, and_self, true_and, and_true, not_false_eq_true, not_true_eq_false, Nat.reduceEqDiff, Nat.reduceLeDiff, Nat.reduceLT, Nat.reduceAdd, Nat.reduceMul, Nat.reduceSub, Nat.zero_add, r0, q', hne]
theorem zc_sBad (hk : tp_ok L B) (haL : a ≤ L) (ha1 : a1 ≤ L) (e : sp_in 3 (sp_hr L B (sp_sk L B a))) (hN : 4 ≤ N) (hi : zc_K L B N 42 [.ref (am_mk 4 0), .int (nI dp)] (sp_sk L B a + 1) false a1 C1) : zc_W L B (N + 1) 41 8 (zc_ls dp) a false a1 [] := by
  intro d I R Q C0 i l hN' hr h hl hia
  obtain ⟨d, rfl⟩ : ∃ q, d = q + 4 := ⟨d - 4, by omega⟩
  have hs := sk_L (B := B) haL
  have hL := hk.1
  have hlt := hr_in (by decide) e
  have hx := hr_le (a := sp_sk L B a) hk
  have hx0 : 0 < sp_hr L B (sp_sk L B a) := Nat.pos_of_ne_zero (fun w => by rw [hr_0 hk] at w; exact w hlt)
  have hne : ((nI 1 : Int32) = 0) = False := by decide
  obtain ⟨J1, g1, f1, h1⟩ := zc_oneOf (d := d + 1) (Q := Q) hr hk h haL (j := 3) (by decide)
  rw [if_pos e] at g1
  obtain ⟨J2, g2, f2, h2⟩ := zc_sign (d := d + 2) (Q := Q) hr hk h1 hs.2
  rw [sk_sk] at g2 h2
  obtain ⟨J3, g3, f3, h3⟩ := zc_pass (d := d + 3) (R := R) (Q := Q) hk h2 hlt
  obtain ⟨J4, C4, g4, f4, h4, l4, -⟩ := hi (d + 3) J3 R Q C0 (by omega) hr h3 (by omega)
  rw [if_neg (by decide)] at g4
  obtain ⟨J5, g5, f5, h5⟩ := zc_add (d := d + 3) (Q := Q) hr h4 (by omega) (10000 + sp_hr L B (sp_sk L B a))
  rw [← zl_neg hx0] at g5
  have r0 := hr.2.2.1
  have r1 := hr.2.2.2
  have q' : ¬ 240 ≤ i := by omega
  refine ⟨J5, _, ?_, fr_tr (fr_tr (fr_tr (fr_tr f1 f2) f3) f4) f5, h5, ?_, fun w => by cases w⟩
  · rw [s41_8]
    simp (disch := first | omega | assumption) only [s41_0, s41_1, s41_2, s41_5, s41_6, s41_7, s41_9, s41_12, s41_13, s41_16, s41_19, s41_20, s41_23, s41_25, s41_28, s41_31, s41_32, s41_35, s41_38, s41_40, s41_41, s41_44, s41_47, s41_48, s41_49, s41_52, s41_53, s41_54, s41_57, s41_59, s41_60, s41_63, s41_66, s41_69, s41_70, nI_le2, nI_lt2, nI_eq2, nI_lt0, nI_0le, nI_0lt, nI_le0, nI_eq0, nI_clamp, nI_add, bu_nI, bb_0, bb_1, rf_s, rf_n, tl_s, tl_n, am_th_some, if_true, if_false, sI_eq, uI_eq, and_self, true_and, and_true, not_false_eq_true, not_true_eq_false, Nat.reduceEqDiff, Nat.reduceLeDiff, Nat.reduceLT, Nat.reduceAdd, Nat.reduceMul, Nat.reduceSub, Nat.zero_add, r0, r1, g1, g2, g3, g4, g5, q', hne]
    rw [s41_8]
    simp (disch := first | omega | assumption) only [s41_0, s41_1, s41_2, s41_5, s41_6, s41_7, s41_9, s41_12, s41_13, s41_16, s41_19, s41_20, s41_23, s41_25, s41_28, s41_31, s41_32, s41_35, s41_38, s41_40, s41_41, s41_44, s41_47, s41_48, s41_49, s41_52, s41_53, s41_54, s41_57, s41_59, s41_60, s41_63, s41_66, s41_69, s41_70, nI_le2, nI_lt2, nI_eq2, nI_lt0, nI_0le, nI_0lt, nI_le0, nI_eq0, nI_clamp, nI_add, bu_nI, bb_0, bb_1, rf_s, rf_n, tl_s, tl_n, am_th_some, if_true, if_false, sI_eq, uI_eq, and_self, true_and, and_true, not_false_eq_true, not_true_eq_false, Nat.reduceEqDiff, Nat.reduceLeDiff, Nat.reduceLT, Nat.reduceAdd, Nat.reduceMul, Nat.reduceSub, Nat.zero_add, Bool.false_eq_true]
  · rw [List.length_append, List.length_singleton]; omega
theorem zc_sGo (hk : tp_ok L B) (haL : a ≤ L) (ha1 : a1 ≤ L) (e : sp_in 3 (sp_hr L B (sp_sk L B a))) (hN : 4 ≤ N) (hi : zc_K L B N 42 [.ref (am_mk 4 0), .int (nI dp)] (sp_sk L B a + 1) true a1 C1) (hc : sp_sk L B a + 1 ≤ a1) (hw : zc_W L B (N + 1) 41 8 (zc_ls dp) a1 ok' a' C') : zc_W L B (N + 1) 41 8 (zc_ls dp) a ok' a' (C1 ++ (10000 + sp_hr L B (sp_sk L B a)) :: C') := by
  intro d I R Q C0 i l hN' hr h hl hia
  obtain ⟨d, rfl⟩ : ∃ q, d = q + 4 := ⟨d - 4, by omega⟩
  have hs := sk_L (B := B) haL
  have hL := hk.1
  have hlt := hr_in (by decide) e
  have hx := hr_le (a := sp_sk L B a) hk
  have hx0 : 0 < sp_hr L B (sp_sk L B a) := Nat.pos_of_ne_zero (fun w => by rw [hr_0 hk] at w; exact w hlt)
  have hne : ((nI 1 : Int32) = 0) = False := by decide
  obtain ⟨J1, g1, f1, h1⟩ := zc_oneOf (d := d + 1) (Q := Q) hr hk h haL (j := 3) (by decide)
  rw [if_pos e] at g1
  obtain ⟨J2, g2, f2, h2⟩ := zc_sign (d := d + 2) (Q := Q) hr hk h1 hs.2
  rw [sk_sk] at g2 h2
  obtain ⟨J3, g3, f3, h3⟩ := zc_pass (d := d + 3) (R := R) (Q := Q) hk h2 hlt
  obtain ⟨J4, C4, g4, f4, h4, l4, k4⟩ := hi (d + 3) J3 R Q C0 (by omega) hr h3 (by omega)
  have k4 := k4 rfl
  rw [if_pos rfl] at g4
  obtain ⟨J5, g5, f5, h5⟩ := zc_add (d := d + 3) (Q := Q) hr h4 (by omega) (10000 + sp_hr L B (sp_sk L B a))
  rw [← zl_neg hx0] at g5
  have hlen : (C4 ++ [10000 + sp_hr L B (sp_sk L B a)]).length = C4.length + 1 := by rw [List.length_append, List.length_singleton]
  obtain ⟨J6, C6, g6, f6, h6, l6, k6⟩ := hw (d + 4) J5 R Q _ (i + 1) (.int (nI (sp_hr L B (sp_sk L B a)))) hN' hr h5 (by rw [hlen]; omega) (by omega)
  have r0 := hr.2.2.1
  have r1 := hr.2.2.2
  have q' : ¬ 240 ≤ i := by omega
  refine ⟨J6, C6, ?_, fr_tr (fr_tr (fr_tr (fr_tr (fr_tr f1 f2) f3) f4) f5) f6, h6, by rw [hlen] at l6; omega, fun w => ?_⟩
  · rw [s41_8]
    simp (disch := first | omega | assumption) only [s41_0, s41_1, s41_2, s41_5, s41_6, s41_7, s41_9, s41_12, s41_13, s41_16, s41_19, s41_20, s41_23, s41_25, s41_28, s41_31, s41_32, s41_35, s41_38, s41_40, s41_41, s41_44, s41_47, s41_48, s41_49, s41_52, s41_53, s41_54, s41_57, s41_59, s41_60, s41_63, s41_66, s41_69, s41_70, nI_le2, nI_lt2, nI_eq2, nI_lt0, nI_0le, nI_0lt, nI_le0, nI_eq0, nI_clamp, nI_add, bu_nI, bb_0, bb_1, rf_s, rf_n, tl_s, tl_n, am_th_some, if_true, if_false, sI_eq, uI_eq, and_self, true_and, and_true, not_false_eq_true, not_true_eq_false, Nat.reduceEqDiff, Nat.reduceLeDiff, Nat.reduceLT, Nat.reduceAdd, Nat.reduceMul, Nat.reduceSub, Nat.zero_add, r0, r1, g1, g2, g3, g4, g5, q', hne]
    exact g6
  · rw [k6 w, k4]
    simp
theorem zc_sFail (hN : 4 ≤ N) (hi : zc_K L B N 42 [.ref (am_mk 4 0), .int (nI dp)] a false a1 C1) : zc_K L B (N + 1) 41 [.ref (am_mk 4 0), .int (nI dp)] a false a1 [] := by
  intro d I R Q C0 hN' hr h hl
  obtain ⟨d, rfl⟩ : ∃ q, d = q + 4 := ⟨d - 4, by omega⟩
  obtain ⟨J4, C4, g4, f4, h4, l4, -⟩ := hi (d + 3) I R Q C0 (by omega) hr h hl
  rw [if_neg (by decide)] at g4
  refine ⟨J4, C4, ?_, f4, h4, l4, fun w => by cases w⟩
  rw [s41]
  simp (disch := first | omega | assumption) only [s41_0, s41_1, s41_2, s41_5, s41_6, s41_7, s41_8, s41_9, s41_12, s41_13, s41_16, s41_19, s41_20, s41_23, s41_25, s41_28, s41_31, s41_32, s41_35, s41_38, s41_40, s41_41, s41_44, s41_47, s41_48, s41_49, s41_52, s41_53, s41_54, s41_57, s41_59, s41_60, s41_63, s41_66, s41_69, s41_70, nI_le2, nI_lt2, nI_eq2, nI_lt0, nI_0le, nI_0lt, nI_le0, nI_eq0, nI_clamp, nI_add, bu_nI, bb_0, bb_1, rf_s, rf_n, tl_s, tl_n, am_th_some, if_true, if_false, sI_eq, uI_eq, and_self, true_and, and_true, not_false_eq_true, not_true_eq_false, Nat.reduceEqDiff, Nat.reduceLeDiff, Nat.reduceLT, Nat.reduceAdd, Nat.reduceMul, Nat.reduceSub, Nat.zero_add, g4, Bool.false_eq_true]
theorem zc_sAll (hN : 4 ≤ N) (haa : a ≤ a1) (hi : zc_K L B N 42 [.ref (am_mk 4 0), .int (nI dp)] a true a1 C1) (hw : zc_W L B (N + 1) 41 8 (zc_ls dp) a1 ok' a' C') : zc_K L B (N + 1) 41 [.ref (am_mk 4 0), .int (nI dp)] a ok' a' (C1 ++ C') := by
  intro d I R Q C0 hN' hr h hl
  obtain ⟨d, rfl⟩ : ∃ q, d = q + 4 := ⟨d - 4, by omega⟩
  obtain ⟨J4, C4, g4, f4, h4, l4, k4⟩ := hi (d + 3) I R Q C0 (by omega) hr h hl
  have k4 := k4 rfl
  rw [if_pos rfl] at g4
  obtain ⟨J6, C6, g6, f6, h6, l6, k6⟩ := hw (d + 4) J4 R Q C4 0 am_J hN' hr h4 (by omega) (by omega)
  refine ⟨J6, C6, ?_, fr_tr f4 f6, h6, by omega, fun w => by rw [k6 w, k4, List.append_assoc]⟩
  rw [s41]
  simp (disch := first | omega | assumption) only [s41_0, s41_1, s41_2, s41_5, s41_6, s41_7, s41_9, s41_12, s41_13, s41_16, s41_19, s41_20, s41_23, s41_25, s41_28, s41_31, s41_32, s41_35, s41_38, s41_40, s41_41, s41_44, s41_47, s41_48, s41_49, s41_52, s41_53, s41_54, s41_57, s41_59, s41_60, s41_63, s41_66, s41_69, s41_70, nI_le2, nI_lt2, nI_eq2, nI_lt0, nI_0le, nI_0lt, nI_le0, nI_eq0, nI_clamp, nI_add, bu_nI, bb_0, bb_1, rf_s, rf_n, tl_s, tl_n, am_th_some, if_true, if_false, sI_eq, uI_eq, and_self, true_and, and_true, not_false_eq_true, not_true_eq_false, Nat.reduceEqDiff, Nat.reduceLeDiff, Nat.reduceLT, Nat.reduceAdd, Nat.reduceMul, Nat.reduceSub, Nat.zero_add, g4]
  exact g6
end
