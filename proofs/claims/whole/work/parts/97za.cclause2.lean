/-! LUNCH texts: a CLAUSE is read; the class. -/
def zkd (x : Nat) : Nat := if x = 115 then 0 else if x = 102 then 1 else if x = 109 then 2 else if x = 100 then 3 else 4
theorem zkd_c : ∀ k, k < 4 → ∀ x, x < 256 → (zkd x = k ↔ x = zC k) := by decide +kernel
theorem zkd_in : ∀ x, x < 256 → (zkd x < 4 ↔ sp_in 6 x) ∧ zkd x ≤ 4 := by decide +kernel
def zu0 (k : Nat) : Nat → Nat := fun j => zUs (zF k + j)
theorem zu0_in {k : Nat} (hk : k < 4) : zd_in k (zu0 k) := fun j hj => by
  obtain ⟨f1, f2, f3, f4⟩ := zM_F k hk
  obtain ⟨v1, v2, v3⟩ := zV_ok (zF k + j) (by omega)
  exact ⟨v1, v2⟩
theorem zn_add {E : zE} {k : Nat} {V : Nat → Nat} (hk : k < 4) (h : zd_n E k < zX k) : ∀ i, i < 4 → zd_n (zd_add E k V) i = if i = k then zd_n E k + 1 else zd_n E i := by
  intro i hi
  obtain ⟨o, ov, F, M, D⟩ := E
  rcases (show k = 0 ∨ k = 1 ∨ k = 2 ∨ k = 3 by omega) with rfl | rfl | rfl | rfl <;> rcases (show i = 0 ∨ i = 1 ∨ i = 2 ∨ i = 3 by omega) with rfl | rfl | rfl | rfl <;> simp [zd_n, zd_add]
  cases o
  · rfl
  · exact absurd h (Nat.lt_irrefl 1)
section
variable {d L a k u : Nat} {I : am_I} {R : am_R} {Q : am_Q} {B : Nat → Nat} {E : zE}
theorem find_6 (hs : st_at I) {x : Nat} (hx : x < 256) (h : zkd x < 4) : am_find (I 101 6) (nI x) 4 0 = nI (zkd x) := by
  have s0 : I 101 6 0 = nI 115 := hs 6 0 (by decide) (by decide)
  have s1 : I 101 6 1 = nI 102 := hs 6 1 (by decide) (by decide)
  have s2 : I 101 6 2 = nI 109 := hs 6 2 (by decide) (by decide)
  have s3 : I 101 6 3 = nI 100 := hs 6 3 (by decide) (by decide)
  unfold am_find am_find am_find am_find am_find
  simp only [Nat.zero_add, Nat.reduceAdd, s0, s1, s2, s3]
  have nx : ∀ c, c < 2 ^ 31 → ¬ x = c → ¬ nI c = nI x := fun c hc h w => h (by rw [nI_eq2 hc (by omega)] at w; omega)
  by_cases q1 : x = 115
  · subst q1; rfl
  · by_cases q2 : x = 102
    · subst q2; rfl
    · by_cases q3 : x = 109
      · subst q3; rfl
      · by_cases q4 : x = 100
        · subst q4; rfl
        · exfalso
          unfold zkd at h
          rw [if_neg q1, if_neg q2, if_neg q3, if_neg q4] at h
          omega
theorem zs_sign (hr : ze_R R u) (hk : tp_ok L B) (h : zs_at I L B a) (haL : a ≤ L) : ∃ J, am_cal (d + 1) 90 [.ref (am_mk 10 0)] I R Q = some (some (.int (nI (sp_hr L B (sp_sk L B a)))), J, R, Q) ∧ am_fr tc_S I J ∧ zs_at J L B (sp_sk L B a) := by
  obtain ⟨J, g1, g2, g3⟩ := c_sign (d := d) (Q := Q) hr.1 hk h.1 h.2.2.2 haL
  exact ⟨J, g1, g2, tc_fr h.1 g2 (fun w => by unfold tc_S at w; omega) (fun j w => by unfold tc_S at w; omega), st_fr h.2.1 g2 (fun a b w => by unfold tc_S at w; omega), sx_fr h.2.2.1 g2 (fun a j _ _ w => by unfold tc_S at w; omega), g3⟩
theorem zs_oneOf6 (hr : ze_R R u) (hk : tp_ok L B) (h : zs_at I L B a) (haL : a ≤ L) : ∃ J, am_cal (d + 2) 91 [.ref (am_mk 10 0), .ref (am_mk 100 6)] I R Q = some (some (.int (if sp_in 6 (sp_hr L B (sp_sk L B a)) then nI 1 else nI 0)), J, R, Q) ∧ am_fr tc_S I J ∧ zs_at J L B (sp_sk L B a) := by
  obtain ⟨J, g1, g2, g3⟩ := c_oneOf (d := d) (Q := Q) hr.1 hk h.1 h.2.1 h.2.2.2 haL (j := 6) (by decide)
  exact ⟨J, g1, g2, tc_fr h.1 g2 (fun w => by unfold tc_S at w; omega) (fun j w => by unfold tc_S at w; omega), st_fr h.2.1 g2 (fun a b w => by unfold tc_S at w; omega), sx_fr h.2.2.1 g2 (fun a j _ _ w => by unfold tc_S at w; omega), g3⟩
theorem ze_t {J : am_I} (h : am_fr tc_S I J) : am_fr (ze_S u) I J := fr_mo h fun a b j w => Or.inl (Or.inl w)
/-- no CLAUSE can begin here -/
theorem c_clNo (hr : ze_R R u) (hk : tp_ok L B) (h : zs_at I L B a) (haL : a ≤ L) (ho : zd_o I E) (e : zkd (sp_hr L B (sp_sk L B a)) < 4 → zX (zkd (sp_hr L B (sp_sk L B a))) ≤ zd_n E (zkd (sp_hr L B (sp_sk L B a)))) (hE : zd_n E (zkd (sp_hr L B (sp_sk L B a))) < 1000) : ∃ J, am_cal (d + 4) 61 [.ref (am_mk 7 0)] I R Q = some (some (.int (nI 0)), J, R, Q) ∧ am_fr (ze_S u) I J ∧ J 10 0 2 = nI (sp_sk L B a) := by
  obtain ⟨-, r0, r1, r2, r3, r4, r5, q0, q1, q2, q3, q4, q6, p0, p1, p2, p3⟩ := id hr
  have hs := sk_L (B := B) haL
  have hx := hr_le (a := sp_sk L B a) hk
  have hne : ((nI 1 : Int32) = 0) = False := by decide
  have hm : (-nI 1 : Int32) < 0 := by decide
  obtain ⟨J1, g1, f1, h1⟩ := zs_oneOf6 (d := d + 1) (Q := Q) hr hk h haL
  obtain ⟨i1, i2⟩ := zkd_in (sp_hr L B (sp_sk L B a)) (by omega)
  by_cases q : sp_in 6 (sp_hr L B (sp_sk L B a))
  · rw [if_pos q] at g1
    have hq4 := i1.mpr q
    obtain ⟨J2, g2, f2, h2⟩ := zs_sign (d := d + 2) (Q := Q) hr hk h1 hs.2
    rw [sk_sk] at g2 h2
    have hc := i2c_nI (sp_hr L B (sp_sk L B a)) (by omega)
    have hi := c_indexOf (d := d + 3) (I := J2) (R := R) (Q := Q) (j := 6) (by decide) (x := nI (sp_hr L B (sp_sk L B a)))
    rw [show (am_strs.getD 6 []).length = 4 from rfl, find_6 h2.2.1 (by omega) hq4] at hi
    have ft := fr_tr f1 f2
    have ho2 := (ft _ _ _ (fun w => by unfold tc_S at w; omega)).trans (ho _ hq4)
    have hx2 := sx_0 h2.2.2.1 hq4
    have e := e hq4
    generalize zkd (sp_hr L B (sp_sk L B a)) = y at *
    have n1 : ¬ 4 ≤ y := by omega
    have n2 : ¬ zd_n E y < zX y := by omega
    have n3 : zX y ≤ 12 := (show ∀ k, k < 4 → zX k ≤ 12 by decide) y hq4
    refine ⟨J2, ?_, ze_t ft, h2.2.2.2⟩
    rw [s61]
    simp (disch := first | omega | assumption) only [s61_0, s61_1, s61_4, s61_6, s61_9, s61_12, s61_14, s61_15, s61_18, s61_21, s61_22, s61_25, s61_28, s61_29, s61_30, s61_31, s61_34, s61_35, s61_36, s61_39, s61_40, s61_43, s61_44, s61_47, s61_48, s61_49, s61_52, s61_53, s61_54, s61_57, s61_58, s61_59, s61_60, s61_63, s61_66, s61_67, s61_70, s61_71, s61_72, s61_73, s61_74, s61_75, s61_76, s61_79, s61_80, s61_81, s61_82, s61_85, s61_86, s61_87, s61_88, s61_89, s61_90, s61_91, s61_93, s61_95, s61_96, s61_99, s61_100, s61_103, s61_105, s61_108, s61_110, s61_111, s61_112, s61_113, s61_116, s61_118, s61_119, s61_120, s61_123, s61_126, s61_127, s61_129, s61_131, s61_132, s61_135, s61_136, s61_139, s61_142, s61_144, s61_147, s61_148, s61_151, s61_154, s61_157, s61_158, s61_159, s61_162, s61_163, s61_164, s61_165, s61_166, s61_167, s61_170, s61_173, s61_174, s61_175, s61_178, s61_181, s61_182, nI_le2, nI_lt2, nI_eq2, nI_lt0, nI_0le, nI_0lt, nI_le0, nI_eq0, nI_clamp, nI_add, bu_nI, bb_0, bb_1, rf_s, rf_n, tl_s, tl_n, am_th_some, if_true, if_false, sI_eq, uI_eq, and_self, true_and, and_true, not_false_eq_true, not_true_eq_false, Nat.reduceEqDiff, Nat.reduceLeDiff, Nat.reduceLT, Nat.reduceAdd, Nat.reduceMul, Nat.reduceSub, Nat.zero_add, r0, r2, g1, g2, hne, hc, hi, n1, hq4, ho2, hx2, n2]
  · rw [if_neg q] at g1
    refine ⟨J1, ?_, ze_t f1, h1.2.2.2⟩
    rw [s61]
    simp (disch := first | omega | assumption) only [s61_0, s61_1, s61_4, s61_6, s61_9, s61_12, s61_14, s61_15, s61_18, s61_21, s61_22, s61_25, s61_28, s61_29, s61_30, s61_31, s61_34, s61_35, s61_36, s61_39, s61_40, s61_43, s61_44, s61_47, s61_48, s61_49, s61_52, s61_53, s61_54, s61_57, s61_58, s61_59, s61_60, s61_63, s61_66, s61_67, s61_70, s61_71, s61_72, s61_73, s61_74, s61_75, s61_76, s61_79, s61_80, s61_81, s61_82, s61_85, s61_86, s61_87, s61_88, s61_89, s61_90, s61_91, s61_93, s61_95, s61_96, s61_99, s61_100, s61_103, s61_105, s61_108, s61_110, s61_111, s61_112, s61_113, s61_116, s61_118, s61_119, s61_120, s61_123, s61_126, s61_127, s61_129, s61_131, s61_132, s61_135, s61_136, s61_139, s61_142, s61_144, s61_147, s61_148, s61_151, s61_154, s61_157, s61_158, s61_159, s61_162, s61_163, s61_164, s61_165, s61_166, s61_167, s61_170, s61_173, s61_174, s61_175, s61_178, s61_181, s61_182, nI_le2, nI_lt2, nI_eq2, nI_lt0, nI_0le, nI_0lt, nI_le0, nI_eq0, nI_clamp, nI_add, bu_nI, bb_0, bb_1, rf_s, rf_n, tl_s, tl_n, am_th_some, if_true, if_false, sI_eq, uI_eq, and_self, true_and, and_true, not_false_eq_true, not_true_eq_false, Nat.reduceEqDiff, Nat.reduceLeDiff, Nat.reduceLT, Nat.reduceAdd, Nat.reduceMul, Nat.reduceSub, Nat.zero_add, r0, r2, g1, hm]
/-- up to the first ITEM -/
theorem c_clGo (hr : ze_R R u) (hk : tp_ok L B) (h : zs_at I L B a) (haL : a ≤ L) (ho : zd_o I E) (e : zkd (sp_hr L B (sp_sk L B a)) = k) (hk4 : k < 4) (hn : zd_n E k < zX k) : ∃ J, am_cal (d + 4) 61 [.ref (am_mk 7 0)] I R Q = am_ev (d + 4) 61 129 [.ref (am_mk 7 0), .int (nI k), .int (nI (zF k)), .int (nI (zF k + zM k)), .int (nI (zF k + zpc 0 (zM k)))] [] J R Q ∧ am_fr (fun a b j => zi_S a b j ∨ (a = 23 ∧ b = 0)) I J ∧ zi_at J L B (sp_sk L B a + 1) k 0 (zu0 k) ∧ (∀ i, i < 4 → J 23 0 i = nI (if i = k then zd_n E k + 1 else zd_n E i)) := by
  obtain ⟨-, r0, r1, r2, r3, r4, r5, q0, q1, q2, q3, q4, q6, p0, p1, p2, p3⟩ := id hr
  have hs := sk_L (B := B) haL
  have hx := hr_le (a := sp_sk L B a) hk
  have hne : ((nI 1 : Int32) = 0) = False := by decide
  obtain ⟨m1, m2, m3, m4⟩ := zM_F k hk4
  obtain ⟨i1, i2⟩ := zkd_in (sp_hr L B (sp_sk L B a)) (by omega)
  have hq4 : zkd (sp_hr L B (sp_sk L B a)) < 4 := by omega
  have hin := i1.mp hq4
  have hlt := hr_in (by decide) hin
  obtain ⟨J1, g1, f1, h1⟩ := zs_oneOf6 (d := d + 1) (Q := Q) hr hk h haL
  rw [if_pos hin] at g1
  obtain ⟨J2, g2, f2, h2⟩ := zs_sign (d := d + 2) (Q := Q) hr hk h1 hs.2
  rw [sk_sk] at g2 h2
  have hc := i2c_nI (sp_hr L B (sp_sk L B a)) (by omega)
  have hi := c_indexOf (d := d + 3) (I := J2) (R := R) (Q := Q) (j := 6) (by decide) (x := nI (sp_hr L B (sp_sk L B a)))
  rw [show (am_strs.getD 6 []).length = 4 from rfl, find_6 h2.2.1 (by omega) hq4, e] at hi
  have ft := fr_tr f1 f2
  have ho2 : J2 23 0 k = nI (zd_n E k) := (ft _ _ _ (fun w => by unfold tc_S at w; omega)).trans (ho _ hk4)
  have hx2 := sx_0 h2.2.2.1 hk4
  have n1 : ¬ 4 ≤ k := by omega
  have n3 : zX k ≤ 12 := (show ∀ k, k < 4 → zX k ≤ 12 by decide) k hk4
  obtain ⟨J3, g3, f3, a3⟩ := c_tpass (d := d + 3) (R := R) (Q := Q) h2.1 hk.1 h2.2.2.2 hs.2
  rw [if_pos hlt] at a3
  have ft3 := fr_tr ft f3
  have ho3 : J3 23 0 k = nI (zd_n E k) := (f3 _ _ _ (fun w => by unfold tc_S at w; omega)).trans ho2
  obtain ⟨X4, x4, y4, f4⟩ := wr J3 23 0 k (nI (zd_n E k + 1))
  have hsx3 := sx_fr h2.2.2.1 f3 (fun a j _ _ w => by unfold tc_S at w; omega)
  have hsx4 := sx_fr hsx3 f4 (fun a j _ _ w => by omega)
  have s1 := sx_1 hsx4 (k := k) (by omega)
  have s2 := sx_1 hsx4 (k := k + 1) (by omega)
  rw [m1] at s2
  have hk5 : k + 1 < 5 := by omega
  have hk5' : k < 5 := by omega
  -- the values are the usual ones
  have loop : ∃ J, am_ev (d + 4) 61 93 [.ref (am_mk 7 0), .int (nI k), .int (nI (zF k)), .int (nI (zF k + zM k)), .int (nI (zF k + 0))] [] X4 R Q = am_ev (d + 4) 61 129 [.ref (am_mk 7 0), .int (nI k), .int (nI (zF k)), .int (nI (zF k + zM k)), .int (nI (zF k))] [] J R Q ∧ am_fr (fun a _ _ => a = 24 ∨ a = 25) X4 J ∧ ∀ j, j < zM k → J 24 0 (zF k + j) = nI (zu0 k j) ∧ J 25 0 (zF k + j) = nI 0 := by
    refine loop_inv (f := fun J c => am_ev (d + 4) 61 93 [.ref (am_mk 7 0), .int (nI k), .int (nI (zF k)), .int (nI (zF k + zM k)), .int (nI (zF k + c))] [] J R Q) (Inv := fun c J => am_fr (fun a _ _ => a = 24 ∨ a = 25) X4 J ∧ ∀ j, j < c → J 24 0 (zF k + j) = nI (zu0 k j) ∧ J 25 0 (zF k + j) = nI 0) (Post := fun y => ∃ J, y = am_ev (d + 4) 61 129 [.ref (am_mk 7 0), .int (nI k), .int (nI (zF k)), .int (nI (zF k + zM k)), .int (nI (zF k))] [] J R Q ∧ am_fr (fun a _ _ => a = 24 ∨ a = 25) X4 J ∧ ∀ j, j < zM k → J 24 0 (zF k + j) = nI (zu0 k j) ∧ J 25 0 (zF k + j) = nI 0) (n := zM k) ?_ ?_ (Nat.zero_le _) ⟨fr_rf, fun j hj => absurd hj (Nat.not_lt_zero _)⟩
    · intro c J hc ⟨f, g⟩
      left
      have n5 : ¬ zF k + zM k ≤ zF k + c := by omega
      have n6 : zF k + c < 14 := by omega
      have su := sx_4 (sx_fr hsx4 f (fun a j _ _ w => by omega)) n6
      obtain ⟨X5, x5, y5, f5⟩ := wr J 24 0 (zF k + c) (nI (zUs (zF k + c)))
      obtain ⟨X6, x6, y6, f6⟩ := wr X5 25 0 (zF k + c) (nI 0)
      refine ⟨X6, ?_, fr_tr (fr_tr f (fr_mo f5 fun a b j w => by omega)) (fr_mo f6 fun a b j w => by omega), fun j hj => ?_⟩
      · rw [s61_93]
        simp (disch := first | omega | assumption) only [s61_0, s61_1, s61_4, s61_6, s61_9, s61_12, s61_14, s61_15, s61_18, s61_21, s61_22, s61_25, s61_28, s61_29, s61_30, s61_31, s61_34, s61_35, s61_36, s61_39, s61_40, s61_43, s61_44, s61_47, s61_48, s61_49, s61_52, s61_53, s61_54, s61_57, s61_58, s61_59, s61_60, s61_63, s61_66, s61_67, s61_70, s61_71, s61_72, s61_73, s61_74, s61_75, s61_76, s61_79, s61_80, s61_81, s61_82, s61_85, s61_86, s61_87, s61_88, s61_89, s61_90, s61_91, s61_95, s61_96, s61_99, s61_100, s61_103, s61_105, s61_108, s61_110, s61_111, s61_112, s61_113, s61_116, s61_118, s61_119, s61_120, s61_123, s61_126, s61_127, s61_131, s61_132, s61_135, s61_136, s61_139, s61_142, s61_144, s61_147, s61_148, s61_151, s61_154, s61_157, s61_158, s61_159, s61_162, s61_163, s61_164, s61_165, s61_166, s61_167, s61_170, s61_173, s61_174, s61_175, s61_178, s61_181, s61_182, nI_le2, nI_lt2, nI_eq2, nI_lt0, nI_0le, nI_0lt, nI_le0, nI_eq0, nI_clamp, nI_add, bu_nI, bb_0, bb_1, rf_s, rf_n, tl_s, tl_n, am_th_some, if_true, if_false, sI_eq, uI_eq, and_self, true_and, and_true, not_false_eq_true, not_true_eq_false, Nat.reduceEqDiff, Nat.reduceLeDiff, Nat.reduceLT, Nat.reduceAdd, Nat.reduceMul, Nat.reduceSub, Nat.zero_add, r3, r4, n5, n6, su, x5, x6]
        rfl
      · by_cases q : j = c
        · rw [q]; exact ⟨by rw [f6 _ _ _ (by omega)]; exact y5, y6⟩
        · rw [f6 _ _ _ (by omega), f5 _ _ _ (by omega), f6 _ _ _ (by omega), f5 _ _ _ (by omega)]
          exact g j (by omega)
    · intro J ⟨f, g⟩
      refine ⟨J, ?_, f, g⟩
      have n5 : zF k + zM k ≤ zF k + zM k := Nat.le_refl _
      rw [s61_93]
      simp (disch := first | omega | assumption) only [s61_0, s61_1, s61_4, s61_6, s61_9, s61_12, s61_14, s61_15, s61_18, s61_21, s61_22, s61_25, s61_28, s61_29, s61_30, s61_31, s61_34, s61_35, s61_36, s61_39, s61_40, s61_43, s61_44, s61_47, s61_48, s61_49, s61_52, s61_53, s61_54, s61_57, s61_58, s61_59, s61_60, s61_63, s61_66, s61_67, s61_70, s61_71, s61_72, s61_73, s61_74, s61_75, s61_76, s61_79, s61_80, s61_81, s61_82, s61_85, s61_86, s61_87, s61_88, s61_89, s61_90, s61_91, s61_95, s61_96, s61_99, s61_100, s61_103, s61_105, s61_108, s61_110, s61_111, s61_112, s61_113, s61_116, s61_118, s61_119, s61_120, s61_123, s61_126, s61_127, s61_131, s61_132, s61_135, s61_136, s61_139, s61_142, s61_144, s61_147, s61_148, s61_151, s61_154, s61_157, s61_158, s61_159, s61_162, s61_163, s61_164, s61_165, s61_166, s61_167, s61_170, s61_173, s61_174, s61_175, s61_178, s61_181, s61_182, nI_le2, nI_lt2, nI_eq2, nI_lt0, nI_0le, nI_0lt, nI_le0, nI_eq0, nI_clamp, nI_add, bu_nI, bb_0, bb_1, rf_s, rf_n, tl_s, tl_n, am_th_some, if_true, if_false, sI_eq, uI_eq, and_self, true_and, and_true, not_false_eq_true, not_true_eq_false, Nat.reduceEqDiff, Nat.reduceLeDiff, Nat.reduceLT, Nat.reduceAdd, Nat.reduceMul, Nat.reduceSub, Nat.zero_add, n5]
  obtain ⟨J, g, f, v⟩ := loop
  have fAll : am_fr (fun a b j => zi_S a b j ∨ (a = 23 ∧ b = 0)) I J := fr_tr (fr_tr (fr_mo ft3 fun a b j w => Or.inl (Or.inl w)) (fr_mo f4 fun a b j w => Or.inr ⟨w.1, w.2.1⟩)) (fr_mo f fun a b j w => Or.inl (Or.inr w))
  have f4J := fr_tr (fr_mo (T := fun a b j => a = 23 ∨ a = 24 ∨ a = 25) f4 fun a b j w => by omega) (fr_mo f fun a b j w => by omega)
  refine ⟨J, ?_, fAll, ⟨tc_fr (tc_fr h2.1 f3 (fun w => by unfold tc_S at w; omega) (fun j w => by unfold tc_S at w; omega)) f4J (by omega) (fun j => by omega), st_fr (st_fr h2.2.1 f3 (fun a b w => by unfold tc_S at w; omega)) f4J (fun a b => by omega), sx_fr hsx4 f (fun a j _ _ w => by omega), (f4J _ _ _ (by omega)).trans a3, fun j hj => ⟨(v j hj).1, by rw [(v j hj).2, Nat.zero_testBit]; rfl⟩⟩, fun i hi => ?_⟩
  · rw [zpc_0 _ m4, Nat.add_zero, s61]
    simp (disch := first | omega | assumption) only [s61_0, s61_1, s61_4, s61_6, s61_9, s61_12, s61_14, s61_15, s61_18, s61_21, s61_22, s61_25, s61_28, s61_29, s61_30, s61_31, s61_34, s61_35, s61_36, s61_39, s61_40, s61_43, s61_44, s61_47, s61_48, s61_49, s61_52, s61_53, s61_54, s61_57, s61_58, s61_59, s61_60, s61_63, s61_66, s61_67, s61_70, s61_71, s61_72, s61_73, s61_74, s61_75, s61_76, s61_79, s61_80, s61_81, s61_82, s61_85, s61_86, s61_87, s61_88, s61_89, s61_90, s61_91, s61_95, s61_96, s61_99, s61_100, s61_103, s61_105, s61_108, s61_110, s61_111, s61_112, s61_113, s61_116, s61_118, s61_119, s61_120, s61_123, s61_126, s61_127, s61_131, s61_132, s61_135, s61_136, s61_139, s61_142, s61_144, s61_147, s61_148, s61_151, s61_154, s61_157, s61_158, s61_159, s61_162, s61_163, s61_164, s61_165, s61_166, s61_167, s61_170, s61_173, s61_174, s61_175, s61_178, s61_181, s61_182, nI_le2, nI_lt2, nI_eq2, nI_lt0, nI_0le, nI_0lt, nI_le0, nI_eq0, nI_clamp, nI_add, bu_nI, bb_0, bb_1, rf_s, rf_n, tl_s, tl_n, am_th_some, if_true, if_false, sI_eq, uI_eq, and_self, true_and, and_true, not_false_eq_true, not_true_eq_false, Nat.reduceEqDiff, Nat.reduceLeDiff, Nat.reduceLT, Nat.reduceAdd, Nat.reduceMul, Nat.reduceSub, Nat.zero_add, r0, r2, g1, g2, hne, hc, hi, n1, hk4, ho2, hx2, hn, g3, ho3, x4, s1, s2, hk5, hk5']
    rw [Nat.add_zero] at g
    exact g
  · by_cases q : i = k
    · rw [if_pos q, q, f _ _ _ (by omega)]; exact y4
    · rw [if_neg q, f _ _ _ (by omega), f4 _ _ _ (by omega), ft3 _ _ _ (fun w => by unfold tc_S at w; omega)]; exact ho i hi
end
