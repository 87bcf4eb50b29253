/-! LUNCH texts: the beginning, the class; are CELLS apart, the model. -/
def zE0 : zE := (false, zu0 0, [], [], [])
theorem E0_ok : zd_ok zE0 := ⟨zu0_in (by decide), fun f hf => (by cases hf), fun f hf => (by cases hf), fun f hf => (by cases hf), Nat.zero_le _, Nat.zero_le _, Nat.zero_le _⟩
section
variable {d u L k : Nat} {I : am_I} {R : am_R} {Q : am_Q} {B : Nat → Nat}
theorem c_clear0 (hp : pp_R R u) (hk : k < 25) : ∃ J, am_cal d 77 [.ref (am_mk 9 u), .int (nI k)] I R Q = some (none, J, R, Q) ∧ am_fr (fun a b j => (a = 19 ∨ a = 20 ∨ a = 21 ∨ a = 22) ∧ b = u ∧ j = k) I J ∧ J 19 u k = nI 0 ∧ J 20 u k = nI 0 ∧ J 21 u k = nI 0 ∧ J 22 u k = nI 0 := by
  obtain ⟨p0, p1, p2, p3⟩ := hp
  obtain ⟨X1, x1, y1, f1⟩ := wr I 19 u k (nI 0)
  obtain ⟨X2, x2, y2, f2⟩ := wr X1 20 u k (nI 0)
  obtain ⟨X3, x3, y3, f3⟩ := wr X2 21 u k (nI 0)
  obtain ⟨X4, x4, y4, f4⟩ := wr X3 22 u k (nI 0)
  have n1 : ¬ 25 ≤ k := by omega
  refine ⟨X4, ?_, fr_tr (fr_tr (fr_tr (fr_mo f1 fun a b j w => by omega) (fr_mo f2 fun a b j w => by omega)) (fr_mo f3 fun a b j w => by omega)) (fr_mo f4 fun a b j w => by omega), ?_, ?_, ?_, y4⟩
  · rw [s77]
    simp (disch := first | omega | assumption) only [s77_0, s77_1, s77_4, s77_5, s77_7, s77_10, s77_11, s77_14, s77_15, s77_16, s77_17, s77_18, s77_21, s77_22, s77_23, s77_24, s77_25, s77_28, s77_29, s77_30, s77_31, s77_32, s77_35, s77_36, s77_37, s77_38, nI_le2, nI_lt2, nI_eq2, nI_lt0, nI_0le, nI_0lt, nI_le0, nI_eq0, nI_clamp, nI_add, bu_nI, bb_0, bb_1, rf_s, rf_n, tl_s, tl_n, am_th_some, if_true, if_false, sI_eq, uI_eq, and_self, true_and, and_true, not_false_eq_true, not_true_eq_false, Nat.reduceEqDiff, Nat.reduceLeDiff, Nat.reduceLT, Nat.reduceAdd, Nat.reduceMul, Nat.reduceSub, Nat.zero_add, p0, p1, p2, p3, n1, x1, x2, x3, x4]
  · rw [f4 _ _ _ (by omega), f3 _ _ _ (by omega), f2 _ _ _ (by omega)]; exact y1
  · rw [f4 _ _ _ (by omega), f3 _ _ _ (by omega)]; exact y2
  · rw [f4 _ _ _ (by omega)]; exact y3
def zL_S (u : Nat) : Nat → Nat → Nat → Prop := fun a b j => (ze_S u a b j ∨ (a = 16 ∧ b = u)) ∨ (a = 9 ∧ b = u ∧ j = 4) ∨ (a = 22 ∧ b = u)
theorem zL_7 {j : Nat} (h : j = 6 ∨ j = 7) {b : Nat} : zL_S u 7 b j := Or.inl (Or.inl (Or.inr (Or.inl (Or.inr (Or.inr (Or.inl ⟨rfl, h⟩))))))
theorem zL_10 {b : Nat} : zL_S u 10 b 2 := Or.inl (Or.inl (Or.inl (Or.inl ⟨rfl, rfl⟩)))
theorem zL_23 {j : Nat} : zL_S u 23 0 j := Or.inl (Or.inl (Or.inr (Or.inr ⟨rfl, rfl⟩)))
theorem zL_26 {b j : Nat} : zL_S u 26 b j := Or.inl (Or.inl (Or.inr (Or.inl (Or.inr (Or.inl rfl)))))
theorem zL_6 : zL_S u 6 u 5 := Or.inl (Or.inl (Or.inr (Or.inl (Or.inr (Or.inr (Or.inr ⟨rfl, rfl, rfl⟩))))))
theorem zL_22 {j : Nat} : zL_S u 22 u j := Or.inr (Or.inr ⟨rfl, rfl⟩)
theorem zL_a {a j : Nat} (h : a = 14 ∨ a = 15 ∨ a = 17 ∨ a = 18 ∨ a = 19 ∨ a = 20 ∨ a = 21) : zL_S u a u j := Or.inl (Or.inl (Or.inr (Or.inl (Or.inl ⟨h, rfl⟩))))
theorem c_lb1 (hr : ze_R R u) : ∃ J, am_ev (d + 1) 60 20 [.ref (am_mk 7 0), .int (nI 0)] [] I R Q = am_ev (d + 1) 60 42 [.ref (am_mk 7 0), .int (nI 4)] [] J R Q ∧ am_fr (fun a b _ => a = 23 ∧ b = 0) I J ∧ ∀ j, j < 4 → J 23 0 j = nI 0 := by
  obtain ⟨-, r0, r1, r2, r3, r4, r5, q0, q1, q2, q3, q4, q6, hp⟩ := id hr
  refine loop_inv (f := fun J c => am_ev (d + 1) 60 20 [.ref (am_mk 7 0), .int (nI c)] [] J R Q) (Inv := fun c J => am_fr (fun a b _ => a = 23 ∧ b = 0) I J ∧ ∀ j, j < c → J 23 0 j = nI 0) (Post := fun y => ∃ J, y = am_ev (d + 1) 60 42 [.ref (am_mk 7 0), .int (nI 4)] [] J R Q ∧ am_fr (fun a b _ => a = 23 ∧ b = 0) I J ∧ ∀ j, j < 4 → J 23 0 j = nI 0) (n := 4) ?_ ?_ (Nat.zero_le _) ⟨fr_rf, fun j hj => absurd hj (Nat.not_lt_zero _)⟩
  · intro c J hc ⟨f, g⟩
    left
    have n1 : ¬ 4 ≤ c := by omega
    obtain ⟨X, x, y, fx⟩ := wr J 23 0 c (nI 0)
    refine ⟨X, ?_, fr_tr f (fr_mo fx fun a b j w => ⟨w.1, w.2.1⟩), fun j hj => ?_⟩
    · rw [s60_20]
      simp (disch := first | omega | assumption) only [s60_0, s60_1, s60_4, s60_5, s60_8, s60_9, s60_10, s60_13, s60_14, s60_15, s60_18, s60_19, s60_21, s60_22, s60_25, s60_26, s60_29, s60_30, s60_33, s60_34, s60_35, s60_36, s60_39, s60_43, s60_44, s60_45, s60_47, s60_50, s60_51, s60_54, s60_55, s60_56, s60_57, s60_58, s60_61, s60_64, s60_65, s60_67, s60_68, s60_69, s60_72, s60_75, s60_76, s60_79, s60_82, s60_85, s60_86, s60_87, s60_88, s60_89, s60_92, s60_95, s60_96, s60_99, s60_100, s60_103, s60_104, s60_107, s60_108, s60_111, s60_114, s60_115, s60_118, s60_119, s60_120, s60_121, s60_124, s60_127, s60_128, s60_131, s60_132, s60_135, nI_le2, nI_lt2, nI_eq2, nI_lt0, nI_0le, nI_0lt, nI_le0, nI_eq0, nI_clamp, nI_add, bu_nI, bb_0, bb_1, rf_s, rf_n, tl_s, tl_n, am_th_some, if_true, if_false, sI_eq, uI_eq, and_self, true_and, and_true, not_false_eq_true, not_true_eq_false, Nat.reduceEqDiff, Nat.reduceLeDiff, Nat.reduceLT, Nat.reduceAdd, Nat.reduceMul, Nat.reduceSub, Nat.zero_add, r2, n1, hc, x]
    · by_cases q : j = c
      · rw [q]; exact y
      · rw [fx _ _ _ (by omega)]; exact g j (by omega)
  · intro J ⟨f, g⟩
    refine ⟨J, ?_, f, g⟩
    have n1 : 4 ≤ 4 := Nat.le_refl _
    rw [s60_20]
    simp (disch := first | omega | assumption) only [s60_0, s60_1, s60_4, s60_5, s60_8, s60_9, s60_10, s60_13, s60_14, s60_15, s60_18, s60_19, s60_21, s60_22, s60_25, s60_26, s60_29, s60_30, s60_33, s60_34, s60_35, s60_36, s60_39, s60_43, s60_44, s60_45, s60_47, s60_50, s60_51, s60_54, s60_55, s60_56, s60_57, s60_58, s60_61, s60_64, s60_65, s60_67, s60_68, s60_69, s60_72, s60_75, s60_76, s60_79, s60_82, s60_85, s60_86, s60_87, s60_88, s60_89, s60_92, s60_95, s60_96, s60_99, s60_100, s60_103, s60_104, s60_107, s60_108, s60_111, s60_114, s60_115, s60_118, s60_119, s60_120, s60_121, s60_124, s60_127, s60_128, s60_131, s60_132, s60_135, nI_le2, nI_lt2, nI_eq2, nI_lt0, nI_0le, nI_0lt, nI_le0, nI_eq0, nI_clamp, nI_add, bu_nI, bb_0, bb_1, rf_s, rf_n, tl_s, tl_n, am_th_some, if_true, if_false, sI_eq, uI_eq, and_self, true_and, and_true, not_false_eq_true, not_true_eq_false, Nat.reduceEqDiff, Nat.reduceLeDiff, Nat.reduceLT, Nat.reduceAdd, Nat.reduceMul, Nat.reduceSub, Nat.zero_add, r2, n1]
theorem c_lb2 (hr : ze_R R u) : ∃ J, am_ev (d + 1) 60 44 [.ref (am_mk 7 0), .int (nI 0)] [] I R Q = am_ev (d + 1) 60 85 [.ref (am_mk 7 0), .int (nI 25)] [] J R Q ∧ am_fr (fun a b _ => (a = 26 ∧ b = 0) ∨ ((a = 15 ∨ a = 19 ∨ a = 20 ∨ a = 21 ∨ a = 22) ∧ b = u)) I J ∧ ∀ j, j < 25 → J 26 0 j = nI 0 ∧ J 15 u j = nI 10 ∧ J 19 u j = nI 0 ∧ J 20 u j = nI 0 ∧ J 21 u j = nI 0 ∧ J 22 u j = nI 0 := by
  obtain ⟨-, r0, r1, r2, r3, r4, r5, q0, q1, q2, q3, q4, q6, hp⟩ := id hr
  refine loop_inv (f := fun J c => am_ev (d + 1) 60 44 [.ref (am_mk 7 0), .int (nI c)] [] J R Q) (Inv := fun c J => am_fr (fun a b _ => (a = 26 ∧ b = 0) ∨ ((a = 15 ∨ a = 19 ∨ a = 20 ∨ a = 21 ∨ a = 22) ∧ b = u)) I J ∧ ∀ j, j < c → J 26 0 j = nI 0 ∧ J 15 u j = nI 10 ∧ J 19 u j = nI 0 ∧ J 20 u j = nI 0 ∧ J 21 u j = nI 0 ∧ J 22 u j = nI 0) (Post := fun y => ∃ J, y = am_ev (d + 1) 60 85 [.ref (am_mk 7 0), .int (nI 25)] [] J R Q ∧ am_fr (fun a b _ => (a = 26 ∧ b = 0) ∨ ((a = 15 ∨ a = 19 ∨ a = 20 ∨ a = 21 ∨ a = 22) ∧ b = u)) I J ∧ ∀ j, j < 25 → J 26 0 j = nI 0 ∧ J 15 u j = nI 10 ∧ J 19 u j = nI 0 ∧ J 20 u j = nI 0 ∧ J 21 u j = nI 0 ∧ J 22 u j = nI 0) (n := 25) ?_ ?_ (Nat.zero_le _) ⟨fr_rf, fun j hj => absurd hj (Nat.not_lt_zero _)⟩
  · intro c J hc ⟨f, g⟩
    left
    have n1 : ¬ 25 ≤ c := by omega
    obtain ⟨X4, x4, y4, f4⟩ := wr J 26 0 c (nI 0)
    obtain ⟨X5, x5, y5, f5⟩ := wr X4 15 u c (nI 10)
    obtain ⟨X6, g6, f6, z0, z1, z2, z3⟩ := c_clear0 (d := d) (I := X5) (Q := Q) hp hc
    refine ⟨X6, ?_, fr_tr (fr_tr (fr_tr f (fr_mo f4 fun a b j w => by omega)) (fr_mo f5 fun a b j w => by omega)) (fr_mo f6 fun a b j w => by omega), fun j hj => ?_⟩
    · rw [s60_44]
      simp (disch := first | omega | assumption) only [s60_0, s60_1, s60_4, s60_5, s60_8, s60_9, s60_10, s60_13, s60_14, s60_15, s60_18, s60_19, s60_20, s60_21, s60_22, s60_25, s60_26, s60_29, s60_30, s60_33, s60_34, s60_35, s60_36, s60_39, s60_42, s60_43, s60_45, s60_47, s60_50, s60_51, s60_54, s60_55, s60_56, s60_57, s60_58, s60_61, s60_64, s60_65, s60_67, s60_68, s60_69, s60_72, s60_75, s60_76, s60_79, s60_82, s60_86, s60_87, s60_88, s60_89, s60_92, s60_95, s60_96, s60_99, s60_100, s60_103, s60_104, s60_107, s60_108, s60_111, s60_114, s60_115, s60_118, s60_119, s60_120, s60_121, s60_124, s60_127, s60_128, s60_131, s60_132, s60_135, nI_le2, nI_lt2, nI_eq2, nI_lt0, nI_0le, nI_0lt, nI_le0, nI_eq0, nI_clamp, nI_add, bu_nI, bb_0, bb_1, rf_s, rf_n, tl_s, tl_n, am_th_some, if_true, if_false, sI_eq, uI_eq, and_self, true_and, and_true, not_false_eq_true, not_true_eq_false, Nat.reduceEqDiff, Nat.reduceLeDiff, Nat.reduceLT, Nat.reduceAdd, Nat.reduceMul, Nat.reduceSub, Nat.zero_add, r1, r5, q1, q6, n1, hc, x4, x5, g6]
    · by_cases q : j = c
      · subst q
        exact ⟨by rw [f6 _ _ _ (by omega), f5 _ _ _ (by omega)]; exact y4, by rw [f6 _ _ _ (by omega)]; exact y5, z0, z1, z2, z3⟩
      · obtain ⟨a0, a1, a2, a3, a4, a5⟩ := g j (by omega)
        have z : ∀ x b, X6 x b j = J x b j := fun x b => (f6 _ _ _ (by omega)).trans ((f5 _ _ _ (by omega)).trans (f4 _ _ _ (by omega)))
        rw [z, z, z, z, z, z]
        exact ⟨a0, a1, a2, a3, a4, a5⟩
  · intro J ⟨f, g⟩
    refine ⟨J, ?_, f, g⟩
    have n1 : 25 ≤ 25 := Nat.le_refl _
    rw [s60_44]
    simp (disch := first | omega | assumption) only [s60_0, s60_1, s60_4, s60_5, s60_8, s60_9, s60_10, s60_13, s60_14, s60_15, s60_18, s60_19, s60_20, s60_21, s60_22, s60_25, s60_26, s60_29, s60_30, s60_33, s60_34, s60_35, s60_36, s60_39, s60_42, s60_43, s60_45, s60_47, s60_50, s60_51, s60_54, s60_55, s60_56, s60_57, s60_58, s60_61, s60_64, s60_65, s60_67, s60_68, s60_69, s60_72, s60_75, s60_76, s60_79, s60_82, s60_86, s60_87, s60_88, s60_89, s60_92, s60_95, s60_96, s60_99, s60_100, s60_103, s60_104, s60_107, s60_108, s60_111, s60_114, s60_115, s60_118, s60_119, s60_120, s60_121, s60_124, s60_127, s60_128, s60_131, s60_132, s60_135, nI_le2, nI_lt2, nI_eq2, nI_lt0, nI_0le, nI_0lt, nI_le0, nI_eq0, nI_clamp, nI_add, bu_nI, bb_0, bb_1, rf_s, rf_n, tl_s, tl_n, am_th_some, if_true, if_false, sI_eq, uI_eq, and_self, true_and, and_true, not_false_eq_true, not_true_eq_false, Nat.reduceEqDiff, Nat.reduceLeDiff, Nat.reduceLT, Nat.reduceAdd, Nat.reduceMul, Nat.reduceSub, Nat.zero_add, n1]
theorem c_lb3 (hr : ze_R R u) (hx2 : sx_at I) : ∃ J, am_ev (d + 1) 60 87 [.ref (am_mk 7 0), .int (nI 0)] [] I R Q = am_ev (d + 1) 60 127 [.ref (am_mk 7 0), .int (nI 6)] [] J R Q ∧ am_fr (fun a b _ => a = 14 ∧ b = u) I J ∧ ∀ j, j < 6 → J 14 u j = nI (zu0 0 j) := by
  obtain ⟨-, r0, r1, r2, r3, r4, r5, q0, q1, q2, q3, q4, q6, hp⟩ := id hr
  refine loop_inv (f := fun J c => am_ev (d + 1) 60 87 [.ref (am_mk 7 0), .int (nI c)] [] J R Q) (Inv := fun c J => am_fr (fun a b _ => a = 14 ∧ b = u) I J ∧ ∀ j, j < c → J 14 u j = nI (zu0 0 j)) (Post := fun y => ∃ J, y = am_ev (d + 1) 60 127 [.ref (am_mk 7 0), .int (nI 6)] [] J R Q ∧ am_fr (fun a b _ => a = 14 ∧ b = u) I J ∧ ∀ j, j < 6 → J 14 u j = nI (zu0 0 j)) (n := 6) ?_ ?_ (Nat.zero_le _) ⟨fr_rf, fun j hj => absurd hj (Nat.not_lt_zero _)⟩
  · intro c J hc ⟨f, g⟩
    left
    have n1 : ¬ 6 ≤ c := by omega
    have n2 : ¬ 14 ≤ c := by omega
    have n3 : c < 14 := by omega
    have su := sx_4 (sx_fr hx2 f (fun a j _ _ w => by omega)) (show c < 14 by omega)
    obtain ⟨X, x, y, fx⟩ := wr J 14 u c (nI (zUs c))
    refine ⟨X, ?_, fr_tr f (fr_mo fx fun a b j w => ⟨w.1, w.2.1⟩), fun j hj => ?_⟩
    · rw [s60_87]
      simp (disch := first | omega | assumption) only [s60_0, s60_1, s60_4, s60_5, s60_8, s60_9, s60_10, s60_13, s60_14, s60_15, s60_18, s60_19, s60_20, s60_21, s60_22, s60_25, s60_26, s60_29, s60_30, s60_33, s60_34, s60_35, s60_36, s60_39, s60_42, s60_43, s60_44, s60_45, s60_47, s60_50, s60_51, s60_54, s60_55, s60_56, s60_57, s60_58, s60_61, s60_64, s60_65, s60_67, s60_68, s60_69, s60_72, s60_75, s60_76, s60_79, s60_82, s60_85, s60_86, s60_88, s60_89, s60_92, s60_95, s60_96, s60_99, s60_100, s60_103, s60_104, s60_107, s60_108, s60_111, s60_114, s60_115, s60_118, s60_119, s60_120, s60_121, s60_124, s60_128, s60_131, s60_132, s60_135, nI_le2, nI_lt2, nI_eq2, nI_lt0, nI_0le, nI_0lt, nI_le0, nI_eq0, nI_clamp, nI_add, bu_nI, bb_0, bb_1, rf_s, rf_n, tl_s, tl_n, am_th_some, if_true, if_false, sI_eq, uI_eq, and_self, true_and, and_true, not_false_eq_true, not_true_eq_false, Nat.reduceEqDiff, Nat.reduceLeDiff, Nat.reduceLT, Nat.reduceAdd, Nat.reduceMul, Nat.reduceSub, Nat.zero_add, r1, q0, n1, n2, n3, hc, su, x]
    · by_cases q : j = c
      · rw [q, zu0, show zF 0 + c = c from Nat.zero_add c]; exact y
      · rw [fx _ _ _ (by omega)]; exact g j (by omega)
  · intro J ⟨f, g⟩
    refine ⟨J, ?_, f, g⟩
    have n1 : 6 ≤ 6 := Nat.le_refl _
    rw [s60_87]
    simp (disch := first | omega | assumption) only [s60_0, s60_1, s60_4, s60_5, s60_8, s60_9, s60_10, s60_13, s60_14, s60_15, s60_18, s60_19, s60_20, s60_21, s60_22, s60_25, s60_26, s60_29, s60_30, s60_33, s60_34, s60_35, s60_36, s60_39, s60_42, s60_43, s60_44, s60_45, s60_47, s60_50, s60_51, s60_54, s60_55, s60_56, s60_57, s60_58, s60_61, s60_64, s60_65, s60_67, s60_68, s60_69, s60_72, s60_75, s60_76, s60_79, s60_82, s60_85, s60_86, s60_88, s60_89, s60_92, s60_95, s60_96, s60_99, s60_100, s60_103, s60_104, s60_107, s60_108, s60_111, s60_114, s60_115, s60_118, s60_119, s60_120, s60_121, s60_124, s60_128, s60_131, s60_132, s60_135, nI_le2, nI_lt2, nI_eq2, nI_lt0, nI_0le, nI_0lt, nI_le0, nI_eq0, nI_clamp, nI_add, bu_nI, bb_0, bb_1, rf_s, rf_n, tl_s, tl_n, am_th_some, if_true, if_false, sI_eq, uI_eq, and_self, true_and, and_true, not_false_eq_true, not_true_eq_false, Nat.reduceEqDiff, Nat.reduceLeDiff, Nat.reduceLT, Nat.reduceAdd, Nat.reduceMul, Nat.reduceSub, Nat.zero_add, r1, q0, n1]
theorem c_lbegin (hr : ze_R R u) (ht : tc_at I L B) (hs : st_at I) (hx : sx_at I) : ∃ J, am_cal (d + 1) 60 [.ref (am_mk 7 0)] I R Q = some (none, J, R, Q) ∧ am_fr (zL_S u) I J ∧ zs_at J L B 0 ∧ zd_o J zE0 ∧ zd_c J u zE0 := by
  obtain ⟨-, r0, r1, r2, r3, r4, r5, q0, q1, q2, q3, q4, q6, hp⟩ := id hr
  obtain ⟨X1, x1, y1, f1⟩ := wr I 10 0 2 (nI 0)
  obtain ⟨X2, x2, y2, f2⟩ := wr X1 7 0 6 (nI 0)
  obtain ⟨X3, x3, y3, f3⟩ := wr X2 7 0 7 (nI 0)
  have k1 : am_fr (zL_S u) I X1 := fr_mo f1 fun a b j w => by obtain ⟨rfl, rfl, rfl⟩ := w; exact zL_10
  have k2 : am_fr (zL_S u) X1 X2 := fr_mo f2 fun a b j w => by obtain ⟨rfl, rfl, rfl⟩ := w; exact zL_7 (Or.inl rfl)
  have k3 : am_fr (zL_S u) X2 X3 := fr_mo f3 fun a b j w => by obtain ⟨rfl, rfl, rfl⟩ := w; exact zL_7 (Or.inr rfl)
  obtain ⟨J1, g1, h1, v1⟩ := c_lb1 (d := d) (I := X3) (Q := Q) hr
  have k4 : am_fr (zL_S u) X3 J1 := fr_mo h1 fun a b j w => by obtain ⟨rfl, rfl⟩ := w; exact zL_23
  obtain ⟨J2, g2, h2, v2⟩ := c_lb2 (d := d) (I := J1) (Q := Q) hr
  have k5 : am_fr (zL_S u) J1 J2 := fr_mo h2 fun a b j w => by
    rcases w with ⟨rfl, rfl⟩ | ⟨w, rfl⟩
    · exact zL_26
    · rcases w with rfl | rfl | rfl | rfl | rfl
      · exact zL_a (by decide)
      · exact zL_a (by decide)
      · exact zL_a (by decide)
      · exact zL_a (by decide)
      · exact zL_22
  have hx1 : sx_at J2 := sx_fr (sx_fr (sx_fr (sx_fr (sx_fr hx f1 (fun a j _ _ w => by omega)) f2 (fun a j _ _ w => by omega)) f3 (fun a j _ _ w => by omega)) h1 (fun a j _ _ w => by omega)) h2 (fun a j _ _ w => by omega)
  obtain ⟨J3, g3, h3, v3⟩ := c_lb3 (d := d) (I := J2) (Q := Q) hr hx1
  have k6 : am_fr (zL_S u) J2 J3 := fr_mo h3 fun a b j w => by obtain ⟨rfl, rfl⟩ := w; exact zL_a (by decide)
  obtain ⟨X9, x9, y9, f9⟩ := wr J3 6 u 5 (nI 0)
  have k7 : am_fr (zL_S u) J3 X9 := fr_mo f9 fun a b j w => by obtain ⟨rfl, rfl, rfl⟩ := w; exact zL_6
  have c7 : ∀ j, X9 7 0 j = X3 7 0 j := fun j => (f9 _ _ _ (by omega)).trans ((h3 _ _ _ (by omega)).trans ((h2 _ _ _ (by omega)).trans (h1 _ _ _ (by omega))))
  have c10 : ∀ j, X9 10 0 j = X1 10 0 j := fun j => (f9 _ _ _ (by omega)).trans ((h3 _ _ _ (by omega)).trans ((h2 _ _ _ (by omega)).trans ((h1 _ _ _ (by omega)).trans ((f3 _ _ _ (by omega)).trans (f2 _ _ _ (by omega))))))
  have cc : ∀ x b j, (x = 13 ∨ 100 ≤ x) → X9 x b j = I x b j := fun x b j w => (f9 _ _ _ (by omega)).trans ((h3 _ _ _ (by omega)).trans ((h2 _ _ _ (by omega)).trans ((h1 _ _ _ (by omega)).trans ((f3 _ _ _ (by omega)).trans ((f2 _ _ _ (by omega)).trans (f1 _ _ _ (by omega)))))))
  have cd : ∀ x b j, ¬ x = 6 → ¬ x = 14 → X9 x b j = J2 x b j := fun x b j w1 w2 => (f9 _ _ _ (by omega)).trans (h3 _ _ _ (by omega))
  refine ⟨X9, ?_, fr_tr (fr_tr (fr_tr (fr_tr (fr_tr (fr_tr k1 k2) k3) k4) k5) k6) k7, ⟨⟨by rw [c10, f1 _ _ _ (by omega)]; exact ht.1, fun i hi => by rw [cc _ _ _ (by omega)]; exact ht.2 i hi⟩, fun j i hj hi => by rw [cc _ _ _ (by omega)]; exact hs j i hj hi, fun k i hk hi => by rw [cc _ _ _ (by omega)]; exact hx k i hk hi, by rw [c10]; exact y1⟩, fun k hk => ?_, fun j hj => (f9 _ _ _ (by omega)).trans (v3 j hj), fun c hc => ?_, fun c hc => ?_, ⟨y9, fun i hi => absurd hi (Nat.not_lt_zero _)⟩, ?_, 0, ?_, by decide, fun c hc => ?_, Or.inl rfl⟩
  · rw [s60]
    simp (disch := first | omega | assumption) only [s60_0, s60_1, s60_4, s60_5, s60_8, s60_9, s60_10, s60_13, s60_14, s60_15, s60_18, s60_19, s60_21, s60_22, s60_25, s60_26, s60_29, s60_30, s60_33, s60_34, s60_35, s60_36, s60_39, s60_42, s60_43, s60_45, s60_47, s60_50, s60_51, s60_54, s60_55, s60_56, s60_57, s60_58, s60_61, s60_64, s60_65, s60_67, s60_68, s60_69, s60_72, s60_75, s60_76, s60_79, s60_82, s60_85, s60_86, s60_88, s60_89, s60_92, s60_95, s60_96, s60_99, s60_100, s60_103, s60_104, s60_107, s60_108, s60_111, s60_114, s60_115, s60_118, s60_119, s60_120, s60_121, s60_124, s60_127, s60_128, s60_131, s60_132, s60_135, nI_le2, nI_lt2, nI_eq2, nI_lt0, nI_0le, nI_0lt, nI_le0, nI_eq0, nI_clamp, nI_add, bu_nI, bb_0, bb_1, rf_s, rf_n, tl_s, tl_n, am_th_some, if_true, if_false, sI_eq, uI_eq, and_self, true_and, and_true, not_false_eq_true, not_true_eq_false, Nat.reduceEqDiff, Nat.reduceLeDiff, Nat.reduceLT, Nat.reduceAdd, Nat.reduceMul, Nat.reduceSub, Nat.zero_add, r0, x1, x2, x3]
    rw [g1]
    simp (disch := first | omega | assumption) only [s60_0, s60_1, s60_4, s60_5, s60_8, s60_9, s60_10, s60_13, s60_14, s60_15, s60_18, s60_19, s60_21, s60_22, s60_25, s60_26, s60_29, s60_30, s60_33, s60_34, s60_35, s60_36, s60_39, s60_42, s60_43, s60_45, s60_47, s60_50, s60_51, s60_54, s60_55, s60_56, s60_57, s60_58, s60_61, s60_64, s60_65, s60_67, s60_68, s60_69, s60_72, s60_75, s60_76, s60_79, s60_82, s60_85, s60_86, s60_88, s60_89, s60_92, s60_95, s60_96, s60_99, s60_100, s60_103, s60_104, s60_107, s60_108, s60_111, s60_114, s60_115, s60_118, s60_119, s60_120, s60_121, s60_124, s60_127, s60_128, s60_131, s60_132, s60_135, nI_le2, nI_lt2, nI_eq2, nI_lt0, nI_0le, nI_0lt, nI_le0, nI_eq0, nI_clamp, nI_add, bu_nI, bb_0, bb_1, rf_s, rf_n, tl_s, tl_n, am_th_some, if_true, if_false, sI_eq, uI_eq, and_self, true_and, and_true, not_false_eq_true, not_true_eq_false, Nat.reduceEqDiff, Nat.reduceLeDiff, Nat.reduceLT, Nat.reduceAdd, Nat.reduceMul, Nat.reduceSub, Nat.zero_add]
    rw [g2]
    simp (disch := first | omega | assumption) only [s60_0, s60_1, s60_4, s60_5, s60_8, s60_9, s60_10, s60_13, s60_14, s60_15, s60_18, s60_19, s60_21, s60_22, s60_25, s60_26, s60_29, s60_30, s60_33, s60_34, s60_35, s60_36, s60_39, s60_42, s60_43, s60_45, s60_47, s60_50, s60_51, s60_54, s60_55, s60_56, s60_57, s60_58, s60_61, s60_64, s60_65, s60_67, s60_68, s60_69, s60_72, s60_75, s60_76, s60_79, s60_82, s60_85, s60_86, s60_88, s60_89, s60_92, s60_95, s60_96, s60_99, s60_100, s60_103, s60_104, s60_107, s60_108, s60_111, s60_114, s60_115, s60_118, s60_119, s60_120, s60_121, s60_124, s60_127, s60_128, s60_131, s60_132, s60_135, nI_le2, nI_lt2, nI_eq2, nI_lt0, nI_0le, nI_0lt, nI_le0, nI_eq0, nI_clamp, nI_add, bu_nI, bb_0, bb_1, rf_s, rf_n, tl_s, tl_n, am_th_some, if_true, if_false, sI_eq, uI_eq, and_self, true_and, and_true, not_false_eq_true, not_true_eq_false, Nat.reduceEqDiff, Nat.reduceLeDiff, Nat.reduceLT, Nat.reduceAdd, Nat.reduceMul, Nat.reduceSub, Nat.zero_add]
    rw [g3]
    simp (disch := first | omega | assumption) only [s60_0, s60_1, s60_4, s60_5, s60_8, s60_9, s60_10, s60_13, s60_14, s60_15, s60_18, s60_19, s60_21, s60_22, s60_25, s60_26, s60_29, s60_30, s60_33, s60_34, s60_35, s60_36, s60_39, s60_42, s60_43, s60_45, s60_47, s60_50, s60_51, s60_54, s60_55, s60_56, s60_57, s60_58, s60_61, s60_64, s60_65, s60_67, s60_68, s60_69, s60_72, s60_75, s60_76, s60_79, s60_82, s60_85, s60_86, s60_88, s60_89, s60_92, s60_95, s60_96, s60_99, s60_100, s60_103, s60_104, s60_107, s60_108, s60_111, s60_114, s60_115, s60_118, s60_119, s60_120, s60_121, s60_124, s60_127, s60_128, s60_131, s60_132, s60_135, nI_le2, nI_lt2, nI_eq2, nI_lt0, nI_0le, nI_0lt, nI_le0, nI_eq0, nI_clamp, nI_add, bu_nI, bb_0, bb_1, rf_s, rf_n, tl_s, tl_n, am_th_some, if_true, if_false, sI_eq, uI_eq, and_self, true_and, and_true, not_false_eq_true, not_true_eq_false, Nat.reduceEqDiff, Nat.reduceLeDiff, Nat.reduceLT, Nat.reduceAdd, Nat.reduceMul, Nat.reduceSub, Nat.zero_add, r1, x9]
  · rw [cd _ _ _ (by omega) (by omega), h2 _ _ _ (by omega), v1 k hk]
    rcases (show k = 0 ∨ k = 1 ∨ k = 2 ∨ k = 3 by omega) with rfl | rfl | rfl | rfl <;> rfl
  · obtain ⟨a0, a1, a2, a3, a4, a5⟩ := v2 c hc
    rw [cd _ _ _ (by omega) (by omega), cd _ _ _ (by omega) (by omega), cd _ _ _ (by omega) (by omega), cd _ _ _ (by omega) (by omega)]
    exact ⟨a2, a3, a4, a5⟩
  · obtain ⟨a0, a1, a2, a3, a4, a5⟩ := v2 c hc
    rw [cd _ _ _ (by omega) (by omega), cd _ _ _ (by omega) (by omega)]
    exact ⟨a1, a0⟩
  · rw [c7, f3 _ _ _ (by omega)]; exact y2
  · rw [c7]; exact y3
  · rcases hc with hc | hc <;> cases hc
def zap (I : am_I) (x e n : Nat) (al : Int32) : Prop := ∀ i, i < n → I x 0 (e * i) < al ∧ ∀ o, o < i → ¬ I x 0 (e * o) = I x 0 (e * i)
end
section
variable {d k e n : Nat} {I : am_I} {R : am_R} {Q : am_Q} {al : Int32}
theorem w195 {pc i : Nat} (hp : pc = 14 ∨ pc = 36 ∨ pc = 42) {l0 l1 l2 l3 l4 l5 : Value} {st : List Value} (hk : k < 4) (hi : i < zYl k) : am_ev d 195 pc [l0, l1, l2, l3, l4, l5] (.int (nI i) :: .ref (am_mk (52 + k) 0) :: st) I R Q = am_ev d 195 (pc + 1) [l0, l1, l2, l3, l4, l5] (.int (I (52 + k) 0 i) :: st) I R Q := by
  obtain ⟨h1, h2, h3⟩ := zY_ok k hk
  have hok : am_ok 0 (52 + k) := ⟨h1, by omega⟩
  have hbd : am_bd (nI i) (am_len (52 + k)) := ⟨nI_pos' (by omega), by rw [nI_clamp (by omega), h2]; exact hi⟩
  rcases hp with rfl | rfl | rfl
  · have := s195_14 (d := d) (l0 := l0) (l1 := l1) (l2 := l2) (l3 := l3) (l4 := l4) (l5 := l5) (st := st) (a := 52 + k) (k := 0) (i := nI i) (I := I) (R := R) (Q := Q) hok hbd
    rw [nI_clamp (by omega)] at this
    exact this
  · have := s195_36 (d := d) (l0 := l0) (l1 := l1) (l2 := l2) (l3 := l3) (l4 := l4) (l5 := l5) (st := st) (a := 52 + k) (k := 0) (i := nI i) (I := I) (R := R) (Q := Q) hok hbd
    rw [nI_clamp (by omega)] at this
    exact this
  · have := s195_42 (d := d) (l0 := l0) (l1 := l1) (l2 := l2) (l3 := l3) (l4 := l4) (l5 := l5) (st := st) (a := 52 + k) (k := 0) (i := nI i) (I := I) (R := R) (Q := Q) hok hbd
    rw [nI_clamp (by omega)] at this
    exact this
theorem m_areApart (hk : k < 4) (he : e ≤ 4) (hn : n ≤ 12) (hb : ∀ i, i < n → e * i < zYl k) : ∃ b : Bool, (b = true ↔ zap I (52 + k) e n al) ∧ am_cal d 195 [.ref (am_mk (52 + k) 0), .int (nI n), .int (nI e), .int al] I R Q = some (some (.int (if b = true then nI 1 else nI 0)), I, R, Q) := by
  let Post : Option am_X → Prop := fun y => ∃ b : Bool, (b = true ↔ zap I (52 + k) e n al) ∧ y = some (some (.int (if b = true then nI 1 else nI 0)), I, R, Q)
  have no : ∀ i, i < n → ¬ (I (52 + k) 0 (e * i) < al ∧ ∀ o, o < i → ¬ I (52 + k) 0 (e * o) = I (52 + k) 0 (e * i)) → ∀ y, y = some (some (.int (nI 0)), I, R, Q) → Post y := fun i hi h y hy => ⟨false, ⟨fun w => (by cases w), fun w => absurd (w i hi) h⟩, hy⟩
  have w14 := fun (i : Nat) (hi : i < zYl k) (l0 l1 l2 l3 l4 l5 : Value) (st : List Value) => w195 (d := d) (pc := 14) (I := I) (R := R) (Q := Q) (Or.inl rfl) (l0 := l0) (l1 := l1) (l2 := l2) (l3 := l3) (l4 := l4) (l5 := l5) (st := st) hk hi
  have w36 := fun (i : Nat) (hi : i < zYl k) (l0 l1 l2 l3 l4 l5 : Value) (st : List Value) => w195 (d := d) (pc := 36) (I := I) (R := R) (Q := Q) (Or.inr (Or.inl rfl)) (l0 := l0) (l1 := l1) (l2 := l2) (l3 := l3) (l4 := l4) (l5 := l5) (st := st) hk hi
  have w42 := fun (i : Nat) (hi : i < zYl k) (l0 l1 l2 l3 l4 l5 : Value) (st : List Value) => w195 (d := d) (pc := 42) (I := I) (R := R) (Q := Q) (Or.inr (Or.inr rfl)) (l0 := l0) (l1 := l1) (l2 := l2) (l3 := l3) (l4 := l4) (l5 := l5) (st := st) hk hi
  have outer : ∀ l5 : Value, Post (am_ev d 195 3 [.ref (am_mk (52 + k) 0), .int (nI n), .int (nI e), .int al, .int (nI 0), l5] [] I R Q) := by
    intro l5
    refine loop_inv (f := fun (l5 : Value) c => am_ev d 195 3 [.ref (am_mk (52 + k) 0), .int (nI n), .int (nI e), .int al, .int (nI c), l5] [] I R Q) (Inv := fun c _ => ∀ i, i < c → I (52 + k) 0 (e * i) < al ∧ ∀ o, o < i → ¬ I (52 + k) 0 (e * o) = I (52 + k) 0 (e * i)) (Post := Post) (n := n) ?_ ?_ (Nat.zero_le _) (a := l5) (fun i hi => absurd hi (Nat.not_lt_zero _))
    · intro c l5 hc hinv
      have n1 : ¬ n ≤ c := by omega
      have hbc := hb c hc
      have b14 := w14 (e * c) hbc
      have b42 := w42 (e * c) hbc
      by_cases q : I (52 + k) 0 (e * c) < al
      · -- the inner loop
        have inner : (∃ o, o < c ∧ I (52 + k) 0 (e * o) = I (52 + k) 0 (e * c) ∧ am_ev d 195 24 [.ref (am_mk (52 + k) 0), .int (nI n), .int (nI e), .int al, .int (nI c), .int (nI 0)] [] I R Q = some (some (.int (nI 0)), I, R, Q)) ∨ ((∀ o, o < c → ¬ I (52 + k) 0 (e * o) = I (52 + k) 0 (e * c)) ∧ am_ev d 195 24 [.ref (am_mk (52 + k) 0), .int (nI n), .int (nI e), .int al, .int (nI c), .int (nI 0)] [] I R Q = am_ev d 195 54 [.ref (am_mk (52 + k) 0), .int (nI n), .int (nI e), .int al, .int (nI c), .int (nI c)] [] I R Q) := by
          refine loop_inv (f := fun (_ : Unit) o => am_ev d 195 24 [.ref (am_mk (52 + k) 0), .int (nI n), .int (nI e), .int al, .int (nI c), .int (nI o)] [] I R Q) (Inv := fun o _ => ∀ j, j < o → ¬ I (52 + k) 0 (e * j) = I (52 + k) 0 (e * c)) (Post := fun y => (∃ o, o < c ∧ I (52 + k) 0 (e * o) = I (52 + k) 0 (e * c) ∧ y = some (some (.int (nI 0)), I, R, Q)) ∨ ((∀ o, o < c → ¬ I (52 + k) 0 (e * o) = I (52 + k) 0 (e * c)) ∧ y = am_ev d 195 54 [.ref (am_mk (52 + k) 0), .int (nI n), .int (nI e), .int al, .int (nI c), .int (nI c)] [] I R Q)) (n := c) ?_ ?_ (Nat.zero_le _) (a := ()) (fun i hi => absurd hi (Nat.not_lt_zero _))
          · intro o _ ho hio
            have n2 : ¬ c ≤ o := by omega
            have hbo := hb o (by omega)
            have b36 := w36 (e * o) hbo
            by_cases r : I (52 + k) 0 (e * o) = I (52 + k) 0 (e * c)
            · right
              left
              refine ⟨o, ho, r, ?_⟩
              rw [s195_24]
              simp (disch := first | omega | assumption) only [s195_0, s195_1, s195_5, s195_6, s195_9, s195_10, s195_11, s195_13, s195_15, s195_16, s195_19, s195_20, s195_21, s195_22, s195_26, s195_28, s195_31, s195_32, s195_33, s195_35, s195_37, s195_38, s195_39, s195_41, s195_43, s195_46, s195_47, s195_48, s195_51, s195_57, s195_60, s195_61, nI_le2, nI_lt2, nI_eq2, nI_lt0, nI_0le, nI_0lt, nI_le0, nI_eq0, nI_clamp, nI_add, bu_nI, bb_0, bb_1, rf_s, rf_n, tl_s, tl_n, am_th_some, if_true, if_false, sI_eq, uI_eq, and_self, true_and, and_true, not_false_eq_true, not_true_eq_false, Nat.reduceEqDiff, Nat.reduceLeDiff, Nat.reduceLT, Nat.reduceAdd, Nat.reduceMul, Nat.reduceSub, Nat.zero_add, n2, nI_mul, b36, b42, r]
            · left
              refine ⟨(), ?_, fun j hj => ?_⟩
              · rw [s195_24]
                simp (disch := first | omega | assumption) only [s195_0, s195_1, s195_5, s195_6, s195_9, s195_10, s195_11, s195_13, s195_15, s195_16, s195_19, s195_20, s195_21, s195_22, s195_26, s195_28, s195_31, s195_32, s195_33, s195_35, s195_37, s195_38, s195_39, s195_41, s195_43, s195_46, s195_47, s195_48, s195_51, s195_57, s195_60, s195_61, nI_le2, nI_lt2, nI_eq2, nI_lt0, nI_0le, nI_0lt, nI_le0, nI_eq0, nI_clamp, nI_add, bu_nI, bb_0, bb_1, rf_s, rf_n, tl_s, tl_n, am_th_some, if_true, if_false, sI_eq, uI_eq, and_self, true_and, and_true, not_false_eq_true, not_true_eq_false, Nat.reduceEqDiff, Nat.reduceLeDiff, Nat.reduceLT, Nat.reduceAdd, Nat.reduceMul, Nat.reduceSub, Nat.zero_add, n2, nI_mul, b36, b42, r]
              · by_cases z : j = o
                · rw [z]; exact r
                · exact hio j (by omega)
          · intro _ hio
            right
            refine ⟨hio, ?_⟩
            have n2 : c ≤ c := Nat.le_refl _
            rw [s195_24]
            simp (disch := first | omega | assumption) only [s195_0, s195_1, s195_5, s195_6, s195_9, s195_10, s195_11, s195_13, s195_15, s195_16, s195_19, s195_20, s195_21, s195_22, s195_26, s195_28, s195_31, s195_32, s195_33, s195_35, s195_37, s195_38, s195_39, s195_41, s195_43, s195_46, s195_47, s195_48, s195_51, s195_57, s195_60, s195_61, nI_le2, nI_lt2, nI_eq2, nI_lt0, nI_0le, nI_0lt, nI_le0, nI_eq0, nI_clamp, nI_add, bu_nI, bb_0, bb_1, rf_s, rf_n, tl_s, tl_n, am_th_some, if_true, if_false, sI_eq, uI_eq, and_self, true_and, and_true, not_false_eq_true, not_true_eq_false, Nat.reduceEqDiff, Nat.reduceLeDiff, Nat.reduceLT, Nat.reduceAdd, Nat.reduceMul, Nat.reduceSub, Nat.zero_add, n2]
        rcases inner with ⟨o, ho, r, g⟩ | ⟨hio, g⟩
        · right
          refine no c hc (fun w => w.2 o ho r) _ ?_
          rw [s195_3]
          simp (disch := first | omega | assumption) only [s195_0, s195_1, s195_5, s195_6, s195_9, s195_10, s195_11, s195_13, s195_15, s195_16, s195_19, s195_20, s195_21, s195_22, s195_26, s195_28, s195_31, s195_32, s195_33, s195_35, s195_37, s195_38, s195_39, s195_41, s195_43, s195_46, s195_47, s195_48, s195_51, s195_57, s195_60, s195_61, nI_le2, nI_lt2, nI_eq2, nI_lt0, nI_0le, nI_0lt, nI_le0, nI_eq0, nI_clamp, nI_add, bu_nI, bb_0, bb_1, rf_s, rf_n, tl_s, tl_n, am_th_some, if_true, if_false, sI_eq, uI_eq, and_self, true_and, and_true, not_false_eq_true, not_true_eq_false, Nat.reduceEqDiff, Nat.reduceLeDiff, Nat.reduceLT, Nat.reduceAdd, Nat.reduceMul, Nat.reduceSub, Nat.zero_add, n1, nI_mul, b14, q]
          exact g
        · left
          refine ⟨.int (nI c), ?_, fun i hi => ?_⟩
          · rw [s195_3]
            simp (disch := first | omega | assumption) only [s195_0, s195_1, s195_5, s195_6, s195_9, s195_10, s195_11, s195_13, s195_15, s195_16, s195_19, s195_20, s195_21, s195_22, s195_26, s195_28, s195_31, s195_32, s195_33, s195_35, s195_37, s195_38, s195_39, s195_41, s195_43, s195_46, s195_47, s195_48, s195_51, s195_57, s195_60, s195_61, nI_le2, nI_lt2, nI_eq2, nI_lt0, nI_0le, nI_0lt, nI_le0, nI_eq0, nI_clamp, nI_add, bu_nI, bb_0, bb_1, rf_s, rf_n, tl_s, tl_n, am_th_some, if_true, if_false, sI_eq, uI_eq, and_self, true_and, and_true, not_false_eq_true, not_true_eq_false, Nat.reduceEqDiff, Nat.reduceLeDiff, Nat.reduceLT, Nat.reduceAdd, Nat.reduceMul, Nat.reduceSub, Nat.zero_add, n1, nI_mul, b14, q]
            refine g.trans ?_
            simp (disch := first | omega | assumption) only [s195_0, s195_1, s195_5, s195_6, s195_9, s195_10, s195_11, s195_13, s195_15, s195_16, s195_19, s195_20, s195_21, s195_22, s195_26, s195_28, s195_31, s195_32, s195_33, s195_35, s195_37, s195_38, s195_39, s195_41, s195_43, s195_46, s195_47, s195_48, s195_51, s195_54, s195_57, s195_60, s195_61, nI_le2, nI_lt2, nI_eq2, nI_lt0, nI_0le, nI_0lt, nI_le0, nI_eq0, nI_clamp, nI_add, bu_nI, bb_0, bb_1, rf_s, rf_n, tl_s, tl_n, am_th_some, if_true, if_false, sI_eq, uI_eq, and_self, true_and, and_true, not_false_eq_true, not_true_eq_false, Nat.reduceEqDiff, Nat.reduceLeDiff, Nat.reduceLT, Nat.reduceAdd, Nat.reduceMul, Nat.reduceSub, Nat.zero_add]
          · by_cases z : i = c
            · rw [z]; exact ⟨q, hio⟩
            · exact hinv i (by omega)
      · right
        refine no c hc (fun w => q w.1) _ ?_
        rw [s195_3]
        simp (disch := first | omega | assumption) only [s195_0, s195_1, s195_5, s195_6, s195_9, s195_10, s195_11, s195_13, s195_15, s195_16, s195_19, s195_20, s195_21, s195_22, s195_26, s195_28, s195_31, s195_32, s195_33, s195_35, s195_37, s195_38, s195_39, s195_41, s195_43, s195_46, s195_47, s195_48, s195_51, s195_57, s195_60, s195_61, nI_le2, nI_lt2, nI_eq2, nI_lt0, nI_0le, nI_0lt, nI_le0, nI_eq0, nI_clamp, nI_add, bu_nI, bb_0, bb_1, rf_s, rf_n, tl_s, tl_n, am_th_some, if_true, if_false, sI_eq, uI_eq, and_self, true_and, and_true, not_false_eq_true, not_true_eq_false, Nat.reduceEqDiff, Nat.reduceLeDiff, Nat.reduceLT, Nat.reduceAdd, Nat.reduceMul, Nat.reduceSub, Nat.zero_add, n1, nI_mul, b14, q]
    · intro l5 hinv
      refine ⟨true, ⟨fun _ => hinv, fun _ => rfl⟩, ?_⟩
      have n1 : n ≤ n := Nat.le_refl _
      rw [s195_3]
      simp (disch := first | omega | assumption) only [s195_0, s195_1, s195_5, s195_6, s195_9, s195_10, s195_11, s195_13, s195_14, s195_15, s195_16, s195_19, s195_20, s195_21, s195_22, s195_26, s195_28, s195_31, s195_32, s195_33, s195_35, s195_36, s195_37, s195_38, s195_39, s195_41, s195_42, s195_43, s195_46, s195_47, s195_48, s195_51, s195_57, s195_60, s195_61, nI_le2, nI_lt2, nI_eq2, nI_lt0, nI_0le, nI_0lt, nI_le0, nI_eq0, nI_clamp, nI_add, bu_nI, bb_0, bb_1, rf_s, rf_n, tl_s, tl_n, am_th_some, if_true, if_false, sI_eq, uI_eq, and_self, true_and, and_true, not_false_eq_true, not_true_eq_false, Nat.reduceEqDiff, Nat.reduceLeDiff, Nat.reduceLT, Nat.reduceAdd, Nat.reduceMul, Nat.reduceSub, Nat.zero_add, n1]
  obtain ⟨b, h1, h2⟩ := outer am_J
  refine ⟨b, h1, ?_⟩
  rw [s195]
  simp (disch := first | omega | assumption) only [s195_0, s195_1, s195_5, s195_6, s195_9, s195_10, s195_11, s195_13, s195_14, s195_15, s195_16, s195_19, s195_20, s195_21, s195_22, s195_24, s195_26, s195_28, s195_31, s195_32, s195_33, s195_35, s195_36, s195_37, s195_38, s195_39, s195_41, s195_42, s195_43, s195_46, s195_47, s195_48, s195_51, s195_54, s195_57, s195_60, s195_61, nI_le2, nI_lt2, nI_eq2, nI_lt0, nI_0le, nI_0lt, nI_le0, nI_eq0, nI_clamp, nI_add, bu_nI, bb_0, bb_1, rf_s, rf_n, tl_s, tl_n, am_th_some, if_true, if_false, sI_eq, uI_eq, and_self, true_and, and_true, not_false_eq_true, not_true_eq_false, Nat.reduceEqDiff, Nat.reduceLeDiff, Nat.reduceLT, Nat.reduceAdd, Nat.reduceMul, Nat.reduceSub, Nat.zero_add]
  exact h2
end
