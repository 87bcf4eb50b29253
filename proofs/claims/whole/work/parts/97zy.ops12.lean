/-! EAT. -/
section
variable {n b m c : Nat} {P : Nat → Nat → Int32} {S : Int32} {d : Nat} {I : am_I} {R : am_R} {Q : am_Q}
theorem foods_one (hc : c < 25) (hf : ¬ P 0 c ≤ 0) (h : ∀ j, j < 25 → ¬ j = c → P 0 j ≤ 0) : sp_foods P = nI 1 := by
  have key : ∀ N, N ≤ 25 → am_fold (sp_fd (P 0)) (nI 0) N = nI (if c < N then 1 else 0) := by
    intro N
    induction N with
    | zero => exact fun _ => by rw [if_neg (Nat.not_lt_zero _)]; rfl
    | succ N ih =>
      intro hN
      rw [fold_s, ih (by omega), sp_fd]
      by_cases e : N = c
      · rw [e, if_neg hf, if_neg (Nat.lt_irrefl _), if_pos (Nat.lt_succ_self _), nI_add]
      · rw [if_pos (h N (by omega) e)]
        by_cases q : c < N
        · rw [if_pos q, if_pos (by omega), nI_add]
        · rw [if_neg q, if_neg (by omega), nI_add]
  have g := key 25 (Nat.le_refl _)
  rw [if_pos hc] at g
  exact g
theorem clear_v {a j : Nat} : sp_clear P c a j = if a < 4 ∧ j = c then nI 0 else P a j := by
  unfold sp_clear sp_up
  by_cases e : a < 4 ∧ j = c
  · rw [if_pos e]
    obtain ⟨e1, e2⟩ := e
    rcases (show a = 0 ∨ a = 1 ∨ a = 2 ∨ a = 3 by omega) with e | e | e | e <;> subst e <;> simp [e2]
  · rw [if_neg e, if_neg (fun w => e ⟨by omega, w.2⟩), if_neg (fun w => e ⟨by omega, w.2⟩), if_neg (fun w => e ⟨by omega, w.2⟩), if_neg (fun w => e ⟨by omega, w.2⟩)]
theorem clear_I (hc : c < 25) (hf : ¬ P 0 c ≤ 0) (h1 : ¬ sp_foods P = nI 1) (hI : pt_I n b m P) (hb : 1 ≤ b) : pt_I n b m (sp_clear P c) := by
  obtain ⟨a1, a2, a3, a4, a5⟩ := hI
  have e4 : ∀ j, sp_clear P c 4 j = P 4 j := fun j => by rw [clear_v, if_neg (fun w => by omega)]
  refine ⟨(e4 0).trans a1, by rw [e4]; exact a2, by rw [e4]; exact a3, fun j hj => ?_, ?_⟩
  · by_cases e : j = c
    · exact ⟨0, 0, 0, 0, by rw [clear_v, if_pos ⟨by decide, e⟩], by rw [clear_v, if_pos ⟨by decide, e⟩], by rw [clear_v, if_pos ⟨by decide, e⟩], by rw [clear_v, if_pos ⟨by decide, e⟩], by decide, by decide, by omega, by decide, fun _ => ⟨rfl, rfl, rfl⟩, fun _ => rfl⟩
    · obtain ⟨t, i, g, u, q0, q1, q2, q3, r⟩ := a4 j hj
      exact ⟨t, i, g, u, by rw [clear_v, if_neg (fun w => e w.2), q0], by rw [clear_v, if_neg (fun w => e w.2), q1], by rw [clear_v, if_neg (fun w => e w.2), q2], by rw [clear_v, if_neg (fun w => e w.2), q3], r⟩
  · refine Classical.byContradiction fun hno => h1 (foods_one hc hf fun j hj hne => Classical.byContradiction fun w => hno ⟨j, hj, ?_⟩)
    rw [clear_v, if_neg (fun v => hne v.2)]
    exact w
/-- how FOOD tastes -/
def sp_taste (P : Nat → Nat → Int32) (S : Int32) (c : Nat) : Int32 := if P 1 c ≤ 0 then (if P 3 c = nI 1 then nI 3 else if P 2 c < S then nI 1 else nI 2) else nI 0
theorem c_taste {u : Nat} (h8 : R 11 0 8 = some (am_mk 2 0)) (h10 : R 11 0 10 = some (am_mk 9 12)) (hk : kk_R R u) (hp : pp_R R 12) (hP : pp_at I 12 P) (hc : c < 25) (hS : I 14 u 5 = S) : am_cal d 120 [.ref (am_mk 11 0), .int (nI c)] I R Q = some (some (.int (sp_taste P S c)), I, R, Q) := by
  obtain ⟨v0, v1, v2, v3⟩ := hP.1 c hc
  obtain ⟨p0, p1, p2, p3⟩ := hp
  have k0 := hk.1
  have k3 := hk.2.2.2.1
  rw [s120, sp_taste]
  by_cases q1 : P 1 c ≤ 0
  · by_cases q3 : P 3 c = nI 1
    · have q3' := eq_true q3
      simp (disch := first | omega | assumption) only [s120_0, s120_1, s120_4, s120_7, s120_8, s120_9, s120_12, s120_13, s120_14, s120_15, s120_18, s120_21, s120_22, s120_23, s120_24, s120_27, s120_28, s120_29, s120_30, s120_33, s120_36, s120_37, s120_38, s120_39, s120_42, s120_45, s120_48, s120_49, s120_50, s120_53, s120_54, s120_57, s120_58, nI_le2, nI_lt2, nI_eq2, nI_lt0, nI_0le, nI_0lt, nI_le0, nI_eq0, nI_clamp, nI_add, bu_nI, bb_0, bb_1, rf_s, rf_n, tl_s, tl_n, am_th_some, if_true, if_false, sI_eq, uI_eq, and_self, true_and, and_true, not_false_eq_true, not_true_eq_false, Nat.reduceEqDiff, Nat.reduceLeDiff, Nat.reduceLT, Nat.reduceAdd, Nat.reduceMul, Nat.reduceSub, Nat.zero_add, h8, h10, k0, k3, p0, p1, p2, p3, v1, v2, v3, hc, q1, q3', hS]
    · by_cases q2 : P 2 c < S
      · have q4 := Int32.not_le.mpr q2
        simp (disch := first | omega | assumption) only [s120_0, s120_1, s120_4, s120_7, s120_8, s120_9, s120_12, s120_13, s120_14, s120_15, s120_18, s120_21, s120_22, s120_23, s120_24, s120_27, s120_28, s120_29, s120_30, s120_33, s120_36, s120_37, s120_38, s120_39, s120_42, s120_45, s120_48, s120_49, s120_50, s120_53, s120_54, s120_57, s120_58, nI_le2, nI_lt2, nI_eq2, nI_lt0, nI_0le, nI_0lt, nI_le0, nI_eq0, nI_clamp, nI_add, bu_nI, bb_0, bb_1, rf_s, rf_n, tl_s, tl_n, am_th_some, if_true, if_false, sI_eq, uI_eq, and_self, true_and, and_true, not_false_eq_true, not_true_eq_false, Nat.reduceEqDiff, Nat.reduceLeDiff, Nat.reduceLT, Nat.reduceAdd, Nat.reduceMul, Nat.reduceSub, Nat.zero_add, h8, h10, k0, k3, p0, p1, p2, p3, v1, v2, v3, hc, q1, q3, q2, q4, hS]
      · have q4 := Int32.not_lt.mp q2
        simp (disch := first | omega | assumption) only [s120_0, s120_1, s120_4, s120_7, s120_8, s120_9, s120_12, s120_13, s120_14, s120_15, s120_18, s120_21, s120_22, s120_23, s120_24, s120_27, s120_28, s120_29, s120_30, s120_33, s120_36, s120_37, s120_38, s120_39, s120_42, s120_45, s120_48, s120_49, s120_50, s120_53, s120_54, s120_57, s120_58, nI_le2, nI_lt2, nI_eq2, nI_lt0, nI_0le, nI_0lt, nI_le0, nI_eq0, nI_clamp, nI_add, bu_nI, bb_0, bb_1, rf_s, rf_n, tl_s, tl_n, am_th_some, if_true, if_false, sI_eq, uI_eq, and_self, true_and, and_true, not_false_eq_true, not_true_eq_false, Nat.reduceEqDiff, Nat.reduceLeDiff, Nat.reduceLT, Nat.reduceAdd, Nat.reduceMul, Nat.reduceSub, Nat.zero_add, h8, h10, k0, k3, p0, p1, p2, p3, v1, v2, v3, hc, q1, q3, q2, q4, hS]
  · simp (disch := first | omega | assumption) only [s120_0, s120_1, s120_4, s120_7, s120_8, s120_9, s120_12, s120_13, s120_14, s120_15, s120_18, s120_21, s120_22, s120_23, s120_24, s120_27, s120_28, s120_29, s120_30, s120_33, s120_36, s120_37, s120_38, s120_39, s120_42, s120_45, s120_48, s120_49, s120_50, s120_53, s120_54, s120_57, s120_58, nI_le2, nI_lt2, nI_eq2, nI_lt0, nI_0le, nI_0lt, nI_le0, nI_eq0, nI_clamp, nI_add, bu_nI, bb_0, bb_1, rf_s, rf_n, tl_s, tl_n, am_th_some, if_true, if_false, sI_eq, uI_eq, and_self, true_and, and_true, not_false_eq_true, not_true_eq_false, Nat.reduceEqDiff, Nat.reduceLeDiff, Nat.reduceLT, Nat.reduceAdd, Nat.reduceMul, Nat.reduceSub, Nat.zero_add, h8, h10, k0, k3, p0, p1, p2, p3, v1, v2, v3, hc, q1, hS]
theorem m_eatLoop (hr : mm_R R) (hP : mm_at I P) (hc : c < 25) {x : Int32} : ∃ J, am_ev d 231 97 [.ref (am_mk 12 0), .int (nI c), .int x, .int (nI 0)] [] I R Q = some (some (.int x), J, R, Q) ∧ am_fr mm_S I J ∧ mm_at J (sp_clear P c) := by
  have loop : ∃ J, am_ev d 231 97 [.ref (am_mk 12 0), .int (nI c), .int x, .int (nI (25 * 0))] [] I R Q = some (some (.int x), J, R, Q) ∧ am_fr mm_S I J ∧ mm_at J (fun a j => if a < 4 ∧ j = c then nI 0 else P a j) := by
    refine loop_inv (f := fun J i => am_ev d 231 97 [.ref (am_mk 12 0), .int (nI c), .int x, .int (nI (25 * i))] [] J R Q) (Inv := fun i J => am_fr mm_S I J ∧ mm_at J (fun a j => if a < i ∧ j = c then nI 0 else P a j)) (Post := fun y => ∃ J, y = some (some (.int x), J, R, Q) ∧ am_fr mm_S I J ∧ mm_at J (fun a j => if a < 4 ∧ j = c then nI 0 else P a j)) (n := 4) ?_ ?_ (Nat.zero_le _) ⟨fr_rf, mm_congr hP fun a j hj => (if_neg (fun w => Nat.not_lt_zero _ w.1)).symm⟩
    · intro i J hi ⟨f1, f2⟩
      left
      have h1 : ¬ 100 ≤ 25 * i := by omega
      have m2 := mm_u f2 i c (nI 0) hi hc
      refine ⟨_, by rw [s231_97]; simp (disch := first | omega | assumption) only [s231_0, s231_1, s231_2, s231_3, s231_6, s231_9, s231_10, s231_13, s231_14, s231_17, s231_18, s231_21, s231_22, s231_25, s231_26, s231_29, s231_32, s231_33, s231_34, s231_35, s231_38, s231_39, s231_42, s231_44, s231_45, s231_46, s231_47, s231_50, s231_51, s231_54, s231_55, s231_58, s231_60, s231_61, s231_62, s231_63, s231_64, s231_67, s231_68, s231_71, s231_72, s231_75, s231_77, s231_78, s231_79, s231_80, s231_81, s231_84, s231_85, s231_86, s231_89, s231_90, s231_93, s231_94, s231_95, s231_96, s231_98, s231_100, s231_103, s231_104, s231_107, s231_108, s231_109, s231_110, s231_111, s231_112, s231_115, s231_118, s231_119, nI_le2, nI_lt2, nI_eq2, nI_lt0, nI_0le, nI_0lt, nI_le0, nI_eq0, nI_clamp, nI_add, bu_nI, bb_0, bb_1, rf_s, rf_n, tl_s, tl_n, am_th_some, if_true, if_false, sI_eq, uI_eq, and_self, true_and, and_true, not_false_eq_true, not_true_eq_false, Nat.reduceEqDiff, Nat.reduceLeDiff, Nat.reduceLT, Nat.reduceAdd, Nat.reduceMul, Nat.reduceSub, Nat.zero_add, mr31 hr, h1, Nat.mul_add] <;> rfl, fr_s f1 (by unfold mm_S; omega), mm_congr m2 fun a j hj => ?_⟩
      show _ = if a < i + 1 ∧ j = c then nI 0 else P a j
      unfold sp_up
      by_cases e1 : a = i ∧ j = c
      · rw [if_pos e1, if_pos ⟨by omega, e1.2⟩]
      · rw [if_neg e1]
        dsimp only
        by_cases e2 : a < i ∧ j = c
        · rw [if_pos e2, if_pos ⟨by omega, e2.2⟩]
        · rw [if_neg e2, if_neg (fun w => by
            rcases Nat.lt_succ_iff_lt_or_eq.mp w.1 with v | v
            · exact e2 ⟨v, w.2⟩
            · exact e1 ⟨v, w.2⟩)]
    · intro J ⟨f1, f2⟩
      refine ⟨J, ?_, f1, f2⟩
      rw [s231_97]
      simp (disch := first | omega | assumption) only [s231_0, s231_1, s231_2, s231_3, s231_6, s231_9, s231_10, s231_13, s231_14, s231_17, s231_18, s231_21, s231_22, s231_25, s231_26, s231_29, s231_32, s231_33, s231_34, s231_35, s231_38, s231_39, s231_42, s231_44, s231_45, s231_46, s231_47, s231_50, s231_51, s231_54, s231_55, s231_58, s231_60, s231_61, s231_62, s231_63, s231_64, s231_67, s231_68, s231_71, s231_72, s231_75, s231_77, s231_78, s231_79, s231_80, s231_81, s231_84, s231_85, s231_86, s231_89, s231_90, s231_93, s231_94, s231_95, s231_96, s231_98, s231_100, s231_103, s231_104, s231_107, s231_108, s231_109, s231_110, s231_111, s231_112, s231_115, s231_118, s231_119, nI_le2, nI_lt2, nI_eq2, nI_lt0, nI_0le, nI_0lt, nI_le0, nI_eq0, nI_clamp, nI_add, bu_nI, bb_0, bb_1, rf_s, rf_n, tl_s, tl_n, am_th_some, if_true, if_false, sI_eq, uI_eq, and_self, true_and, and_true, not_false_eq_true, not_true_eq_false, Nat.reduceEqDiff, Nat.reduceLeDiff, Nat.reduceLT, Nat.reduceAdd, Nat.reduceMul, Nat.reduceSub, Nat.zero_add, Nat.le_refl]
  obtain ⟨J, g1, g2, g3⟩ := loop
  exact ⟨J, g1, g2, mm_congr g3 fun a j hj => clear_v.symm⟩
end
section
variable {s : zSt} {x y z : Int32}
theorem op_eat (hok : rel_ok s) : op1 119 231 [.int x] s := by
  obtain ⟨tp, w, st, rf, o⟩ := s
  cases o with
  | none =>
    refine ⟨-nI 1, (tp, w, st, sp_re rf 0, none), fun d u I R Q h => ?_, fun d I R Q hr h => ?_, hok⟩
    · have C := get_nc h
      have hF := C.food (Q := Q) (d + 89) x
      obtain ⟨J, g1, g2, g3⟩ := c_refuse (d := d + 89) (R := R) (Q := Q) (rF_11 h.1.1).2.2.2.2.2.1 h.2.1.2.2.2.2.2.1 (k := 0) (by decide)
      refine ⟨J, R, u, ?_, fr_mo g2 fun a b j w => by unfold clS; omega, relc_re h hok g2 g3, fun _ _ _ _ => rfl⟩
      rw [s119]
      simp (disch := first | omega | assumption) only [s119_0, s119_1, s119_4, s119_5, s119_8, s119_11, s119_12, s119_13, s119_16, s119_17, s119_18, s119_21, s119_24, s119_25, s119_28, s119_29, s119_30, s119_33, s119_34, s119_35, s119_36, s119_39, s119_40, s119_41, s119_44, s119_45, s119_48, s119_51, s119_52, s119_55, s119_56, s119_59, s119_60, nI_le2, nI_lt2, nI_eq2, nI_lt0, nI_0le, nI_0lt, nI_le0, nI_eq0, nI_clamp, nI_add, bu_nI, bb_0, bb_1, rf_s, rf_n, tl_s, tl_n, am_th_some, if_true, if_false, sI_eq, uI_eq, and_self, true_and, and_true, not_false_eq_true, not_true_eq_false, Nat.reduceEqDiff, Nat.reduceLeDiff, Nat.reduceLT, Nat.reduceAdd, Nat.reduceMul, Nat.reduceSub, Nat.zero_add, hF, C.pa.2.1, g1]
    · have C := get_nm h
      have hF := C.food (Q := Q) hr (d + 87) x
      obtain ⟨J, g1, g2, g3⟩ := m_refused (d := d + 89) (Q := Q) hr h.1.2.2.2 (k := 0) (by decide)
      refine ⟨J, Q, ?_, fr_mo g2 fun a b j w => by unfold mdS; omega, relm_re h hok g2 g3, fun _ _ _ _ => rfl⟩
      rw [s231]
      simp (disch := first | omega | assumption) only [s231_0, s231_1, s231_2, s231_3, s231_6, s231_9, s231_10, s231_13, s231_14, s231_17, s231_18, s231_21, s231_22, s231_25, s231_26, s231_29, s231_32, s231_33, s231_34, s231_35, s231_38, s231_39, s231_42, s231_44, s231_45, s231_46, s231_47, s231_50, s231_51, s231_54, s231_55, s231_58, s231_60, s231_61, s231_62, s231_63, s231_64, s231_67, s231_68, s231_71, s231_72, s231_75, s231_77, s231_78, s231_79, s231_80, s231_81, s231_84, s231_85, s231_86, s231_89, s231_90, s231_93, s231_94, s231_95, s231_96, s231_98, s231_100, s231_103, s231_104, s231_107, s231_108, s231_109, s231_110, s231_111, s231_112, s231_115, s231_118, s231_119, nI_le2, nI_lt2, nI_eq2, nI_lt0, nI_0le, nI_0lt, nI_le0, nI_eq0, nI_clamp, nI_add, bu_nI, bb_0, bb_1, rf_s, rf_n, tl_s, tl_n, am_th_some, if_true, if_false, sI_eq, uI_eq, and_self, true_and, and_true, not_false_eq_true, not_true_eq_false, Nat.reduceEqDiff, Nat.reduceLeDiff, Nat.reduceLT, Nat.reduceAdd, Nat.reduceMul, Nat.reduceSub, Nat.zero_add, hF, g1]
  | some l =>
    obtain ⟨E, k, PK, tk, EL, im, ⟨k0, N0⟩, k1, N1⟩ := l
    have L := get_l hok
    have n25 := L.n25
    have hd : hd_ok (zn E) (E.2.1 4) k PK tk := (hok.2.2.2 _ rfl).2.1
    have cfo : ∀ {u I R Q}, rel_c (tp, w, st, rf, some (E, k, PK, tk, EL, im, (k0, N0), (k1, N1))) u I R → ∀ d, am_cal d 79 [.ref (am_mk 9 12)] I R Q = some (some (.int (sp_foods (PK k))), I, R, Q) := fun {u I R Q} h d => by
      have C := get_c (Q := Q) h hok
      have g := c_foods (d := d) (Q := Q) (I := I) (rF_p0 C.pa)
      have e2 : am_fold (sp_fd (I 19 12)) (nI 0) 25 = sp_foods (PK k) := fold_congr fun a c hc => by unfold sp_fd; rw [(C.pp.1 c hc).1]
      rw [e2] at g
      exact g
    by_cases e0 : pp_f (PK k) x
    · obtain ⟨c, hc, rfl, hf⟩ := pp_f_of L.pt.1 n25 e0
      have hc25 : c < 25 := by omega
      by_cases e1 : sp_foods (PK k) = nI 1
      · refine ⟨-nI 1, (tp, w, st, sp_re rf 3, some (E, k, PK, tk, EL, im, (k0, N0), (k1, N1))), fun d u I R Q h => ?_, fun d I R Q hr h => ?_, hok⟩
        · have C := get_c (Q := Q) h hok
          have p0 := C.food L (d + 89) (nI c)
          rw [if_pos e0] at p0
          have p1 := cfo (Q := Q) h (d + 89)
          rw [e1] at p1
          obtain ⟨J, g1, g2, g3⟩ := c_refuse (d := d + 89) (R := R) (Q := Q) (rF_11 h.1.1).2.2.2.2.2.1 h.2.1.2.2.2.2.2.1 (k := 3) (by decide)
          refine ⟨J, R, u, ?_, fr_mo g2 fun a b j w => by unfold clS; omega, relc_re h hok g2 g3, fun _ _ _ _ => rfl⟩
          rw [s119]
          simp (disch := first | omega | assumption) only [s119_0, s119_1, s119_4, s119_5, s119_8, s119_11, s119_12, s119_13, s119_16, s119_17, s119_18, s119_21, s119_24, s119_25, s119_28, s119_29, s119_30, s119_33, s119_34, s119_35, s119_36, s119_39, s119_40, s119_41, s119_44, s119_45, s119_48, s119_51, s119_52, s119_55, s119_56, s119_59, s119_60, nI_le2, nI_lt2, nI_eq2, nI_lt0, nI_0le, nI_0lt, nI_le0, nI_eq0, nI_clamp, nI_add, bu_nI, bb_0, bb_1, rf_s, rf_n, tl_s, tl_n, am_th_some, if_true, if_false, sI_eq, uI_eq, and_self, true_and, and_true, not_false_eq_true, not_true_eq_false, Nat.reduceEqDiff, Nat.reduceLeDiff, Nat.reduceLT, Nat.reduceAdd, Nat.reduceMul, Nat.reduceSub, Nat.zero_add, p0, p1, C.pa.2.1, g1]
        · have C := get_m (Q := Q) hr h hok
          have p0 : am_cal (d + 89) _ _ _ _ _ = _ := C.food L (d + 87) (nI c)
          rw [if_pos e0] at p0
          have p1 : am_cal (d + 89) _ _ _ _ _ = _ := m_foods1 (d := d + 86) (Q := Q) hr C.mm L.n25 L.pt
          rw [e1] at p1
          obtain ⟨J, g1, g2, g3⟩ := m_refused (d := d + 89) (Q := Q) hr h.1.2.2.2 (k := 3) (by decide)
          refine ⟨J, Q, ?_, fr_mo g2 fun a b j w => by unfold mdS; omega, relm_re h hok g2 g3, fun _ _ _ _ => rfl⟩
          rw [s231]
          simp (disch := first | omega | assumption) only [s231_0, s231_1, s231_2, s231_3, s231_6, s231_9, s231_10, s231_13, s231_14, s231_17, s231_18, s231_21, s231_22, s231_25, s231_26, s231_29, s231_32, s231_33, s231_34, s231_35, s231_38, s231_39, s231_42, s231_44, s231_45, s231_46, s231_47, s231_50, s231_51, s231_54, s231_55, s231_58, s231_60, s231_61, s231_62, s231_63, s231_64, s231_67, s231_68, s231_71, s231_72, s231_75, s231_77, s231_78, s231_79, s231_80, s231_81, s231_84, s231_85, s231_86, s231_89, s231_90, s231_93, s231_94, s231_95, s231_96, s231_98, s231_100, s231_103, s231_104, s231_107, s231_108, s231_109, s231_110, s231_111, s231_112, s231_115, s231_118, s231_119, nI_le2, nI_lt2, nI_eq2, nI_lt0, nI_0le, nI_0lt, nI_le0, nI_eq0, nI_clamp, nI_add, bu_nI, bb_0, bb_1, rf_s, rf_n, tl_s, tl_n, am_th_some, if_true, if_false, sI_eq, uI_eq, and_self, true_and, and_true, not_false_eq_true, not_true_eq_false, Nat.reduceEqDiff, Nat.reduceLeDiff, Nat.reduceLT, Nat.reduceAdd, Nat.reduceMul, Nat.reduceSub, Nat.zero_add, p0, p1, g1]
      · have hdk := hd_keep hd
        have ek : sp_kj k (sp_kk k) = k := kj_k k L.k40
        have hI : pt_I (zn E) (E.2.1 4) (tk k) (sp_clear (PK k) c) := clear_I hc25 hf e1 L.pt L.b1.1
        have h41 : sp_clear (PK k) c 4 1 = nI (tk k) := by rw [clear_v, if_neg (fun w => by omega)]; exact L.p1
        have hd2 : hd_ok (zn E) (E.2.1 4) (sp_kk k) (sp_nw (sp_kk k) (fun j => PK (sp_kj k j)) (sp_clear (PK k) c)) (fun j => tk (sp_kj k j)) := hd_nowS hdk (by show pt_I _ _ (tk (sp_kj k (sp_kk k))) _; rw [ek]; exact hI) (by show _ = nI (tk (sp_kj k (sp_kk k))); rw [ek]; exact h41)
        refine ⟨sp_taste (PK k) (nI (E.2.1 5)) c, (tp, w, st, rf, some (E, sp_kk k, sp_nw (sp_kk k) (fun j => PK (sp_kj k j)) (sp_clear (PK k) c), (fun j => tk (sp_kj k j)), EL, im, (k0, N0), (k1, N1))), fun d u I R Q h => ?_, fun d I R Q hr h => ?_, ok_hist hok hd2 (by show tk (sp_kj k (sp_kk k)) ≤ 9999; rw [ek]; exact L.tm)⟩
        · have C := get_c (Q := Q) h hok
          have p0 := C.food L (d + 89) (nI c)
          rw [if_pos e0] at p0
          have p1 := cfo (Q := Q) h (d + 89)
          have p2 := c_taste (d := d + 89) (Q := Q) C.pa.1 C.pa.2.1 C.kk (C.aa.2.2.2.2.1 12 (by decide)) C.pp hc25 (C.ov 5 (by decide))
          obtain ⟨f, lo, h6⟩ := h.2.2.2.1
          obtain ⟨J1, a1, a2, a3⟩ := c_keepH (d := d + 88) (Q := Q) C.pa.2.2.2.2.2.2.2.2.2 hd h6
          have hp1 : pp_at J1 12 (PK k) := by have := a3.2.2.2.2.1; dsimp only at this; rw [ek] at this; exact this
          obtain ⟨J2, b1, b2, b3⟩ := c_clear (d := d + 89) (Q := Q) (C.aa.2.2.2.2.1 12 (by decide)) hp1 hc25
          have c3 := c_nowH a3 b2 b3 hdk.1
          have hf2 : am_fr hC I J2 := fr_tr (fr_mo a2 fun a b j w => hcS_C w) (fr_mo b2 fun a b j w => pp12_C w)
          refine ⟨J2, R, u, ?_, fr_mo hf2 fun a b j w => hC_cl w, relc_hist h hok hf2 ⟨_, _, c3⟩, fun _ _ _ _ => rfl⟩
          rw [s119]
          simp (disch := first | omega | assumption) only [s119_0, s119_1, s119_4, s119_5, s119_8, s119_11, s119_12, s119_13, s119_16, s119_17, s119_18, s119_21, s119_24, s119_25, s119_28, s119_29, s119_30, s119_33, s119_34, s119_35, s119_36, s119_39, s119_40, s119_41, s119_44, s119_45, s119_48, s119_51, s119_52, s119_55, s119_56, s119_59, s119_60, nI_le2, nI_lt2, nI_eq2, nI_lt0, nI_0le, nI_0lt, nI_le0, nI_eq0, nI_clamp, nI_add, bu_nI, bb_0, bb_1, rf_s, rf_n, tl_s, tl_n, am_th_some, if_true, if_false, sI_eq, uI_eq, and_self, true_and, and_true, not_false_eq_true, not_true_eq_false, Nat.reduceEqDiff, Nat.reduceLeDiff, Nat.reduceLT, Nat.reduceAdd, Nat.reduceMul, Nat.reduceSub, Nat.zero_add, p0, p1, p2, e1, C.pa.2.1, C.pa.2.2.2.1, a1, b1]
        · have C := get_m (Q := Q) hr h hok
          have p0 : am_cal (d + 89) _ _ _ _ _ = _ := C.food L (d + 87) (nI c)
          rw [if_pos e0] at p0
          have p1 : am_cal (d + 89) _ _ _ _ _ = _ := m_foods1 (d := d + 86) (Q := Q) hr C.mm L.n25 L.pt
          obtain ⟨J1, a1, a2, a3⟩ := m_keepH (d := d + 89) (Q := Q) hr L.k40 h.2.2.1
          have hs1 := a3.2.2.2
          dsimp only at hs1
          rw [ek] at hs1
          have hm1 := sn_mm hs1 (a3.1.trans L.pt.1.symm)
          have nr := m_notRefused (d := d + 89) (I := I) (R := R) (Q := Q)
          obtain ⟨J2, b1, b2, b3⟩ := m_eatLoop (d := d + 90) (Q := Q) (x := sp_taste (PK k) (nI (E.2.1 5)) c) hr hm1 hc25
          have c3 := m_nowH a3 (fr_mo b2 fun a b j w => ⟨Or.inl ⟨w.1, Nat.lt_trans w.2 (by decide)⟩, fun _ => w.2⟩) b3
          have hf2 : am_fr hM I J2 := fr_tr (fr_mo a2 fun a b j w => hmS_M w) (fr_mo b2 fun a b j w => mmS_M w)
          refine ⟨J2, Q, ?_, fr_mo hf2 fun a b j w => hM_md w, relm_hist h hok hf2 c3, fun _ _ _ _ => rfl⟩
          obtain ⟨v0, v1, v2, v3⟩ := hm1.1 c hc25
          have vS : J1 56 0 5 = nI (E.2.1 5) := (a2 _ _ _ (fun w => by unfold hm_S at w; omega)).trans (C.ov 5 (by decide))
          have i1 : 25 + c < 283 := by omega
          have i2 : 50 + c < 283 := by omega
          have i3 : 75 + c < 283 := by omega
          rw [s231]
          by_cases q1 : PK k 1 c ≤ 0
          · by_cases q3 : PK k 3 c = nI 1
            · have q3' := eq_true q3
              have hv : sp_taste (PK k) (nI (E.2.1 5)) c = nI 3 := by rw [sp_taste, if_pos q1, if_pos q3]
              rw [hv] at b1 ⊢
              simp (disch := first | omega | assumption) only [s231_0, s231_1, s231_2, s231_3, s231_6, s231_9, s231_10, s231_13, s231_14, s231_17, s231_18, s231_21, s231_22, s231_25, s231_26, s231_29, s231_32, s231_33, s231_34, s231_35, s231_38, s231_39, s231_42, s231_44, s231_45, s231_46, s231_47, s231_50, s231_51, s231_54, s231_55, s231_58, s231_60, s231_61, s231_62, s231_63, s231_64, s231_67, s231_68, s231_71, s231_72, s231_75, s231_77, s231_78, s231_79, s231_80, s231_81, s231_84, s231_85, s231_86, s231_89, s231_90, s231_93, s231_94, s231_95, s231_96, s231_98, s231_100, s231_103, s231_104, s231_107, s231_108, s231_109, s231_110, s231_111, s231_112, s231_115, s231_118, s231_119, nI_le2, nI_lt2, nI_eq2, nI_lt0, nI_0le, nI_0lt, nI_le0, nI_eq0, nI_clamp, nI_add, bu_nI, bb_0, bb_1, rf_s, rf_n, tl_s, tl_n, am_th_some, if_true, if_false, sI_eq, uI_eq, and_self, true_and, and_true, not_false_eq_true, not_true_eq_false, Nat.reduceEqDiff, Nat.reduceLeDiff, Nat.reduceLT, Nat.reduceAdd, Nat.reduceMul, Nat.reduceSub, Nat.zero_add, p0, p1, e1, nr, a1, mr31 hr, mr24 hr, v1, v2, v3, vS, i1, i2, i3, q1, q3', b1]
            · by_cases q2 : PK k 2 c < nI (E.2.1 5)
              · have q4 := Int32.not_le.mpr q2
                have hv : sp_taste (PK k) (nI (E.2.1 5)) c = nI 1 := by rw [sp_taste, if_pos q1, if_neg q3, if_pos q2]
                rw [hv] at b1 ⊢
                simp (disch := first | omega | assumption) only [s231_0, s231_1, s231_2, s231_3, s231_6, s231_9, s231_10, s231_13, s231_14, s231_17, s231_18, s231_21, s231_22, s231_25, s231_26, s231_29, s231_32, s231_33, s231_34, s231_35, s231_38, s231_39, s231_42, s231_44, s231_45, s231_46, s231_47, s231_50, s231_51, s231_54, s231_55, s231_58, s231_60, s231_61, s231_62, s231_63, s231_64, s231_67, s231_68, s231_71, s231_72, s231_75, s231_77, s231_78, s231_79, s231_80, s231_81, s231_84, s231_85, s231_86, s231_89, s231_90, s231_93, s231_94, s231_95, s231_96, s231_98, s231_100, s231_103, s231_104, s231_107, s231_108, s231_109, s231_110, s231_111, s231_112, s231_115, s231_118, s231_119, nI_le2, nI_lt2, nI_eq2, nI_lt0, nI_0le, nI_0lt, nI_le0, nI_eq0, nI_clamp, nI_add, bu_nI, bb_0, bb_1, rf_s, rf_n, tl_s, tl_n, am_th_some, if_true, if_false, sI_eq, uI_eq, and_self, true_and, and_true, not_false_eq_true, not_true_eq_false, Nat.reduceEqDiff, Nat.reduceLeDiff, Nat.reduceLT, Nat.reduceAdd, Nat.reduceMul, Nat.reduceSub, Nat.zero_add, p0, p1, e1, nr, a1, mr31 hr, mr24 hr, v1, v2, v3, vS, i1, i2, i3, q1, q3, q2, q4, b1]
              · have q4 := Int32.not_lt.mp q2
                have hv : sp_taste (PK k) (nI (E.2.1 5)) c = nI 2 := by rw [sp_taste, if_pos q1, if_neg q3, if_neg q2]
                rw [hv] at b1 ⊢
                simp (disch := first | omega | assumption) only [s231_0, s231_1, s231_2, s231_3, s231_6, s231_9, s231_10, s231_13, s231_14, s231_17, s231_18, s231_21, s231_22, s231_25, s231_26, s231_29, s231_32, s231_33, s231_34, s231_35, s231_38, s231_39, s231_42, s231_44, s231_45, s231_46, s231_47, s231_50, s231_51, s231_54, s231_55, s231_58, s231_60, s231_61, s231_62, s231_63, s231_64, s231_67, s231_68, s231_71, s231_72, s231_75, s231_77, s231_78, s231_79, s231_80, s231_81, s231_84, s231_85, s231_86, s231_89, s231_90, s231_93, s231_94, s231_95, s231_96, s231_98, s231_100, s231_103, s231_104, s231_107, s231_108, s231_109, s231_110, s231_111, s231_112, s231_115, s231_118, s231_119, nI_le2, nI_lt2, nI_eq2, nI_lt0, nI_0le, nI_0lt, nI_le0, nI_eq0, nI_clamp, nI_add, bu_nI, bb_0, bb_1, rf_s, rf_n, tl_s, tl_n, am_th_some, if_true, if_false, sI_eq, uI_eq, and_self, true_and, and_true, not_false_eq_true, not_true_eq_false, Nat.reduceEqDiff, Nat.reduceLeDiff, Nat.reduceLT, Nat.reduceAdd, Nat.reduceMul, Nat.reduceSub, Nat.zero_add, p0, p1, e1, nr, a1, mr31 hr, mr24 hr, v1, v2, v3, vS, i1, i2, i3, q1, q3, q2, q4, b1]
          · have hv : sp_taste (PK k) (nI (E.2.1 5)) c = nI 0 := by rw [sp_taste, if_neg q1]
            rw [hv] at b1 ⊢
            simp (disch := first | omega | assumption) only [s231_0, s231_1, s231_2, s231_3, s231_6, s231_9, s231_10, s231_13, s231_14, s231_17, s231_18, s231_21, s231_22, s231_25, s231_26, s231_29, s231_32, s231_33, s231_34, s231_35, s231_38, s231_39, s231_42, s231_44, s231_45, s231_46, s231_47, s231_50, s231_51, s231_54, s231_55, s231_58, s231_60, s231_61, s231_62, s231_63, s231_64, s231_67, s231_68, s231_71, s231_72, s231_75, s231_77, s231_78, s231_79, s231_80, s231_81, s231_84, s231_85, s231_86, s231_89, s231_90, s231_93, s231_94, s231_95, s231_96, s231_98, s231_100, s231_103, s231_104, s231_107, s231_108, s231_109, s231_110, s231_111, s231_112, s231_115, s231_118, s231_119, nI_le2, nI_lt2, nI_eq2, nI_lt0, nI_0le, nI_0lt, nI_le0, nI_eq0, nI_clamp, nI_add, bu_nI, bb_0, bb_1, rf_s, rf_n, tl_s, tl_n, am_th_some, if_true, if_false, sI_eq, uI_eq, and_self, true_and, and_true, not_false_eq_true, not_true_eq_false, Nat.reduceEqDiff, Nat.reduceLeDiff, Nat.reduceLT, Nat.reduceAdd, Nat.reduceMul, Nat.reduceSub, Nat.zero_add, p0, p1, e1, nr, a1, mr31 hr, mr24 hr, v1, v2, v3, vS, i1, i2, i3, q1, b1]
    · refine ⟨-nI 1, (tp, w, st, sp_re rf 0, some (E, k, PK, tk, EL, im, (k0, N0), (k1, N1))), fun d u I R Q h => ?_, fun d I R Q hr h => ?_, hok⟩
      · have C := get_c (Q := Q) h hok
        have p0 := C.food L (d + 89) x
        rw [if_neg e0] at p0
        obtain ⟨J, g1, g2, g3⟩ := c_refuse (d := d + 89) (R := R) (Q := Q) (rF_11 h.1.1).2.2.2.2.2.1 h.2.1.2.2.2.2.2.1 (k := 0) (by decide)
        refine ⟨J, R, u, ?_, fr_mo g2 fun a b j w => by unfold clS; omega, relc_re h hok g2 g3, fun _ _ _ _ => rfl⟩
        rw [s119]
        simp (disch := first | omega | assumption) only [s119_0, s119_1, s119_4, s119_5, s119_8, s119_11, s119_12, s119_13, s119_16, s119_17, s119_18, s119_21, s119_24, s119_25, s119_28, s119_29, s119_30, s119_33, s119_34, s119_35, s119_36, s119_39, s119_40, s119_41, s119_44, s119_45, s119_48, s119_51, s119_52, s119_55, s119_56, s119_59, s119_60, nI_le2, nI_lt2, nI_eq2, nI_lt0, nI_0le, nI_0lt, nI_le0, nI_eq0, nI_clamp, nI_add, bu_nI, bb_0, bb_1, rf_s, rf_n, tl_s, tl_n, am_th_some, if_true, if_false, sI_eq, uI_eq, and_self, true_and, and_true, not_false_eq_true, not_true_eq_false, Nat.reduceEqDiff, Nat.reduceLeDiff, Nat.reduceLT, Nat.reduceAdd, Nat.reduceMul, Nat.reduceSub, Nat.zero_add, p0, C.pa.2.1, g1]
      · have C := get_m (Q := Q) hr h hok
        have p0 : am_cal (d + 89) _ _ _ _ _ = _ := C.food L (d + 87) x
        rw [if_neg e0] at p0
        obtain ⟨J, g1, g2, g3⟩ := m_refused (d := d + 89) (Q := Q) hr h.1.2.2.2 (k := 0) (by decide)
        refine ⟨J, Q, ?_, fr_mo g2 fun a b j w => by unfold mdS; omega, relm_re h hok g2 g3, fun _ _ _ _ => rfl⟩
        rw [s231]
        simp (disch := first | omega | assumption) only [s231_0, s231_1, s231_2, s231_3, s231_6, s231_9, s231_10, s231_13, s231_14, s231_17, s231_18, s231_21, s231_22, s231_25, s231_26, s231_29, s231_32, s231_33, s231_34, s231_35, s231_38, s231_39, s231_42, s231_44, s231_45, s231_46, s231_47, s231_50, s231_51, s231_54, s231_55, s231_58, s231_60, s231_61, s231_62, s231_63, s231_64, s231_67, s231_68, s231_71, s231_72, s231_75, s231_77, s231_78, s231_79, s231_80, s231_81, s231_84, s231_85, s231_86, s231_89, s231_90, s231_93, s231_94, s231_95, s231_96, s231_98, s231_100, s231_103, s231_104, s231_107, s231_108, s231_109, s231_110, s231_111, s231_112, s231_115, s231_118, s231_119, nI_le2, nI_lt2, nI_eq2, nI_lt0, nI_0le, nI_0lt, nI_le0, nI_eq0, nI_clamp, nI_add, bu_nI, bb_0, bb_1, rf_s, rf_n, tl_s, tl_n, am_th_some, if_true, if_false, sI_eq, uI_eq, and_self, true_and, and_true, not_false_eq_true, not_true_eq_false, Nat.reduceEqDiff, Nat.reduceLeDiff, Nat.reduceLT, Nat.reduceAdd, Nat.reduceMul, Nat.reduceSub, Nat.zero_add, p0, g1]
end
