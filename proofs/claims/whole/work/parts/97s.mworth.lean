/-! WORTH: the model. -/
def zt_at (I : am_I) : List Int32 → Prop
  | [] => True
  | x :: S => I 51 0 S.length = x ∧ zt_at I S
theorem zt_st {I : am_I} {k : Nat} {v : Int32} : ∀ {S : List Int32}, zt_at I S → S.length ≤ k → zt_at (am_sI I 51 0 (am_uI (I 51 0) k v)) S := by
  intro S
  induction S with
  | nil => intro _ _; trivial
  | cons x S ih =>
    intro h hk
    rw [List.length_cons] at hk
    exact ⟨by rw [sI_eq, uI_ne (by omega)]; exact h.1, ih h.2 (by omega)⟩
theorem oc_lt (o : Nat) : sp_oc o ≤ 11 ∧ 2 ≤ sp_oc o ∧ ¬ sp_oc o = 9 := by
  unfold sp_oc
  repeat' split
  all_goals decide
def zm_law (I : am_I) (n : Nat) (K : zl_K) : Prop := zm_ml I n (zk_fl K) ∧ zk_at I n K
theorem ml_fr {n : Nat} {C : List Nat} {I J : am_I} (h : zm_ml I n C) (hf : am_fr (fun a _ _ => a = 51) I J) : zm_ml J n C := ⟨(hf _ _ _ (by omega)).trans h.1, fun i hi => ⟨(hf _ _ _ (by omega)).trans (h.2 i hi).1, (hf _ _ _ (by omega)).trans (h.2 i hi).2⟩⟩
section
variable {d n i from' to' : Nat} {I : am_I} {R : am_R} {Q : am_Q} {A : List Nat} {S : List Int32} {t : Nat} {l2 : Value}
theorem mw_tok (hr : mm_R R) (hn : n < 5) (hm : zm_ml I n A) (hA : A.length ≤ 480) (hk : zt_at I S) (hi : i < A.length) (hit : i < to') (hto : to' ≤ 520) (ht : A[i] = t) (ho : zr_ok S t) : ∃ J : am_I, am_ev (d + 2) 187 12 [.ref (am_mk 12 0), .int (nI n), l2, .int (nI to'), .int (nI S.length), .int (nI (520 * n + i))] [] I R Q = am_ev (d + 2) 187 12 [.ref (am_mk 12 0), .int (nI n), l2, .int (nI to'), .int (nI (zr_f (I 50 0) S t).length), .int (nI (520 * n + (i + 1)))] [] J R Q ∧ am_fr (fun a _ _ => a = 51) I J ∧ zt_at J (zr_f (I 50 0) S t) := by
  have r6 := mr6 hr
  have r7 := mr7 hr
  have r15 := mr15 hr
  have r16 := mr16 hr
  obtain ⟨c1, c2⟩ := hm.2 i hi
  rw [ht] at c1 c2
  have hb : 520 * n + i < 2600 := by omega
  have e1 : ¬ 520 * n + to' ≤ 520 * n + i := by omega
  have e0 : nI (520 * n + i) + nI 1 = nI (520 * n + (i + 1)) := nI_add _ _
  have hne : ((nI 1 : Int32) = 0) = False := by decide
  obtain ⟨hSl, ho⟩ := ho
  rcases ho with h1 | ⟨x, rfl, h1, h2, h3⟩ | ⟨rfl, x, S', rfl, hx⟩ | ⟨o, r, l, S', rfl, h1, rfl, h2, h3⟩
  · rw [zl_k, if_pos h1] at c1
    rw [zl_v, if_pos h1] at c2
    have hf : am_fr (fun a _ _ => a = 51) I (am_sI I 51 0 (am_uI (I 51 0) S.length (nI t))) := fr_s fr_rf rfl
    refine ⟨_, ?_, hf, ?_⟩
    · rw [zr_f, if_pos h1, List.length_cons, s187_12]
      simp (disch := first | omega | assumption) only [s187_0, s187_1, s187_3, s187_6, s187_7, s187_8, s187_9, s187_10, s187_14, s187_17, s187_18, s187_19, s187_20, s187_21, s187_24, s187_25, s187_28, s187_30, s187_31, s187_34, s187_35, s187_38, s187_40, s187_41, s187_42, s187_45, s187_46, s187_49, s187_51, s187_52, s187_55, s187_57, s187_58, s187_61, s187_62, s187_65, s187_67, s187_68, s187_71, s187_72, s187_75, s187_76, s187_79, s187_81, s187_82, s187_83, s187_84, s187_87, s187_90, s187_91, s187_94, s187_96, s187_97, s187_99, s187_102, s187_103, s187_106, s187_108, s187_109, s187_110, s187_111, s187_112, s187_115, s187_117, s187_118, s187_119, s187_120, s187_121, s187_122, s187_125, s187_128, s187_129, s187_132, s187_134, s187_135, s187_136, s187_137, s187_140, s187_142, s187_143, s187_144, s187_147, s187_149, s187_150, s187_151, s187_152, s187_153, s187_154, s187_157, s187_159, s187_160, s187_161, s187_164, s187_165, s187_168, s187_171, s187_172, s187_175, s187_176, s187_177, nI_le2, nI_lt2, nI_eq2, nI_lt0, nI_0le, nI_0lt, nI_le0, nI_eq0, nI_clamp, nI_add, bu_nI, bb_0, bb_1, rf_s, rf_n, tl_s, tl_n, am_th_some, if_true, if_false, sI_eq, uI_eq, and_self, true_and, and_true, not_false_eq_true, not_true_eq_false, Nat.reduceEqDiff, Nat.reduceLeDiff, Nat.reduceLT, Nat.reduceAdd, Nat.reduceMul, Nat.reduceSub, Nat.zero_add, r6, r7, r15, r16, c1, c2, e1, hb, hSl, nI_mul]
      rfl
    · rw [zr_f, if_pos h1]; exact ⟨by rw [sI_eq, uI_eq], zt_st hk (Nat.le_refl _)⟩
  · have hk1 : zl_k (10000 + x) = 1 := by rw [zl_k, if_neg (by omega), Nat.add_sub_cancel_left, if_pos h3]
    have hv1 : zl_v (10000 + x) = zl_t x := by rw [zl_v, if_neg (by omega), Nat.add_sub_cancel_left, if_pos h3]
    rw [hk1] at c1
    rw [hv1] at c2
    have hf : am_fr (fun a _ _ => a = 51) I (am_sI I 51 0 (am_uI (I 51 0) S.length (I 50 0 (zl_t x)))) := fr_s fr_rf rfl
    have hz : zr_f (I 50 0) S (10000 + x) = I 50 0 (zl_t x) :: S := by rw [zr_f, if_neg (by omega), Nat.add_sub_cancel_left, if_pos h3]
    refine ⟨_, ?_, hf, ?_⟩
    · rw [hz, List.length_cons, s187_12]
      simp (disch := first | omega | assumption) only [s187_0, s187_1, s187_3, s187_6, s187_7, s187_8, s187_9, s187_10, s187_14, s187_17, s187_18, s187_19, s187_20, s187_21, s187_24, s187_25, s187_28, s187_30, s187_31, s187_34, s187_35, s187_38, s187_40, s187_41, s187_42, s187_45, s187_46, s187_49, s187_51, s187_52, s187_55, s187_57, s187_58, s187_61, s187_62, s187_65, s187_67, s187_68, s187_71, s187_72, s187_75, s187_76, s187_79, s187_81, s187_82, s187_83, s187_84, s187_87, s187_90, s187_91, s187_94, s187_96, s187_97, s187_99, s187_102, s187_103, s187_106, s187_108, s187_109, s187_110, s187_111, s187_112, s187_115, s187_117, s187_118, s187_119, s187_120, s187_121, s187_122, s187_125, s187_128, s187_129, s187_132, s187_134, s187_135, s187_136, s187_137, s187_140, s187_142, s187_143, s187_144, s187_147, s187_149, s187_150, s187_151, s187_152, s187_153, s187_154, s187_157, s187_159, s187_160, s187_161, s187_164, s187_165, s187_168, s187_171, s187_172, s187_175, s187_176, s187_177, nI_le2, nI_lt2, nI_eq2, nI_lt0, nI_0le, nI_0lt, nI_le0, nI_eq0, nI_clamp, nI_add, bu_nI, bb_0, bb_1, rf_s, rf_n, tl_s, tl_n, am_th_some, if_true, if_false, sI_eq, uI_eq, and_self, true_and, and_true, not_false_eq_true, not_true_eq_false, Nat.reduceEqDiff, Nat.reduceLeDiff, Nat.reduceLT, Nat.reduceAdd, Nat.reduceMul, Nat.reduceSub, Nat.zero_add, r6, r7, r15, r16, c1, c2, e1, hb, hSl, h3, hne, nI_mul]
      rfl
    · rw [hz]; exact ⟨by rw [sI_eq, uI_eq], zt_st hk (Nat.le_refl _)⟩
  · rw [show zl_k 10033 = 9 from rfl] at c1
    obtain ⟨k1, k2⟩ := hk
    rw [List.length_cons] at hSl
    have hz : zr_f (I 50 0) (x :: S') 10033 = (if x = nI 0 then nI 1 else nI 0) :: S' := by rw [zr_f, if_neg (by decide), if_neg (by decide), if_pos rfl, zr_n]
    have e3 : nI (S'.length + 1) - nI 1 = nI S'.length := nI_sub (by omega)
    have hv : nI 1 - x = if x = nI 0 then nI 1 else nI 0 := by rcases hx with rfl | rfl <;> decide
    have hf : am_fr (fun a _ _ => a = 51) I (am_sI I 51 0 (am_uI (I 51 0) S'.length (if x = nI 0 then nI 1 else nI 0))) := fr_s fr_rf rfl
    refine ⟨_, ?_, hf, ?_⟩
    · rw [hz, List.length_cons, List.length_cons, s187_12]
      simp (disch := first | omega | assumption) only [s187_0, s187_1, s187_3, s187_6, s187_7, s187_8, s187_9, s187_10, s187_14, s187_17, s187_18, s187_19, s187_20, s187_21, s187_24, s187_25, s187_28, s187_30, s187_31, s187_34, s187_35, s187_38, s187_40, s187_41, s187_42, s187_45, s187_46, s187_49, s187_51, s187_52, s187_55, s187_57, s187_58, s187_61, s187_62, s187_65, s187_67, s187_68, s187_71, s187_72, s187_75, s187_76, s187_79, s187_81, s187_82, s187_83, s187_84, s187_87, s187_90, s187_91, s187_94, s187_96, s187_97, s187_99, s187_102, s187_103, s187_106, s187_108, s187_109, s187_110, s187_111, s187_112, s187_115, s187_117, s187_118, s187_119, s187_120, s187_121, s187_122, s187_125, s187_128, s187_129, s187_132, s187_134, s187_135, s187_136, s187_137, s187_140, s187_142, s187_143, s187_144, s187_147, s187_149, s187_150, s187_151, s187_152, s187_153, s187_154, s187_157, s187_159, s187_160, s187_161, s187_164, s187_165, s187_168, s187_171, s187_172, s187_175, s187_176, s187_177, nI_le2, nI_lt2, nI_eq2, nI_lt0, nI_0le, nI_0lt, nI_le0, nI_eq0, nI_clamp, nI_add, bu_nI, bb_0, bb_1, rf_s, rf_n, tl_s, tl_n, am_th_some, if_true, if_false, sI_eq, uI_eq, and_self, true_and, and_true, not_false_eq_true, not_true_eq_false, Nat.reduceEqDiff, Nat.reduceLeDiff, Nat.reduceLT, Nat.reduceAdd, Nat.reduceMul, Nat.reduceSub, Nat.zero_add, r6, r7, r15, r16, c1, c2, e1, hb, hSl, e3, k1, hv, hne, nI_mul]
      rfl
    · rw [hz]; exact ⟨by rw [sI_eq, uI_eq], zt_st k2 (Nat.le_refl _)⟩
  · have ho2 : o < 256 := by unfold zo_in at h1; omega
    obtain ⟨t1, t2⟩ := zo_t o ho2 h1
    have hk1 : zl_k (10000 + o) = sp_oc o := by rw [zl_k, if_neg (by omega), Nat.add_sub_cancel_left, if_neg t1, if_neg (by omega)]
    rw [hk1] at c1
    obtain ⟨k1, k2, k3⟩ := hk
    rw [List.length_cons] at k1
    rw [List.length_cons, List.length_cons] at hSl
    obtain ⟨o1, o2, o3⟩ := oc_lt o
    have o4 : ¬ sp_oc o = 0 := by omega
    have o5 : ¬ sp_oc o = 1 := by omega
    have hz : zr_f (I 50 0) (r :: l :: S') (10000 + o) = sp_op o l r :: S' := by rw [zr_f, if_neg (by omega), Nat.add_sub_cancel_left, if_neg t1, if_neg (by omega), zr_2]
    have e3 : nI (S'.length + 1 + 1) + -nI 1 = nI (S'.length + 1) := nI_dec (by omega)
    have e4 : nI (S'.length + 1) - nI 1 = nI S'.length := nI_sub (by omega)
    have hw := m_worked (d := d) (I := I) (R := R) (Q := Q) (l := l) (r := r) h1 h2.1 h3
    have hf : am_fr (fun a _ _ => a = 51) I (am_sI I 51 0 (am_uI (I 51 0) S'.length (sp_op o l r))) := fr_s fr_rf rfl
    refine ⟨_, ?_, hf, ?_⟩
    · rw [hz, List.length_cons, List.length_cons, List.length_cons, s187_12]
      simp (disch := first | omega | assumption) only [s187_0, s187_1, s187_3, s187_6, s187_7, s187_8, s187_9, s187_10, s187_14, s187_17, s187_18, s187_19, s187_20, s187_21, s187_24, s187_25, s187_28, s187_30, s187_31, s187_34, s187_35, s187_38, s187_40, s187_41, s187_42, s187_45, s187_46, s187_49, s187_51, s187_52, s187_55, s187_57, s187_58, s187_61, s187_62, s187_65, s187_67, s187_68, s187_71, s187_72, s187_75, s187_76, s187_79, s187_81, s187_82, s187_83, s187_84, s187_87, s187_90, s187_91, s187_94, s187_96, s187_97, s187_99, s187_102, s187_103, s187_106, s187_108, s187_109, s187_110, s187_111, s187_112, s187_115, s187_117, s187_118, s187_119, s187_120, s187_121, s187_122, s187_125, s187_128, s187_129, s187_132, s187_134, s187_135, s187_136, s187_137, s187_140, s187_142, s187_143, s187_144, s187_147, s187_149, s187_150, s187_151, s187_152, s187_153, s187_154, s187_157, s187_159, s187_160, s187_161, s187_164, s187_165, s187_168, s187_171, s187_172, s187_175, s187_176, s187_177, nI_le2, nI_lt2, nI_eq2, nI_lt0, nI_0le, nI_0lt, nI_le0, nI_eq0, nI_clamp, nI_add, bu_nI, bb_0, bb_1, rf_s, rf_n, tl_s, tl_n, am_th_some, if_true, if_false, sI_eq, uI_eq, and_self, true_and, and_true, not_false_eq_true, not_true_eq_false, Nat.reduceEqDiff, Nat.reduceLeDiff, Nat.reduceLT, Nat.reduceAdd, Nat.reduceMul, Nat.reduceSub, Nat.zero_add, r6, r7, r15, r16, c1, c2, e1, hb, hSl, e3, e4, k1, k2, o3, o4, o5, hw, hne, nI_mul]
      rfl
    · rw [hz]; exact ⟨by rw [sI_eq, uI_eq], zt_st k3 (Nat.le_refl _)⟩
theorem mw_run (hr : mm_R R) (hn : n < 5) (hto : to' ≤ 520) : ∀ (D : List Nat) (A : List Nat) (S : List Int32) (i : Nat) (I : am_I), zm_ml I n A → A.length ≤ 480 → zt_at I S → (∃ E F, A = E ++ D ++ F ∧ E.length = i) → i + D.length ≤ to' → zr_oks (I 50 0) D S → ∃ J : am_I, am_ev (d + 2) 187 12 [.ref (am_mk 12 0), .int (nI n), l2, .int (nI to'), .int (nI S.length), .int (nI (520 * n + i))] [] I R Q = am_ev (d + 2) 187 12 [.ref (am_mk 12 0), .int (nI n), l2, .int (nI to'), .int (nI (zr_run (I 50 0) D S).length), .int (nI (520 * n + (i + D.length)))] [] J R Q ∧ am_fr (fun a _ _ => a = 51) I J ∧ zt_at J (zr_run (I 50 0) D S) := by
  intro D
  induction D with
  | nil => intro A S i I _ _ hk _ _ _; exact ⟨I, rfl, fr_rf, hk⟩
  | cons t D ih =>
    intro A S i I hm hA hk hE hit ho
    obtain ⟨E, F, e1, e2⟩ := hE
    rw [List.length_cons] at hit
    have hi : i < A.length := by rw [e1, List.length_append, List.length_append, List.length_cons]; omega
    have ht : A[i] = t := by
      simp only [e1, List.append_assoc]
      rw [List.getElem_append_right (by omega)]
      simp [e2]
    obtain ⟨J, g, f, k⟩ := mw_tok (d := d) (Q := Q) (l2 := l2) hr hn hm hA hk hi (show i < to' by omega) hto ht ho.1
    have e50 : J 50 0 = I 50 0 := funext fun j => f _ _ _ (by omega)
    obtain ⟨J2, g2, f2, k2⟩ := ih A _ (i + 1) J (ml_fr hm f) hA k ⟨E ++ [t], F, by rw [e1]; simp, by rw [List.length_append, List.length_singleton, e2]⟩ (by omega) (by rw [e50]; exact ho.2)
    rw [e50] at g2 k2
    refine ⟨J2, ?_, fr_tr f f2, k2⟩
    rw [g, g2, List.length_cons, show i + 1 + D.length = i + (D.length + 1) by omega]
    rfl
theorem m_workOut (hr : mm_R R) (hn : n < 5) (hm : zm_ml I n A) (hA : A.length ≤ 480) {D : List Nat} (hE : ∃ E F, A = E ++ D ++ F ∧ E.length = i) (hto : to' = i + D.length) {b : Bool} (hD : zh b 30 D) (hf : zf_ok (I 50 0)) : ∃ J : am_I, am_cal (d + 2) 187 [.ref (am_mk 12 0), .int (nI n), .int (nI i), .int (nI to')] I R Q = some (some (.int (zl_val (I 50 0) D)), J, R, Q) ∧ am_fr (fun a _ _ => a = 51) I J := by
  obtain ⟨E, F, e1, e2⟩ := hE
  have hle : i + D.length ≤ A.length := by rw [e1, List.length_append, List.length_append]; omega
  obtain ⟨u1, u2⟩ := zh_val hD hf
  obtain ⟨o1, o2⟩ := u2 [] (by decide)
  obtain ⟨J, g, f, k⟩ := mw_run (d := d) (Q := Q) (l2 := .int (nI i)) hr hn (show to' ≤ 520 by omega) D A [] i I hm hA trivial ⟨E, F, e1, e2⟩ (by omega) o1
  rw [o2] at g k
  have r16 := mr16 hr
  have k0 : J 51 0 0 = zl_val (I 50 0) D := k.1
  have e3 : 520 * n + to' ≤ 520 * n + (i + D.length) := by omega
  refine ⟨J, ?_, f⟩
  rw [s187]
  simp (disch := first | omega | assumption) only [s187_0, s187_1, s187_3, s187_6, s187_7, s187_8, s187_9, s187_10, s187_14, s187_17, s187_18, s187_19, s187_20, s187_21, s187_24, s187_25, s187_28, s187_30, s187_31, s187_34, s187_35, s187_38, s187_40, s187_41, s187_42, s187_45, s187_46, s187_49, s187_51, s187_52, s187_55, s187_57, s187_58, s187_61, s187_62, s187_65, s187_67, s187_68, s187_71, s187_72, s187_75, s187_76, s187_79, s187_81, s187_82, s187_83, s187_84, s187_87, s187_90, s187_91, s187_94, s187_96, s187_97, s187_99, s187_102, s187_103, s187_106, s187_108, s187_109, s187_110, s187_111, s187_112, s187_115, s187_117, s187_118, s187_119, s187_120, s187_121, s187_122, s187_125, s187_128, s187_129, s187_132, s187_134, s187_135, s187_136, s187_137, s187_140, s187_142, s187_143, s187_144, s187_147, s187_149, s187_150, s187_151, s187_152, s187_153, s187_154, s187_157, s187_159, s187_160, s187_161, s187_164, s187_165, s187_168, s187_171, s187_172, s187_175, s187_176, s187_177, nI_le2, nI_lt2, nI_eq2, nI_lt0, nI_0le, nI_0lt, nI_le0, nI_eq0, nI_clamp, nI_add, bu_nI, bb_0, bb_1, rf_s, rf_n, tl_s, tl_n, am_th_some, if_true, if_false, sI_eq, uI_eq, and_self, true_and, and_true, not_false_eq_true, not_true_eq_false, Nat.reduceEqDiff, Nat.reduceLeDiff, Nat.reduceLT, Nat.reduceAdd, Nat.reduceMul, Nat.reduceSub, Nat.zero_add, nI_mul]
  refine g.trans ?_
  rw [s187_12]
  simp (disch := first | omega | assumption) only [s187_0, s187_1, s187_3, s187_6, s187_7, s187_8, s187_9, s187_10, s187_14, s187_17, s187_18, s187_19, s187_20, s187_21, s187_24, s187_25, s187_28, s187_30, s187_31, s187_34, s187_35, s187_38, s187_40, s187_41, s187_42, s187_45, s187_46, s187_49, s187_51, s187_52, s187_55, s187_57, s187_58, s187_61, s187_62, s187_65, s187_67, s187_68, s187_71, s187_72, s187_75, s187_76, s187_79, s187_81, s187_82, s187_83, s187_84, s187_87, s187_90, s187_91, s187_94, s187_96, s187_97, s187_99, s187_102, s187_103, s187_106, s187_108, s187_109, s187_110, s187_111, s187_112, s187_115, s187_117, s187_118, s187_119, s187_120, s187_121, s187_122, s187_125, s187_128, s187_129, s187_132, s187_134, s187_135, s187_136, s187_137, s187_140, s187_142, s187_143, s187_144, s187_147, s187_149, s187_150, s187_151, s187_152, s187_153, s187_154, s187_157, s187_159, s187_160, s187_161, s187_164, s187_165, s187_168, s187_171, s187_172, s187_175, s187_176, s187_177, nI_le2, nI_lt2, nI_eq2, nI_lt0, nI_0le, nI_0lt, nI_le0, nI_eq0, nI_clamp, nI_add, bu_nI, bb_0, bb_1, rf_s, rf_n, tl_s, tl_n, am_th_some, if_true, if_false, sI_eq, uI_eq, and_self, true_and, and_true, not_false_eq_true, not_true_eq_false, Nat.reduceEqDiff, Nat.reduceLeDiff, Nat.reduceLT, Nat.reduceAdd, Nat.reduceMul, Nat.reduceSub, Nat.zero_add, r16, k0, e3, nI_mul]
theorem mw_cls (hr : mm_R R) (hn : n < 5) {K : zl_K} (hK : K.length ≤ 140) (hA : (zk_fl K).length ≤ 480) (hok : zl_ok K) {f : Nat → Int32} (hf : zf_ok f) : ∀ (K2 K1 : zl_K) (I : am_I), K = K1 ++ K2 → zm_law I n K → I 50 0 = f → ∃ J : am_I, am_ev (d + 3) 188 6 [.ref (am_mk 12 0), .int (nI n), .int (nI (140 * n + K1.length))] [] I R Q = some (some (.int (zl_V K2 f)), J, R, Q) ∧ am_fr (fun a _ _ => a = 51) I J := by
  intro K2
  have r9 := mr9 hr
  have r10 := mr10 hr
  have r11 := mr11 hr
  have r12 := mr12 hr
  induction K2 with
  | nil =>
    intro K1 I hKK hm h50
    have h46 := hm.2.1
    have hl : K.length = K1.length := by rw [hKK, List.append_nil]
    have e1 : 140 * n + K.length ≤ 140 * n + K1.length := by omega
    refine ⟨I, ?_, fr_rf⟩
    rw [s188_6, zl_V]
    simp (disch := first | omega | assumption) only [s188_0, s188_3, s188_4, s188_5, s188_7, s188_10, s188_11, s188_12, s188_13, s188_16, s188_17, s188_18, s188_19, s188_22, s188_23, s188_26, s188_27, s188_28, s188_29, s188_32, s188_33, s188_34, s188_37, s188_38, s188_39, s188_40, s188_43, s188_44, s188_45, s188_46, s188_49, s188_50, s188_51, s188_54, s188_57, s188_58, s188_59, s188_60, s188_63, s188_64, s188_65, s188_66, s188_69, s188_70, s188_71, s188_74, s188_75, s188_78, s188_81, s188_82, nI_le2, nI_lt2, nI_eq2, nI_lt0, nI_0le, nI_0lt, nI_le0, nI_eq0, nI_clamp, nI_add, bu_nI, bb_0, bb_1, rf_s, rf_n, tl_s, tl_n, am_th_some, if_true, if_false, sI_eq, uI_eq, and_self, true_and, and_true, not_false_eq_true, not_true_eq_false, Nat.reduceEqDiff, Nat.reduceLeDiff, Nat.reduceLT, Nat.reduceAdd, Nat.reduceMul, Nat.reduceSub, Nat.zero_add, r9, h46, e1, nI_mul]
  | cons p K2 ih =>
    obtain ⟨T, U⟩ := p
    intro K1 I hKK hm h50
    have h46 := hm.2.1
    have hlen : K.length = K1.length + (K2.length + 1) := by rw [hKK, List.length_append, List.length_cons]
    have hi : K1.length < K.length := by omega
    obtain ⟨c1, c2, c3⟩ := hm.2.2 K1.length hi
    have hget : K[K1.length] = (T, U) := by
      simp only [hKK]
      rw [List.getElem_append_right (by omega)]
      simp
    have htk : K.take K1.length = K1 := by rw [hKK, List.take_left]
    rw [htk] at c1
    rw [htk, hget] at c2 c3
    have c2 : I 48 0 (140 * n + K1.length) = nI ((zk_fl K1).length + T.length) := c2
    have c3 : I 49 0 (140 * n + K1.length) = nI ((zk_fl K1).length + T.length + U.length) := c3
    have efl : zk_fl K = zk_fl K1 ++ (T ++ U) ++ zk_fl K2 := by
      rw [hKK, fl_app]
      simp [zk_fl]
    have hfl : (zk_fl K1).length + T.length + U.length ≤ 480 := by
      rw [efl, List.length_append, List.length_append, List.length_append] at hA
      omega
    obtain ⟨hT, hU⟩ := hok (T, U) (by rw [hKK]; exact List.mem_append_right _ List.mem_cons_self)
    have e1 : ¬ 140 * n + K.length ≤ 140 * n + K1.length := by omega
    have hb : 140 * n + K1.length < 700 := by omega
    rw [zl_V]
    by_cases hTe : T = []
    · rw [if_pos hTe]
      have hT0 : T.length = 0 := by rw [hTe]; rfl
      rw [hT0, Nat.add_zero] at c2 c3
      obtain ⟨J, g, fj⟩ := m_workOut (d := d) (Q := Q) (i := (zk_fl K1).length) (to' := (zk_fl K1).length + U.length) (D := U) (b := false) hr hn hm.1 hA ⟨zk_fl K1, zk_fl K2, by rw [efl, hTe]; simp, rfl⟩ rfl hU (by rw [h50]; exact hf)
      rw [h50] at g
      refine ⟨J, ?_, fj⟩
      rw [s188_6]
      simp (disch := first | omega | assumption) only [s188_0, s188_3, s188_4, s188_5, s188_7, s188_10, s188_11, s188_12, s188_13, s188_16, s188_17, s188_18, s188_19, s188_22, s188_23, s188_26, s188_27, s188_28, s188_29, s188_32, s188_33, s188_34, s188_37, s188_38, s188_39, s188_40, s188_43, s188_44, s188_45, s188_46, s188_49, s188_50, s188_51, s188_54, s188_57, s188_58, s188_59, s188_60, s188_63, s188_64, s188_65, s188_66, s188_69, s188_70, s188_71, s188_74, s188_75, s188_78, s188_81, s188_82, nI_le2, nI_lt2, nI_eq2, nI_lt0, nI_0le, nI_0lt, nI_le0, nI_eq0, nI_clamp, nI_add, bu_nI, bb_0, bb_1, rf_s, rf_n, tl_s, tl_n, am_th_some, if_true, if_false, sI_eq, uI_eq, and_self, true_and, and_true, not_false_eq_true, not_true_eq_false, Nat.reduceEqDiff, Nat.reduceLeDiff, Nat.reduceLT, Nat.reduceAdd, Nat.reduceMul, Nat.reduceSub, Nat.zero_add, r9, r10, r11, r12, h46, e1, hb, c1, c2, c3, g, nI_mul]
    · rw [if_neg hTe]
      have hT := hT.resolve_left hTe
      have hT0 : ¬ T.length = 0 := fun w => hTe (List.length_eq_zero_iff.mp w)
      have e2 : ¬ (zk_fl K1).length = (zk_fl K1).length + T.length := by omega
      obtain ⟨J, g, fj⟩ := m_workOut (d := d) (Q := Q) (i := (zk_fl K1).length) (to' := (zk_fl K1).length + T.length) (D := T) (b := true) hr hn hm.1 hA ⟨zk_fl K1, U ++ zk_fl K2, by rw [efl]; simp, rfl⟩ rfl hT (by rw [h50]; exact hf)
      rw [h50] at g
      have j50 : J 50 0 = f := (funext fun j => fj _ _ _ (by omega)).trans h50
      have hmJ : zm_law J n K := ⟨ml_fr hm.1 fj, (fj _ _ _ (by omega)).trans hm.2.1, fun i hi => by rw [fj 47 _ _ (by omega), fj 48 _ _ (by omega), fj 49 _ _ (by omega)]; exact hm.2.2 i hi⟩
      have d2 : J 48 0 (140 * n + K1.length) = nI ((zk_fl K1).length + T.length) := (fj _ _ _ (by omega)).trans c2
      have d3 : J 49 0 (140 * n + K1.length) = nI ((zk_fl K1).length + T.length + U.length) := (fj _ _ _ (by omega)).trans c3
      by_cases y0 : zl_val f T = nI 0
      · rw [if_pos y0]
        rw [y0] at g
        obtain ⟨J2, g2, f2⟩ := ih (K1 ++ [(T, U)]) J (by rw [hKK]; simp) hmJ j50
        rw [List.length_append, List.length_singleton] at g2
        refine ⟨J2, ?_, fr_tr fj f2⟩
        rw [s188_6]
        simp (disch := first | omega | assumption) only [s188_0, s188_3, s188_4, s188_5, s188_7, s188_10, s188_11, s188_12, s188_13, s188_16, s188_17, s188_18, s188_19, s188_22, s188_23, s188_26, s188_27, s188_28, s188_29, s188_32, s188_33, s188_34, s188_37, s188_38, s188_39, s188_40, s188_43, s188_44, s188_45, s188_46, s188_49, s188_50, s188_51, s188_54, s188_57, s188_58, s188_59, s188_60, s188_63, s188_64, s188_65, s188_66, s188_69, s188_70, s188_71, s188_74, s188_75, s188_78, s188_81, s188_82, nI_le2, nI_lt2, nI_eq2, nI_lt0, nI_0le, nI_0lt, nI_le0, nI_eq0, nI_clamp, nI_add, bu_nI, bb_0, bb_1, rf_s, rf_n, tl_s, tl_n, am_th_some, if_true, if_false, sI_eq, uI_eq, and_self, true_and, and_true, not_false_eq_true, not_true_eq_false, Nat.reduceEqDiff, Nat.reduceLeDiff, Nat.reduceLT, Nat.reduceAdd, Nat.reduceMul, Nat.reduceSub, Nat.zero_add, r9, r10, r11, r12, h46, e1, hb, c1, c2, c3, e2, g, nI_mul]
        exact g2
      · rw [if_neg y0]
        have y0' : ¬ zl_val f T = 0 := y0
        obtain ⟨J2, g2, f2⟩ := m_workOut (d := d) (Q := Q) (i := (zk_fl K1).length + T.length) (to' := (zk_fl K1).length + T.length + U.length) (D := U) (b := false) hr hn hmJ.1 hA ⟨zk_fl K1 ++ T, zk_fl K2, by rw [efl]; simp, by rw [List.length_append]⟩ rfl hU (by rw [j50]; exact hf)
        rw [j50] at g2
        refine ⟨J2, ?_, fr_tr fj f2⟩
        rw [s188_6]
        simp (disch := first | omega | assumption) only [s188_0, s188_3, s188_4, s188_5, s188_7, s188_10, s188_11, s188_12, s188_13, s188_16, s188_17, s188_18, s188_19, s188_22, s188_23, s188_26, s188_27, s188_28, s188_29, s188_32, s188_33, s188_34, s188_37, s188_38, s188_39, s188_40, s188_43, s188_44, s188_45, s188_46, s188_49, s188_50, s188_51, s188_54, s188_57, s188_58, s188_59, s188_60, s188_63, s188_64, s188_65, s188_66, s188_69, s188_70, s188_71, s188_74, s188_75, s188_78, s188_81, s188_82, nI_le2, nI_lt2, nI_eq2, nI_lt0, nI_0le, nI_0lt, nI_le0, nI_eq0, nI_clamp, nI_add, bu_nI, bb_0, bb_1, rf_s, rf_n, tl_s, tl_n, am_th_some, if_true, if_false, sI_eq, uI_eq, and_self, true_and, and_true, not_false_eq_true, not_true_eq_false, Nat.reduceEqDiff, Nat.reduceLeDiff, Nat.reduceLT, Nat.reduceAdd, Nat.reduceMul, Nat.reduceSub, Nat.zero_add, r9, r10, r11, r12, h46, e1, hb, c1, c2, c3, e2, g, y0', d2, d3, g2, nI_mul]
theorem m_worthOf (hr : mm_R R) (hn : n < 5) {K : zl_K} (hK : K.length ≤ 140) (hA : (zk_fl K).length ≤ 480) (hok : zl_ok K) (hm : zm_law I n K) (hf : zf_ok (I 50 0)) : ∃ J : am_I, am_cal (d + 3) 188 [.ref (am_mk 12 0), .int (nI n)] I R Q = some (some (.int (zl_V K (I 50 0))), J, R, Q) ∧ am_fr (fun a _ _ => a = 51) I J := by
  obtain ⟨J, g, f⟩ := mw_cls (d := d) (Q := Q) hr hn hK hA hok hf K [] I rfl hm rfl
  refine ⟨J, ?_, f⟩
  rw [s188]
  simp (disch := first | omega | assumption) only [s188_0, s188_3, s188_4, s188_5, s188_7, s188_10, s188_11, s188_12, s188_13, s188_16, s188_17, s188_18, s188_19, s188_22, s188_23, s188_26, s188_27, s188_28, s188_29, s188_32, s188_33, s188_34, s188_37, s188_38, s188_39, s188_40, s188_43, s188_44, s188_45, s188_46, s188_49, s188_50, s188_51, s188_54, s188_57, s188_58, s188_59, s188_60, s188_63, s188_64, s188_65, s188_66, s188_69, s188_70, s188_71, s188_74, s188_75, s188_78, s188_81, s188_82, nI_le2, nI_lt2, nI_eq2, nI_lt0, nI_0le, nI_0lt, nI_le0, nI_eq0, nI_clamp, nI_add, bu_nI, bb_0, bb_1, rf_s, rf_n, tl_s, tl_n, am_th_some, if_true, if_false, sI_eq, uI_eq, and_self, true_and, and_true, not_false_eq_true, not_true_eq_false, Nat.reduceEqDiff, Nat.reduceLeDiff, Nat.reduceLT, Nat.reduceAdd, Nat.reduceMul, Nat.reduceSub, Nat.zero_add, nI_mul]
  exact g
end
