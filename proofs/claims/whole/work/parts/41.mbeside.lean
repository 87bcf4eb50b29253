/-! The model: what is beside a CELL, EDGES, sums. -/
theorem bm_32 {n : Int} (h1 : -2 ^ 31 ≤ n) (h2 : n < 2 ^ 31) : n.bmod (2 ^ 32) = n := by
  rw [Int.bmod_def]; omega
theorem nI_div {a b : Nat} (ha : a < 2 ^ 31) (hb : b < 2 ^ 31) : nI a / nI b = nI (a / b) := by
  have hd : a / b ≤ a := Nat.div_le_self _ _
  apply Int32.toInt_inj.mp
  rw [Int32.toInt_div, nI_toInt ha, nI_toInt hb, nI_toInt (by omega), ← Int.ofNat_tdiv]
  generalize a / b = q at hd
  exact bm_32 (by omega) (by omega)
theorem nI_dec {a : Nat} (h : 0 < a) : nI a + -nI 1 = nI (a - 1) := by
  rw [← Int32.sub_eq_add_neg, nI_sub h]
/-- what is beside a CELL: 0 above, 1 to the left, 2 to the right, 3 below -/
def sp_B (w h c s : Nat) : Int32 := if s = 0 then (if c / w = 0 then -nI 1 else nI (c - w)) else if s = 1 then (if c % w = 0 then -nI 1 else nI (c - 1)) else if s = 2 then (if c % w + 1 < w then nI (c + 1) else -nI 1) else (if c / w + 1 < h then nI (c + w) else -nI 1)
/-- the model's order -/
def sp_M (w h c s : Nat) : Int32 := if s = 0 then sp_B w h c 2 else if s = 1 then sp_B w h c 3 else if s = 2 then sp_B w h c 1 else sp_B w h c 0
section
variable {d n w h : Nat} {I : am_I} {R : am_R} {Q : am_Q} {P : Nat → Nat → Int32}
theorem m_beside (hr : mm_R R) (hw : I 56 0 0 = nI w) (hh : I 56 0 1 = nI h) (w1 : 0 < w) (w5 : w ≤ 5) (h5 : h ≤ 5) {c s : Nat} (hc : c < w * h) (hs : s < 4) : am_cal (d + 1) 206 [.ref (am_mk 12 0), .int (nI c), .int (nI s)] I R Q = some (some (.int (sp_M w h c s)), I, R, Q) := by
  have c25 : c < 26 := Nat.lt_of_lt_of_le hc (Nat.le_trans (Nat.mul_le_mul w5 h5) (by decide))
  obtain ⟨q, hq⟩ : ∃ q, c / w = q := ⟨_, rfl⟩
  obtain ⟨r, hr2⟩ : ∃ r, c % w = r := ⟨_, rfl⟩
  obtain ⟨t, ht⟩ : ∃ t, q * w = t := ⟨_, rfl⟩
  have hd : t + r = c := by rw [← ht, ← hq, ← hr2]; exact Nat.div_add_mod' c w
  have hm : r < w := by rw [← hr2]; exact Nat.mod_lt _ w1
  have hqh : q < h := by rw [← hq]; exact Nat.div_lt_of_lt_mul hc
  have dq : nI c / nI w = nI q := by rw [nI_div (by omega) (by omega), hq]
  have dt : nI q * nI w = nI t := by rw [nI_mul, ht]
  have ds : nI c - nI t = nI r := by rw [nI_sub (by omega), show c - t = r by omega]
  have dw : nI w - nI 1 = nI (w - 1) := nI_sub (by omega)
  have dh : nI h - nI 1 = nI (h - 1) := nI_sub (by omega)
  have hw0 : (w = 0) = False := eq_false (by omega)
  have b0 : am_bu (nI 0) 6 = True := bu_nI (by decide)
  have b1 : am_bu (nI 1) 6 = True := bu_nI (by decide)
  have q5 : q < 5 := by omega
  rw [s206]
  rcases (show s = 0 ∨ s = 1 ∨ s = 2 ∨ s = 3 by omega) with e | e | e | e <;> subst e
  · have f2 : ¬ h - 1 < q := by omega
    rw [show sp_M w h c 0 = if c % w + 1 < w then nI (c + 1) else -nI 1 from rfl, hr2]
    by_cases e : r + 1 < w
    · have f1 : ¬ w - 1 < r + 1 := by omega
      have f3 : t + (r + 1) = c + 1 := by omega
      rw [if_pos e]
      simp (disch := first | omega | assumption) only [s206_0, s206_1, s206_2, s206_5, s206_6, s206_7, s206_8, s206_9, s206_12, s206_13, s206_16, s206_17, s206_18, s206_21, s206_22, s206_25, s206_26, s206_27, s206_28, s206_29, s206_30, s206_33, s206_34, s206_35, s206_36, s206_37, s206_38, s206_41, s206_42, s206_45, s206_46, s206_47, s206_50, s206_51, s206_54, s206_55, s206_56, s206_58, s206_59, s206_60, s206_61, s206_64, s206_65, s206_66, s206_67, s206_68, s206_71, s206_74, s206_76, s206_77, s206_78, s206_81, s206_82, s206_83, s206_84, s206_85, s206_88, s206_91, s206_93, s206_94, s206_97, s206_98, s206_99, s206_100, s206_101, s206_102, s206_105, s206_106, nI_le2, nI_lt2, nI_eq2, nI_lt0, nI_0le, nI_0lt, nI_le0, nI_eq0, nI_clamp, nI_add, bu_nI, bb_0, bb_1, rf_s, rf_n, tl_s, tl_n, am_th_some, if_true, if_false, sI_eq, uI_eq, and_self, true_and, and_true, not_false_eq_true, not_true_eq_false, Nat.reduceEqDiff, Nat.reduceLeDiff, Nat.reduceLT, Nat.reduceAdd, Nat.reduceMul, Nat.reduceSub, Nat.zero_add, mr24 hr, hw, hh, b0, b1, hw0, dq, dt, ds, dw, dh, f1, f2, f3, m_in (d := d), Nat.not_lt_zero, Nat.add_zero]
    · have f1 : w - 1 < r + 1 := by omega
      rw [if_neg e]
      simp (disch := first | omega | assumption) only [s206_0, s206_1, s206_2, s206_5, s206_6, s206_7, s206_8, s206_9, s206_12, s206_13, s206_16, s206_17, s206_18, s206_21, s206_22, s206_25, s206_26, s206_27, s206_28, s206_29, s206_30, s206_33, s206_34, s206_35, s206_36, s206_37, s206_38, s206_41, s206_42, s206_45, s206_46, s206_47, s206_50, s206_51, s206_54, s206_55, s206_56, s206_58, s206_59, s206_60, s206_61, s206_64, s206_65, s206_66, s206_67, s206_68, s206_71, s206_74, s206_76, s206_77, s206_78, s206_81, s206_82, s206_83, s206_84, s206_85, s206_88, s206_91, s206_93, s206_94, s206_97, s206_98, s206_99, s206_100, s206_101, s206_102, s206_105, s206_106, nI_le2, nI_lt2, nI_eq2, nI_lt0, nI_0le, nI_0lt, nI_le0, nI_eq0, nI_clamp, nI_add, bu_nI, bb_0, bb_1, rf_s, rf_n, tl_s, tl_n, am_th_some, if_true, if_false, sI_eq, uI_eq, and_self, true_and, and_true, not_false_eq_true, not_true_eq_false, Nat.reduceEqDiff, Nat.reduceLeDiff, Nat.reduceLT, Nat.reduceAdd, Nat.reduceMul, Nat.reduceSub, Nat.zero_add, mr24 hr, hw, hh, b0, b1, hw0, dq, dt, ds, dw, dh, f1, m_in (d := d), Nat.not_lt_zero, Nat.add_zero]
  · have f2 : ¬ w - 1 < r := by omega
    rw [show sp_M w h c 1 = if c / w + 1 < h then nI (c + w) else -nI 1 from rfl, hq]
    by_cases e : q + 1 < h
    · have f1 : ¬ h - 1 < q + 1 := by omega
      have f4 : nI (q + 1) * nI w = nI (t + w) := by rw [nI_mul, Nat.add_mul, Nat.one_mul, ht]
      have f3 : t + w + r = c + w := by omega
      rw [if_pos e]
      simp (disch := first | omega | assumption) only [s206_0, s206_1, s206_2, s206_5, s206_6, s206_7, s206_8, s206_9, s206_12, s206_13, s206_16, s206_17, s206_18, s206_21, s206_22, s206_25, s206_26, s206_27, s206_28, s206_29, s206_30, s206_33, s206_34, s206_35, s206_36, s206_37, s206_38, s206_41, s206_42, s206_45, s206_46, s206_47, s206_50, s206_51, s206_54, s206_55, s206_56, s206_58, s206_59, s206_60, s206_61, s206_64, s206_65, s206_66, s206_67, s206_68, s206_71, s206_74, s206_76, s206_77, s206_78, s206_81, s206_82, s206_83, s206_84, s206_85, s206_88, s206_91, s206_93, s206_94, s206_97, s206_98, s206_99, s206_100, s206_101, s206_102, s206_105, s206_106, nI_le2, nI_lt2, nI_eq2, nI_lt0, nI_0le, nI_0lt, nI_le0, nI_eq0, nI_clamp, nI_add, bu_nI, bb_0, bb_1, rf_s, rf_n, tl_s, tl_n, am_th_some, if_true, if_false, sI_eq, uI_eq, and_self, true_and, and_true, not_false_eq_true, not_true_eq_false, Nat.reduceEqDiff, Nat.reduceLeDiff, Nat.reduceLT, Nat.reduceAdd, Nat.reduceMul, Nat.reduceSub, Nat.zero_add, mr24 hr, hw, hh, b0, b1, hw0, dq, dt, ds, dw, dh, f1, f2, f3, f4, m_in (d := d), Nat.not_lt_zero, Nat.add_zero]
    · have f1 : h - 1 < q + 1 := by omega
      rw [if_neg e]
      simp (disch := first | omega | assumption) only [s206_0, s206_1, s206_2, s206_5, s206_6, s206_7, s206_8, s206_9, s206_12, s206_13, s206_16, s206_17, s206_18, s206_21, s206_22, s206_25, s206_26, s206_27, s206_28, s206_29, s206_30, s206_33, s206_34, s206_35, s206_36, s206_37, s206_38, s206_41, s206_42, s206_45, s206_46, s206_47, s206_50, s206_51, s206_54, s206_55, s206_56, s206_58, s206_59, s206_60, s206_61, s206_64, s206_65, s206_66, s206_67, s206_68, s206_71, s206_74, s206_76, s206_77, s206_78, s206_81, s206_82, s206_83, s206_84, s206_85, s206_88, s206_91, s206_93, s206_94, s206_97, s206_98, s206_99, s206_100, s206_101, s206_102, s206_105, s206_106, nI_le2, nI_lt2, nI_eq2, nI_lt0, nI_0le, nI_0lt, nI_le0, nI_eq0, nI_clamp, nI_add, bu_nI, bb_0, bb_1, rf_s, rf_n, tl_s, tl_n, am_th_some, if_true, if_false, sI_eq, uI_eq, and_self, true_and, and_true, not_false_eq_true, not_true_eq_false, Nat.reduceEqDiff, Nat.reduceLeDiff, Nat.reduceLT, Nat.reduceAdd, Nat.reduceMul, Nat.reduceSub, Nat.zero_add, mr24 hr, hw, hh, b0, b1, hw0, dq, dt, ds, dw, dh, f1, f2, m_in (d := d), Nat.not_lt_zero, Nat.add_zero]
  · have f2 : ¬ h - 1 < q := by omega
    rw [show sp_M w h c 2 = if c % w = 0 then -nI 1 else nI (c - 1) from rfl, hr2]
    by_cases e : r = 0
    · have f1 : (nI 0 + -nI 1 < nI 0) = True := eq_true (by decide)
      subst e
      rw [if_pos rfl]
      simp (disch := first | omega | assumption) only [s206_0, s206_1, s206_2, s206_5, s206_6, s206_7, s206_8, s206_9, s206_12, s206_13, s206_16, s206_17, s206_18, s206_21, s206_22, s206_25, s206_26, s206_27, s206_28, s206_29, s206_30, s206_33, s206_34, s206_35, s206_36, s206_37, s206_38, s206_41, s206_42, s206_45, s206_46, s206_47, s206_50, s206_51, s206_54, s206_55, s206_56, s206_58, s206_59, s206_60, s206_61, s206_64, s206_65, s206_66, s206_67, s206_68, s206_71, s206_74, s206_76, s206_77, s206_78, s206_81, s206_82, s206_83, s206_84, s206_85, s206_88, s206_91, s206_93, s206_94, s206_97, s206_98, s206_99, s206_100, s206_101, s206_102, s206_105, s206_106, nI_le2, nI_lt2, nI_eq2, nI_lt0, nI_0le, nI_0lt, nI_le0, nI_eq0, nI_clamp, nI_add, bu_nI, bb_0, bb_1, rf_s, rf_n, tl_s, tl_n, am_th_some, if_true, if_false, sI_eq, uI_eq, and_self, true_and, and_true, not_false_eq_true, not_true_eq_false, Nat.reduceEqDiff, Nat.reduceLeDiff, Nat.reduceLT, Nat.reduceAdd, Nat.reduceMul, Nat.reduceSub, Nat.zero_add, mr24 hr, hw, hh, b0, b1, hw0, dq, dt, ds, dw, dh, f1, m_in (d := d), Nat.not_lt_zero, Nat.add_zero]
    · have f1 : ¬ w - 1 < r - 1 := by omega
      have f3 : t + (r - 1) = c - 1 := by omega
      rw [if_neg e]
      simp (disch := first | omega | assumption) only [s206_0, s206_1, s206_2, s206_5, s206_6, s206_7, s206_8, s206_9, s206_12, s206_13, s206_16, s206_17, s206_18, s206_21, s206_22, s206_25, s206_26, s206_27, s206_28, s206_29, s206_30, s206_33, s206_34, s206_35, s206_36, s206_37, s206_38, s206_41, s206_42, s206_45, s206_46, s206_47, s206_50, s206_51, s206_54, s206_55, s206_56, s206_58, s206_59, s206_60, s206_61, s206_64, s206_65, s206_66, s206_67, s206_68, s206_71, s206_74, s206_76, s206_77, s206_78, s206_81, s206_82, s206_83, s206_84, s206_85, s206_88, s206_91, s206_93, s206_94, s206_97, s206_98, s206_99, s206_100, s206_101, s206_102, s206_105, s206_106, nI_le2, nI_lt2, nI_eq2, nI_lt0, nI_0le, nI_0lt, nI_le0, nI_eq0, nI_clamp, nI_add, bu_nI, bb_0, bb_1, rf_s, rf_n, tl_s, tl_n, am_th_some, if_true, if_false, sI_eq, uI_eq, and_self, true_and, and_true, not_false_eq_true, not_true_eq_false, Nat.reduceEqDiff, Nat.reduceLeDiff, Nat.reduceLT, Nat.reduceAdd, Nat.reduceMul, Nat.reduceSub, Nat.zero_add, mr24 hr, hw, hh, b0, b1, hw0, dq, dt, ds, dw, dh, f1, f2, f3, nI_dec (show 0 < r by omega), m_in (d := d), Nat.not_lt_zero, Nat.add_zero]
  · have f2 : ¬ w - 1 < r := by omega
    rw [show sp_M w h c 3 = if c / w = 0 then -nI 1 else nI (c - w) from rfl, hq]
    by_cases e : q = 0
    · have f1 : (nI 0 + -nI 1 < nI 0) = True := eq_true (by decide)
      subst e
      rw [if_pos rfl]
      simp (disch := first | omega | assumption) only [s206_0, s206_1, s206_2, s206_5, s206_6, s206_7, s206_8, s206_9, s206_12, s206_13, s206_16, s206_17, s206_18, s206_21, s206_22, s206_25, s206_26, s206_27, s206_28, s206_29, s206_30, s206_33, s206_34, s206_35, s206_36, s206_37, s206_38, s206_41, s206_42, s206_45, s206_46, s206_47, s206_50, s206_51, s206_54, s206_55, s206_56, s206_58, s206_59, s206_60, s206_61, s206_64, s206_65, s206_66, s206_67, s206_68, s206_71, s206_74, s206_76, s206_77, s206_78, s206_81, s206_82, s206_83, s206_84, s206_85, s206_88, s206_91, s206_93, s206_94, s206_97, s206_98, s206_99, s206_100, s206_101, s206_102, s206_105, s206_106, nI_le2, nI_lt2, nI_eq2, nI_lt0, nI_0le, nI_0lt, nI_le0, nI_eq0, nI_clamp, nI_add, bu_nI, bb_0, bb_1, rf_s, rf_n, tl_s, tl_n, am_th_some, if_true, if_false, sI_eq, uI_eq, and_self, true_and, and_true, not_false_eq_true, not_true_eq_false, Nat.reduceEqDiff, Nat.reduceLeDiff, Nat.reduceLT, Nat.reduceAdd, Nat.reduceMul, Nat.reduceSub, Nat.zero_add, mr24 hr, hw, hh, b0, b1, hw0, dq, dt, ds, dw, dh, f1, f2, m_in (d := d), Nat.not_lt_zero, Nat.add_zero]
    · have f1 : ¬ h - 1 < q - 1 := by omega
      have f5 : w ≤ t := by rw [← ht]; exact Nat.le_mul_of_pos_left w (by omega)
      have f4 : nI (q - 1) * nI w = nI (t - w) := by rw [nI_mul, Nat.sub_mul, Nat.one_mul, ht]
      have f3 : t - w + r = c - w := by omega
      rw [if_neg e]
      simp (disch := first | omega | assumption) only [s206_0, s206_1, s206_2, s206_5, s206_6, s206_7, s206_8, s206_9, s206_12, s206_13, s206_16, s206_17, s206_18, s206_21, s206_22, s206_25, s206_26, s206_27, s206_28, s206_29, s206_30, s206_33, s206_34, s206_35, s206_36, s206_37, s206_38, s206_41, s206_42, s206_45, s206_46, s206_47, s206_50, s206_51, s206_54, s206_55, s206_56, s206_58, s206_59, s206_60, s206_61, s206_64, s206_65, s206_66, s206_67, s206_68, s206_71, s206_74, s206_76, s206_77, s206_78, s206_81, s206_82, s206_83, s206_84, s206_85, s206_88, s206_91, s206_93, s206_94, s206_97, s206_98, s206_99, s206_100, s206_101, s206_102, s206_105, s206_106, nI_le2, nI_lt2, nI_eq2, nI_lt0, nI_0le, nI_0lt, nI_le0, nI_eq0, nI_clamp, nI_add, bu_nI, bb_0, bb_1, rf_s, rf_n, tl_s, tl_n, am_th_some, if_true, if_false, sI_eq, uI_eq, and_self, true_and, and_true, not_false_eq_true, not_true_eq_false, Nat.reduceEqDiff, Nat.reduceLeDiff, Nat.reduceLT, Nat.reduceAdd, Nat.reduceMul, Nat.reduceSub, Nat.zero_add, mr24 hr, hw, hh, b0, b1, hw0, dq, dt, ds, dw, dh, f1, f2, f3, f4, nI_dec (show 0 < q by omega), m_in (d := d), Nat.not_lt_zero, Nat.add_zero]
theorem i32_lc (a b c : Int32) : a + (b + c) = b + (a + c) := by rw [← Int32.add_assoc, Int32.add_comm a b, Int32.add_assoc]
theorem sum4 (z a b c d : Int32) : z + c + d + b + a = z + a + b + c + d := by
  simp only [Int32.add_comm, i32_lc, Int32.add_assoc]
/-- what the model's OVEN holds -/
def mo_at (I : am_I) (w h n : Nat) : Prop := I 56 0 0 = nI w ∧ I 56 0 1 = nI h ∧ 0 < w ∧ w ≤ 5 ∧ h ≤ 5 ∧ w * h = n
theorem mo_fr {S : Nat → Nat → Nat → Prop} {J : am_I} (h0 : mo_at I w h n) (hf : am_fr S I J) (hS : ∀ j, ¬ S 56 0 j) : mo_at J w h n := ⟨(hf _ _ _ (hS _)).trans h0.1, (hf _ _ _ (hS _)).trans h0.2.1, h0.2.2⟩
theorem edges_M {k : Nat} : am_fold (fun a s => a + if pp_f P (sp_M w h k s) then nI 0 else nI 1) (nI 0) 4 = sp_edges (sp_B w h) P k := by
  have e : sp_edges (sp_B w h) P k = am_fold (fun a s => a + if pp_f P (sp_B w h k s) then nI 0 else nI 1) (nI 0) 4 := fold_congr fun x c _ => by
    by_cases e : pp_f P (sp_B w h k c)
    · rw [if_pos e, if_pos e, nI_0, Int32.add_zero]
    · rw [if_neg e, if_neg e]
  rw [e]
  simp only [am_fold]
  rw [show sp_M w h k 0 = sp_B w h k 2 from rfl, show sp_M w h k 1 = sp_B w h k 3 from rfl, show sp_M w h k 2 = sp_B w h k 1 from rfl, show sp_M w h k 3 = sp_B w h k 0 from rfl]
  exact sum4 _ _ _ _ _
theorem m_edges (hr : mm_R R) (ho : mo_at I w h n) (hP : mm_at I P) (hn : P 4 0 = nI n) (hn2 : n ≤ 25) {k : Nat} (hk : k < n) : am_cal (d + 3) 207 [.ref (am_mk 12 0), .int (nI k)] I R Q = some (some (.int (sp_edges (sp_B w h) P k)), I, R, Q) := by
  obtain ⟨hw, hh, w1, w5, h5, hwh⟩ := ho
  rw [s207]
  simp (disch := first | omega | assumption) only [s207_0, s207_1, s207_2, s207_3, s207_5, s207_6, s207_9, s207_10, s207_11, s207_12, s207_13, s207_14, s207_17, s207_20, s207_23, s207_24, s207_27, s207_28, s207_29, s207_30, s207_33, s207_36, s207_37, nI_le2, nI_lt2, nI_eq2, nI_lt0, nI_0le, nI_0lt, nI_le0, nI_eq0, nI_clamp, nI_add, bu_nI, bb_0, bb_1, rf_s, rf_n, tl_s, tl_n, am_th_some, if_true, if_false, sI_eq, uI_eq, and_self, true_and, and_true, not_false_eq_true, not_true_eq_false, Nat.reduceEqDiff, Nat.reduceLeDiff, Nat.reduceLT, Nat.reduceAdd, Nat.reduceMul, Nat.reduceSub, Nat.zero_add]
  refine (loop_fold (fun a c => am_ev (d + 3) 207 4 [.ref (am_mk 12 0), .int (nI k), .int a, .int (nI c)] [] I R Q) (fun a s => a + if pp_f P (sp_M w h k s) then nI 0 else nI 1) 4 (fun a c hc => ?_) (nI 0)).trans ?_
  · rw [s207_4]
    have h1 : ¬ 4 ≤ c := by omega
    have hb := m_beside (d := d + 1) (I := I) (Q := Q) hr hw hh w1 w5 h5 (c := k) (s := c) (by omega) hc
    have hf := m_isFood (d := d) (I := I) (Q := Q) (x := sp_M w h k c) hr hP hn hn2
    by_cases e : pp_f P (sp_M w h k c)
    · rw [if_pos e] at hf
      simp (disch := first | omega | assumption) only [s207_0, s207_1, s207_2, s207_3, s207_5, s207_6, s207_9, s207_10, s207_11, s207_12, s207_13, s207_14, s207_17, s207_20, s207_23, s207_24, s207_27, s207_28, s207_29, s207_30, s207_33, s207_36, s207_37, nI_le2, nI_lt2, nI_eq2, nI_lt0, nI_0le, nI_0lt, nI_le0, nI_eq0, nI_clamp, nI_add, bu_nI, bb_0, bb_1, rf_s, rf_n, tl_s, tl_n, am_th_some, if_true, if_false, sI_eq, uI_eq, and_self, true_and, and_true, not_false_eq_true, not_true_eq_false, Nat.reduceEqDiff, Nat.reduceLeDiff, Nat.reduceLT, Nat.reduceAdd, Nat.reduceMul, Nat.reduceSub, Nat.zero_add, h1, hb, hf, if_pos e]
    · rw [if_neg e] at hf
      simp (disch := first | omega | assumption) only [s207_0, s207_1, s207_2, s207_3, s207_5, s207_6, s207_9, s207_10, s207_11, s207_12, s207_13, s207_14, s207_17, s207_20, s207_23, s207_24, s207_27, s207_28, s207_29, s207_30, s207_33, s207_36, s207_37, nI_le2, nI_lt2, nI_eq2, nI_lt0, nI_0le, nI_0lt, nI_le0, nI_eq0, nI_clamp, nI_add, bu_nI, bb_0, bb_1, rf_s, rf_n, tl_s, tl_n, am_th_some, if_true, if_false, sI_eq, uI_eq, and_self, true_and, and_true, not_false_eq_true, not_true_eq_false, Nat.reduceEqDiff, Nat.reduceLeDiff, Nat.reduceLT, Nat.reduceAdd, Nat.reduceMul, Nat.reduceSub, Nat.zero_add, h1, hb, hf, if_neg e]
  · rw [s207_4]
    simp (disch := first | omega | assumption) only [s207_0, s207_1, s207_2, s207_3, s207_5, s207_6, s207_9, s207_10, s207_11, s207_12, s207_13, s207_14, s207_17, s207_20, s207_23, s207_24, s207_27, s207_28, s207_29, s207_30, s207_33, s207_36, s207_37, nI_le2, nI_lt2, nI_eq2, nI_lt0, nI_0le, nI_0lt, nI_le0, nI_eq0, nI_clamp, nI_add, bu_nI, bb_0, bb_1, rf_s, rf_n, tl_s, tl_n, am_th_some, if_true, if_false, sI_eq, uI_eq, and_self, true_and, and_true, not_false_eq_true, not_true_eq_false, Nat.reduceEqDiff, Nat.reduceLeDiff, Nat.reduceLT, Nat.reduceAdd, Nat.reduceMul, Nat.reduceSub, Nat.zero_add, Nat.le_refl]
    rw [edges_M]
theorem m_foods (hr : mm_R R) (hP : mm_at I P) (hn : P 4 0 = nI n) (hn2 : n ≤ 25) : am_cal (d + 3) 208 [.ref (am_mk 12 0)] I R Q = some (some (.int (am_fold (sp_fd (P 0)) (nI 0) n)), I, R, Q) := by
  rw [s208]
  simp (disch := first | omega | assumption) only [s208_0, s208_1, s208_2, s208_3, s208_5, s208_6, s208_9, s208_12, s208_13, s208_14, s208_15, s208_18, s208_21, s208_22, s208_25, s208_26, s208_27, s208_28, s208_31, s208_34, s208_35, nI_le2, nI_lt2, nI_eq2, nI_lt0, nI_0le, nI_0lt, nI_le0, nI_eq0, nI_clamp, nI_add, bu_nI, bb_0, bb_1, rf_s, rf_n, tl_s, tl_n, am_th_some, if_true, if_false, sI_eq, uI_eq, and_self, true_and, and_true, not_false_eq_true, not_true_eq_false, Nat.reduceEqDiff, Nat.reduceLeDiff, Nat.reduceLT, Nat.reduceAdd, Nat.reduceMul, Nat.reduceSub, Nat.zero_add]
  have hc : I 12 0 30 = nI n := hP.2.1.trans hn
  refine (loop_fold (fun a c => am_ev (d + 3) 208 4 [.ref (am_mk 12 0), .int a, .int (nI c)] [] I R Q) (sp_fd (P 0)) n (fun a c hc2 => ?_) (nI 0)).trans ?_
  · rw [s208_4]
    have h1 : ¬ n ≤ c := by omega
    have hf := m_isFood (d := d) (I := I) (Q := Q) (x := nI c) hr hP hn hn2
    rw [sp_fd]
    by_cases e : P 0 c ≤ 0
    · rw [if_neg (fun q => ((pp_f_k hn hn2 (by omega)).mp q).2 e)] at hf
      simp (disch := first | omega | assumption) only [s208_0, s208_1, s208_2, s208_3, s208_5, s208_6, s208_9, s208_12, s208_13, s208_14, s208_15, s208_18, s208_21, s208_22, s208_25, s208_26, s208_27, s208_28, s208_31, s208_34, s208_35, nI_le2, nI_lt2, nI_eq2, nI_lt0, nI_0le, nI_0lt, nI_le0, nI_eq0, nI_clamp, nI_add, bu_nI, bb_0, bb_1, rf_s, rf_n, tl_s, tl_n, am_th_some, if_true, if_false, sI_eq, uI_eq, and_self, true_and, and_true, not_false_eq_true, not_true_eq_false, Nat.reduceEqDiff, Nat.reduceLeDiff, Nat.reduceLT, Nat.reduceAdd, Nat.reduceMul, Nat.reduceSub, Nat.zero_add, h1, hc, hf, if_pos e]
    · rw [if_pos ((pp_f_k hn hn2 (by omega)).mpr ⟨hc2, e⟩)] at hf
      simp (disch := first | omega | assumption) only [s208_0, s208_1, s208_2, s208_3, s208_5, s208_6, s208_9, s208_12, s208_13, s208_14, s208_15, s208_18, s208_21, s208_22, s208_25, s208_26, s208_27, s208_28, s208_31, s208_34, s208_35, nI_le2, nI_lt2, nI_eq2, nI_lt0, nI_0le, nI_0lt, nI_le0, nI_eq0, nI_clamp, nI_add, bu_nI, bb_0, bb_1, rf_s, rf_n, tl_s, tl_n, am_th_some, if_true, if_false, sI_eq, uI_eq, and_self, true_and, and_true, not_false_eq_true, not_true_eq_false, Nat.reduceEqDiff, Nat.reduceLeDiff, Nat.reduceLT, Nat.reduceAdd, Nat.reduceMul, Nat.reduceSub, Nat.zero_add, h1, hc, hf, if_neg e]
  · rw [s208_4]
    simp (disch := first | omega | assumption) only [s208_0, s208_1, s208_2, s208_3, s208_5, s208_6, s208_9, s208_12, s208_13, s208_14, s208_15, s208_18, s208_21, s208_22, s208_25, s208_26, s208_27, s208_28, s208_31, s208_34, s208_35, nI_le2, nI_lt2, nI_eq2, nI_lt0, nI_0le, nI_0lt, nI_le0, nI_eq0, nI_clamp, nI_add, bu_nI, bb_0, bb_1, rf_s, rf_n, tl_s, tl_n, am_th_some, if_true, if_false, sI_eq, uI_eq, and_self, true_and, and_true, not_false_eq_true, not_true_eq_false, Nat.reduceEqDiff, Nat.reduceLeDiff, Nat.reduceLT, Nat.reduceAdd, Nat.reduceMul, Nat.reduceSub, Nat.zero_add, Nat.le_refl, hc]
theorem m_allOf (hr : mm_R R) (hP : mm_at I P) (hn : P 4 0 = nI n) (hn2 : n ≤ 25) {b : Nat} (hb : b ≤ 75) : am_cal (d + 3) 209 [.ref (am_mk 12 0), .int (nI b)] I R Q = some (some (.int (am_fold (fun a c => a + if P 0 c ≤ 0 then nI 0 else I 60 0 (b + c)) (nI 0) n)), I, R, Q) := by
  rw [s209]
  simp (disch := first | omega | assumption) only [s209_0, s209_1, s209_2, s209_3, s209_5, s209_6, s209_9, s209_12, s209_13, s209_14, s209_15, s209_18, s209_21, s209_22, s209_25, s209_26, s209_27, s209_28, s209_29, s209_32, s209_33, s209_34, s209_35, s209_38, s209_41, s209_42, nI_le2, nI_lt2, nI_eq2, nI_lt0, nI_0le, nI_0lt, nI_le0, nI_eq0, nI_clamp, nI_add, bu_nI, bb_0, bb_1, rf_s, rf_n, tl_s, tl_n, am_th_some, if_true, if_false, sI_eq, uI_eq, and_self, true_and, and_true, not_false_eq_true, not_true_eq_false, Nat.reduceEqDiff, Nat.reduceLeDiff, Nat.reduceLT, Nat.reduceAdd, Nat.reduceMul, Nat.reduceSub, Nat.zero_add]
  have hc : I 12 0 30 = nI n := hP.2.1.trans hn
  refine (loop_fold (fun a c => am_ev (d + 3) 209 4 [.ref (am_mk 12 0), .int (nI b), .int a, .int (nI c)] [] I R Q) (fun a c => a + if P 0 c ≤ 0 then nI 0 else I 60 0 (b + c)) n (fun a c hc2 => ?_) (nI 0)).trans ?_
  · rw [s209_4]
    have h1 : ¬ n ≤ c := by omega
    have hf := m_isFood (d := d) (I := I) (Q := Q) (x := nI c) hr hP hn hn2
    by_cases e : P 0 c ≤ 0
    · rw [if_neg (fun q => ((pp_f_k hn hn2 (by omega)).mp q).2 e)] at hf
      simp (disch := first | omega | assumption) only [s209_0, s209_1, s209_2, s209_3, s209_5, s209_6, s209_9, s209_12, s209_13, s209_14, s209_15, s209_18, s209_21, s209_22, s209_25, s209_26, s209_27, s209_28, s209_29, s209_32, s209_33, s209_34, s209_35, s209_38, s209_41, s209_42, nI_le2, nI_lt2, nI_eq2, nI_lt0, nI_0le, nI_0lt, nI_le0, nI_eq0, nI_clamp, nI_add, bu_nI, bb_0, bb_1, rf_s, rf_n, tl_s, tl_n, am_th_some, if_true, if_false, sI_eq, uI_eq, and_self, true_and, and_true, not_false_eq_true, not_true_eq_false, Nat.reduceEqDiff, Nat.reduceLeDiff, Nat.reduceLT, Nat.reduceAdd, Nat.reduceMul, Nat.reduceSub, Nat.zero_add, h1, hc, hf, if_pos e]
    · rw [if_pos ((pp_f_k hn hn2 (by omega)).mpr ⟨hc2, e⟩)] at hf
      simp (disch := first | omega | assumption) only [s209_0, s209_1, s209_2, s209_3, s209_5, s209_6, s209_9, s209_12, s209_13, s209_14, s209_15, s209_18, s209_21, s209_22, s209_25, s209_26, s209_27, s209_28, s209_29, s209_32, s209_33, s209_34, s209_35, s209_38, s209_41, s209_42, nI_le2, nI_lt2, nI_eq2, nI_lt0, nI_0le, nI_0lt, nI_le0, nI_eq0, nI_clamp, nI_add, bu_nI, bb_0, bb_1, rf_s, rf_n, tl_s, tl_n, am_th_some, if_true, if_false, sI_eq, uI_eq, and_self, true_and, and_true, not_false_eq_true, not_true_eq_false, Nat.reduceEqDiff, Nat.reduceLeDiff, Nat.reduceLT, Nat.reduceAdd, Nat.reduceMul, Nat.reduceSub, Nat.zero_add, h1, hc, hf, if_neg e, mr31 hr]
  · rw [s209_4]
    simp (disch := first | omega | assumption) only [s209_0, s209_1, s209_2, s209_3, s209_5, s209_6, s209_9, s209_12, s209_13, s209_14, s209_15, s209_18, s209_21, s209_22, s209_25, s209_26, s209_27, s209_28, s209_29, s209_32, s209_33, s209_34, s209_35, s209_38, s209_41, s209_42, nI_le2, nI_lt2, nI_eq2, nI_lt0, nI_0le, nI_0lt, nI_le0, nI_eq0, nI_clamp, nI_add, bu_nI, bb_0, bb_1, rf_s, rf_n, tl_s, tl_n, am_th_some, if_true, if_false, sI_eq, uI_eq, and_self, true_and, and_true, not_false_eq_true, not_true_eq_false, Nat.reduceEqDiff, Nat.reduceLeDiff, Nat.reduceLT, Nat.reduceAdd, Nat.reduceMul, Nat.reduceSub, Nat.zero_add, Nat.le_refl, hc]
end
