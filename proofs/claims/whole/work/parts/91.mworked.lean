/-! What a sign of a LAW does: the model. -/
theorem bm_64b {x : Int} (h1 : -(2 ^ 62) ≤ x) (h2 : x < 2 ^ 62) : x.bmod (2 ^ 64) = x := by
  apply Int.bmod_eq_of_le
  · show -((2 ^ 64 : Nat) : Int) / 2 ≤ x; omega
  · show x < (((2 ^ 64 : Nat) : Int) + 1) / 2; omega
theorem bm_32b {x : Int} (h1 : -(2 ^ 30) ≤ x) (h2 : x < 2 ^ 30) : x.bmod (2 ^ 32) = x := by
  apply Int.bmod_eq_of_le
  · show -((2 ^ 32 : Nat) : Int) / 2 ≤ x; omega
  · show x < (((2 ^ 32 : Nat) : Int) + 1) / 2; omega
theorem l64_inj {l r : Int32} : (l.toInt64 = r.toInt64) = (l = r) := propext ⟨fun h => by
  have := congrArg Int64.toInt h
  rw [Int32.toInt_toInt64, Int32.toInt_toInt64] at this
  exact Int32.toInt_inj.mp this, fun h => by rw [h]⟩
theorem l64_lt {l r : Int32} : (l.toInt64 < r.toInt64) = (l < r) := propext (by
  rw [Int64.lt_iff_toInt_lt, Int32.lt_iff_toInt_lt, Int32.toInt_toInt64, Int32.toInt_toInt64])
theorem l64_0 : (0 : Int32).toInt64 = 0 := rfl
theorem td_le {a b m : Int} (h1 : -m ≤ a) (h2 : a ≤ m) : -m ≤ a.tdiv b ∧ a.tdiv b ≤ m := by
  have h := Int.natAbs_tdiv_le_natAbs a b
  omega
theorem l64_div {l r : Int32} (h1 : -1000000 ≤ l.toInt) (h2 : l.toInt ≤ 1000000) : l.toInt64 / r.toInt64 = (l / r).toInt64 := by
  apply Int64.toInt_inj.mp
  have := td_le (b := r.toInt) h1 h2
  rw [Int64.toInt_div, Int32.toInt_toInt64, Int32.toInt_toInt64, Int32.toInt_toInt64, Int32.toInt_div, bm_64b (by omega) (by omega), bm_32b (by omega) (by omega)]
theorem cmp_0 {x y : Int64} : (lg_cmp x y = 0) = (x = y) := by
  unfold lg_cmp
  by_cases e1 : x > y
  · rw [if_pos e1]
    exact propext ⟨fun w => absurd w (by decide), fun w => by rw [w] at e1; exact absurd e1 Int64.lt_irrefl⟩
  · rw [if_neg e1]
    by_cases e2 : x = y
    · rw [if_pos e2]; exact propext ⟨fun _ => e2, fun _ => rfl⟩
    · rw [if_neg e2]; exact propext ⟨fun w => absurd w (by decide), fun w => absurd w e2⟩
theorem cmp_lt {x y : Int64} : (lg_cmp x y < 0) = (x < y) := by
  unfold lg_cmp
  by_cases e1 : x > y
  · rw [if_pos e1]
    exact propext ⟨fun w => absurd w (by decide), fun w => absurd (Int64.lt_trans e1 w) Int64.lt_irrefl⟩
  · rw [if_neg e1]
    by_cases e2 : x = y
    · rw [if_pos e2]; exact propext ⟨fun w => absurd w (by decide), fun w => by rw [e2] at w; exact absurd w Int64.lt_irrefl⟩
    · rw [if_neg e2]
      refine propext ⟨fun _ => ?_, fun _ => by decide⟩
      rcases Int64.lt_or_eq_of_le (Int64.not_lt.mp e1) with w | w
      · exact w
      · exact absurd w e2
theorem cmp_gt {x y : Int64} : (0 < lg_cmp x y) = (y < x) := by
  unfold lg_cmp
  by_cases e1 : x > y
  · rw [if_pos e1]; exact propext ⟨fun _ => e1, fun _ => by decide⟩
  · rw [if_neg e1]
    by_cases e2 : x = y
    · rw [if_pos e2]; exact propext ⟨fun w => absurd w (by decide), fun w => absurd w e1⟩
    · rw [if_neg e2]; exact propext ⟨fun w => absurd w (by decide), fun w => absurd w e1⟩
/-- the model's number for a sign -/
def sp_oc (o : Nat) : Nat := if o = 43 then 2 else if o = 45 then 3 else if o = 42 then 4 else if o = 47 then 5 else if o = 61 then 6 else if o = 60 then 7 else if o = 62 then 8 else if o = 38 then 10 else 11
section
variable {d : Nat} {I : am_I} {R : am_R} {Q : am_Q} {l r : Int32}
theorem m_bounded {x : Int64} : am_cal d 185 [.long x] I R Q = some (some (.int (sp_bd x)), I, R, Q) := by
  rw [s185]
  simp (disch := first | omega | assumption) only [s185_0, s185_3, s185_6, s185_7, s185_10, s185_13, s185_14, nI_le2, nI_lt2, nI_eq2, nI_lt0, nI_0le, nI_0lt, nI_le0, nI_eq0, nI_clamp, nI_add, bu_nI, bb_0, bb_1, rf_s, rf_n, tl_s, tl_n, am_th_some, if_true, if_false, sI_eq, uI_eq, and_self, true_and, and_true, not_false_eq_true, not_true_eq_false, Nat.reduceEqDiff, Nat.reduceLeDiff, Nat.reduceLT, Nat.reduceAdd, Nat.reduceMul, Nat.reduceSub, Nat.zero_add]
  rfl
theorem e186_2 {l0 l1 l2 l3 l4 : Value} {st : List Value} : am_ev d 186 1 [l0, l1, l2, l3, l4] (.int (nI 2) :: st) I R Q = am_ev d 186 52 [l0, l1, l2, l3, l4] st I R Q := s186_1c2
theorem e186_3 {l0 l1 l2 l3 l4 : Value} {st : List Value} : am_ev d 186 1 [l0, l1, l2, l3, l4] (.int (nI 3) :: st) I R Q = am_ev d 186 59 [l0, l1, l2, l3, l4] st I R Q := s186_1c3
theorem e186_4 {l0 l1 l2 l3 l4 : Value} {st : List Value} : am_ev d 186 1 [l0, l1, l2, l3, l4] (.int (nI 4) :: st) I R Q = am_ev d 186 66 [l0, l1, l2, l3, l4] st I R Q := s186_1c4
theorem e186_5 {l0 l1 l2 l3 l4 : Value} {st : List Value} : am_ev d 186 1 [l0, l1, l2, l3, l4] (.int (nI 5) :: st) I R Q = am_ev d 186 73 [l0, l1, l2, l3, l4] st I R Q := s186_1c5
theorem e186_6 {l0 l1 l2 l3 l4 : Value} {st : List Value} : am_ev d 186 1 [l0, l1, l2, l3, l4] (.int (nI 6) :: st) I R Q = am_ev d 186 90 [l0, l1, l2, l3, l4] st I R Q := s186_1c6
theorem e186_7 {l0 l1 l2 l3 l4 : Value} {st : List Value} : am_ev d 186 1 [l0, l1, l2, l3, l4] (.int (nI 7) :: st) I R Q = am_ev d 186 102 [l0, l1, l2, l3, l4] st I R Q := s186_1c7
theorem e186_8 {l0 l1 l2 l3 l4 : Value} {st : List Value} : am_ev d 186 1 [l0, l1, l2, l3, l4] (.int (nI 8) :: st) I R Q = am_ev d 186 114 [l0, l1, l2, l3, l4] st I R Q := s186_1c8
theorem e186_10 {l0 l1 l2 l3 l4 : Value} {st : List Value} : am_ev d 186 1 [l0, l1, l2, l3, l4] (.int (nI 10) :: st) I R Q = am_ev d 186 126 [l0, l1, l2, l3, l4] st I R Q := s186_1c10
theorem m_worked {o : Nat} (ho : o = 43 ∨ o = 45 ∨ o = 42 ∨ o = 47 ∨ o = 61 ∨ o = 60 ∨ o = 62 ∨ o = 38 ∨ o = 124) (hb : -1000000 ≤ l.toInt ∧ l.toInt ≤ 1000000) (h01 : o = 38 ∨ o = 124 → (l = nI 0 ∨ l = nI 1) ∧ (r = nI 0 ∨ r = nI 1)) : am_cal (d + 1) 186 [.int (nI (sp_oc o)), .long l.toInt64, .long r.toInt64] I R Q = some (some (.int (sp_op o l r)), I, R, Q) := by
  have hz : (0 : Int64) = (0 : Int32).toInt64 := rfl
  have bd := fun x : Int64 => m_bounded (d := d) (I := I) (R := R) (Q := Q) (x := x)
  rw [s186]
  rcases ho with rfl | rfl | rfl | rfl | rfl | rfl | rfl | rfl | rfl
  · rw [show sp_oc 43 = 2 from rfl]
    simp (disch := first | omega | assumption) only [s186_0, s186_1c2, s186_1c3, s186_1c4, s186_1c5, s186_1c6, s186_1c7, s186_1c8, s186_1c9, s186_1c10, s186_1d, s186_52, s186_53, s186_54, s186_55, s186_58, s186_59, s186_60, s186_61, s186_62, s186_65, s186_66, s186_67, s186_68, s186_69, s186_72, s186_73, s186_74, s186_75, s186_76, s186_79, s186_80, s186_83, s186_84, s186_85, s186_86, s186_89, s186_90, s186_91, s186_92, s186_93, s186_96, s186_97, s186_100, s186_101, s186_102, s186_103, s186_104, s186_105, s186_108, s186_109, s186_112, s186_113, s186_114, s186_115, s186_116, s186_117, s186_120, s186_121, s186_124, s186_125, s186_126, s186_127, s186_128, s186_129, s186_132, s186_133, s186_134, s186_135, s186_138, s186_139, s186_142, s186_143, s186_144, s186_145, s186_146, s186_147, s186_150, s186_151, s186_152, s186_153, s186_156, s186_157, s186_160, s186_161, nI_le2, nI_lt2, nI_eq2, nI_lt0, nI_0le, nI_0lt, nI_le0, nI_eq0, nI_clamp, nI_add, bu_nI, bb_0, bb_1, rf_s, rf_n, tl_s, tl_n, am_th_some, if_true, if_false, sI_eq, uI_eq, and_self, true_and, and_true, not_false_eq_true, not_true_eq_false, Nat.reduceEqDiff, Nat.reduceLeDiff, Nat.reduceLT, Nat.reduceAdd, Nat.reduceMul, Nat.reduceSub, Nat.zero_add, e186_2, bd]
    rfl
  · rw [show sp_oc 45 = 3 from rfl]
    simp (disch := first | omega | assumption) only [s186_0, s186_1c2, s186_1c3, s186_1c4, s186_1c5, s186_1c6, s186_1c7, s186_1c8, s186_1c9, s186_1c10, s186_1d, s186_52, s186_53, s186_54, s186_55, s186_58, s186_59, s186_60, s186_61, s186_62, s186_65, s186_66, s186_67, s186_68, s186_69, s186_72, s186_73, s186_74, s186_75, s186_76, s186_79, s186_80, s186_83, s186_84, s186_85, s186_86, s186_89, s186_90, s186_91, s186_92, s186_93, s186_96, s186_97, s186_100, s186_101, s186_102, s186_103, s186_104, s186_105, s186_108, s186_109, s186_112, s186_113, s186_114, s186_115, s186_116, s186_117, s186_120, s186_121, s186_124, s186_125, s186_126, s186_127, s186_128, s186_129, s186_132, s186_133, s186_134, s186_135, s186_138, s186_139, s186_142, s186_143, s186_144, s186_145, s186_146, s186_147, s186_150, s186_151, s186_152, s186_153, s186_156, s186_157, s186_160, s186_161, nI_le2, nI_lt2, nI_eq2, nI_lt0, nI_0le, nI_0lt, nI_le0, nI_eq0, nI_clamp, nI_add, bu_nI, bb_0, bb_1, rf_s, rf_n, tl_s, tl_n, am_th_some, if_true, if_false, sI_eq, uI_eq, and_self, true_and, and_true, not_false_eq_true, not_true_eq_false, Nat.reduceEqDiff, Nat.reduceLeDiff, Nat.reduceLT, Nat.reduceAdd, Nat.reduceMul, Nat.reduceSub, Nat.zero_add, e186_3, bd]
    rfl
  · rw [show sp_oc 42 = 4 from rfl]
    simp (disch := first | omega | assumption) only [s186_0, s186_1c2, s186_1c3, s186_1c4, s186_1c5, s186_1c6, s186_1c7, s186_1c8, s186_1c9, s186_1c10, s186_1d, s186_52, s186_53, s186_54, s186_55, s186_58, s186_59, s186_60, s186_61, s186_62, s186_65, s186_66, s186_67, s186_68, s186_69, s186_72, s186_73, s186_74, s186_75, s186_76, s186_79, s186_80, s186_83, s186_84, s186_85, s186_86, s186_89, s186_90, s186_91, s186_92, s186_93, s186_96, s186_97, s186_100, s186_101, s186_102, s186_103, s186_104, s186_105, s186_108, s186_109, s186_112, s186_113, s186_114, s186_115, s186_116, s186_117, s186_120, s186_121, s186_124, s186_125, s186_126, s186_127, s186_128, s186_129, s186_132, s186_133, s186_134, s186_135, s186_138, s186_139, s186_142, s186_143, s186_144, s186_145, s186_146, s186_147, s186_150, s186_151, s186_152, s186_153, s186_156, s186_157, s186_160, s186_161, nI_le2, nI_lt2, nI_eq2, nI_lt0, nI_0le, nI_0lt, nI_le0, nI_eq0, nI_clamp, nI_add, bu_nI, bb_0, bb_1, rf_s, rf_n, tl_s, tl_n, am_th_some, if_true, if_false, sI_eq, uI_eq, and_self, true_and, and_true, not_false_eq_true, not_true_eq_false, Nat.reduceEqDiff, Nat.reduceLeDiff, Nat.reduceLT, Nat.reduceAdd, Nat.reduceMul, Nat.reduceSub, Nat.zero_add, e186_4, bd]
    rfl
  · rw [show sp_oc 47 = 5 from rfl]
    show _ = some (some (Value.int (if r = 0 then sp_bd 0 else sp_bd (l / r).toInt64)), I, R, Q)
    by_cases e : r = 0
    · rw [if_pos e]
      subst e
      simp (disch := first | omega | assumption) only [s186_0, s186_1c2, s186_1c3, s186_1c4, s186_1c5, s186_1c6, s186_1c7, s186_1c8, s186_1c9, s186_1c10, s186_1d, s186_52, s186_53, s186_54, s186_55, s186_58, s186_59, s186_60, s186_61, s186_62, s186_65, s186_66, s186_67, s186_68, s186_69, s186_72, s186_73, s186_74, s186_75, s186_76, s186_79, s186_80, s186_83, s186_84, s186_85, s186_86, s186_89, s186_90, s186_91, s186_92, s186_93, s186_96, s186_97, s186_100, s186_101, s186_102, s186_103, s186_104, s186_105, s186_108, s186_109, s186_112, s186_113, s186_114, s186_115, s186_116, s186_117, s186_120, s186_121, s186_124, s186_125, s186_126, s186_127, s186_128, s186_129, s186_132, s186_133, s186_134, s186_135, s186_138, s186_139, s186_142, s186_143, s186_144, s186_145, s186_146, s186_147, s186_150, s186_151, s186_152, s186_153, s186_156, s186_157, s186_160, s186_161, nI_le2, nI_lt2, nI_eq2, nI_lt0, nI_0le, nI_0lt, nI_le0, nI_eq0, nI_clamp, nI_add, bu_nI, bb_0, bb_1, rf_s, rf_n, tl_s, tl_n, am_th_some, if_true, if_false, sI_eq, uI_eq, and_self, true_and, and_true, not_false_eq_true, not_true_eq_false, Nat.reduceEqDiff, Nat.reduceLeDiff, Nat.reduceLT, Nat.reduceAdd, Nat.reduceMul, Nat.reduceSub, Nat.zero_add, e186_5, bd, cmp_0, l64_0]
      rfl
    · rw [if_neg e, ← l64_div hb.1 hb.2]
      have e' : ¬ r.toInt64 = 0 := by rw [hz, l64_inj]; exact e
      simp (disch := first | omega | assumption) only [s186_0, s186_1c2, s186_1c3, s186_1c4, s186_1c5, s186_1c6, s186_1c7, s186_1c8, s186_1c9, s186_1c10, s186_1d, s186_52, s186_53, s186_54, s186_55, s186_58, s186_59, s186_60, s186_61, s186_62, s186_65, s186_66, s186_67, s186_68, s186_69, s186_72, s186_73, s186_74, s186_75, s186_76, s186_79, s186_80, s186_83, s186_84, s186_85, s186_86, s186_89, s186_90, s186_91, s186_92, s186_93, s186_96, s186_97, s186_100, s186_101, s186_102, s186_103, s186_104, s186_105, s186_108, s186_109, s186_112, s186_113, s186_114, s186_115, s186_116, s186_117, s186_120, s186_121, s186_124, s186_125, s186_126, s186_127, s186_128, s186_129, s186_132, s186_133, s186_134, s186_135, s186_138, s186_139, s186_142, s186_143, s186_144, s186_145, s186_146, s186_147, s186_150, s186_151, s186_152, s186_153, s186_156, s186_157, s186_160, s186_161, nI_le2, nI_lt2, nI_eq2, nI_lt0, nI_0le, nI_0lt, nI_le0, nI_eq0, nI_clamp, nI_add, bu_nI, bb_0, bb_1, rf_s, rf_n, tl_s, tl_n, am_th_some, if_true, if_false, sI_eq, uI_eq, and_self, true_and, and_true, not_false_eq_true, not_true_eq_false, Nat.reduceEqDiff, Nat.reduceLeDiff, Nat.reduceLT, Nat.reduceAdd, Nat.reduceMul, Nat.reduceSub, Nat.zero_add, e186_5, bd, cmp_0, e']
  · rw [show sp_oc 61 = 6 from rfl]
    show _ = some (some (Value.int (if l = r then nI 1 else nI 0)), I, R, Q)
    by_cases e : l = r
    · rw [if_pos e]
      simp (disch := first | omega | assumption) only [s186_0, s186_1c2, s186_1c3, s186_1c4, s186_1c5, s186_1c6, s186_1c7, s186_1c8, s186_1c9, s186_1c10, s186_1d, s186_52, s186_53, s186_54, s186_55, s186_58, s186_59, s186_60, s186_61, s186_62, s186_65, s186_66, s186_67, s186_68, s186_69, s186_72, s186_73, s186_74, s186_75, s186_76, s186_79, s186_80, s186_83, s186_84, s186_85, s186_86, s186_89, s186_90, s186_91, s186_92, s186_93, s186_96, s186_97, s186_100, s186_101, s186_102, s186_103, s186_104, s186_105, s186_108, s186_109, s186_112, s186_113, s186_114, s186_115, s186_116, s186_117, s186_120, s186_121, s186_124, s186_125, s186_126, s186_127, s186_128, s186_129, s186_132, s186_133, s186_134, s186_135, s186_138, s186_139, s186_142, s186_143, s186_144, s186_145, s186_146, s186_147, s186_150, s186_151, s186_152, s186_153, s186_156, s186_157, s186_160, s186_161, nI_le2, nI_lt2, nI_eq2, nI_lt0, nI_0le, nI_0lt, nI_le0, nI_eq0, nI_clamp, nI_add, bu_nI, bb_0, bb_1, rf_s, rf_n, tl_s, tl_n, am_th_some, if_true, if_false, sI_eq, uI_eq, and_self, true_and, and_true, not_false_eq_true, not_true_eq_false, Nat.reduceEqDiff, Nat.reduceLeDiff, Nat.reduceLT, Nat.reduceAdd, Nat.reduceMul, Nat.reduceSub, Nat.zero_add, e186_6, cmp_0, l64_inj, e]
    · rw [if_neg e]
      simp (disch := first | omega | assumption) only [s186_0, s186_1c2, s186_1c3, s186_1c4, s186_1c5, s186_1c6, s186_1c7, s186_1c8, s186_1c9, s186_1c10, s186_1d, s186_52, s186_53, s186_54, s186_55, s186_58, s186_59, s186_60, s186_61, s186_62, s186_65, s186_66, s186_67, s186_68, s186_69, s186_72, s186_73, s186_74, s186_75, s186_76, s186_79, s186_80, s186_83, s186_84, s186_85, s186_86, s186_89, s186_90, s186_91, s186_92, s186_93, s186_96, s186_97, s186_100, s186_101, s186_102, s186_103, s186_104, s186_105, s186_108, s186_109, s186_112, s186_113, s186_114, s186_115, s186_116, s186_117, s186_120, s186_121, s186_124, s186_125, s186_126, s186_127, s186_128, s186_129, s186_132, s186_133, s186_134, s186_135, s186_138, s186_139, s186_142, s186_143, s186_144, s186_145, s186_146, s186_147, s186_150, s186_151, s186_152, s186_153, s186_156, s186_157, s186_160, s186_161, nI_le2, nI_lt2, nI_eq2, nI_lt0, nI_0le, nI_0lt, nI_le0, nI_eq0, nI_clamp, nI_add, bu_nI, bb_0, bb_1, rf_s, rf_n, tl_s, tl_n, am_th_some, if_true, if_false, sI_eq, uI_eq, and_self, true_and, and_true, not_false_eq_true, not_true_eq_false, Nat.reduceEqDiff, Nat.reduceLeDiff, Nat.reduceLT, Nat.reduceAdd, Nat.reduceMul, Nat.reduceSub, Nat.zero_add, e186_6, cmp_0, l64_inj, e]
  · rw [show sp_oc 60 = 7 from rfl]
    show _ = some (some (Value.int (if l < r then nI 1 else nI 0)), I, R, Q)
    by_cases e : l < r
    · have e' : ¬ 0 ≤ lg_cmp l.toInt64 r.toInt64 := by rw [Int32.not_le, cmp_lt, l64_lt]; exact e
      rw [if_pos e]
      simp (disch := first | omega | assumption) only [s186_0, s186_1c2, s186_1c3, s186_1c4, s186_1c5, s186_1c6, s186_1c7, s186_1c8, s186_1c9, s186_1c10, s186_1d, s186_52, s186_53, s186_54, s186_55, s186_58, s186_59, s186_60, s186_61, s186_62, s186_65, s186_66, s186_67, s186_68, s186_69, s186_72, s186_73, s186_74, s186_75, s186_76, s186_79, s186_80, s186_83, s186_84, s186_85, s186_86, s186_89, s186_90, s186_91, s186_92, s186_93, s186_96, s186_97, s186_100, s186_101, s186_102, s186_103, s186_104, s186_105, s186_108, s186_109, s186_112, s186_113, s186_114, s186_115, s186_116, s186_117, s186_120, s186_121, s186_124, s186_125, s186_126, s186_127, s186_128, s186_129, s186_132, s186_133, s186_134, s186_135, s186_138, s186_139, s186_142, s186_143, s186_144, s186_145, s186_146, s186_147, s186_150, s186_151, s186_152, s186_153, s186_156, s186_157, s186_160, s186_161, nI_le2, nI_lt2, nI_eq2, nI_lt0, nI_0le, nI_0lt, nI_le0, nI_eq0, nI_clamp, nI_add, bu_nI, bb_0, bb_1, rf_s, rf_n, tl_s, tl_n, am_th_some, if_true, if_false, sI_eq, uI_eq, and_self, true_and, and_true, not_false_eq_true, not_true_eq_false, Nat.reduceEqDiff, Nat.reduceLeDiff, Nat.reduceLT, Nat.reduceAdd, Nat.reduceMul, Nat.reduceSub, Nat.zero_add, e186_7, e']
    · have e' : 0 ≤ lg_cmp l.toInt64 r.toInt64 := by rw [← Int32.not_lt, cmp_lt, l64_lt]; exact e
      rw [if_neg e]
      simp (disch := first | omega | assumption) only [s186_0, s186_1c2, s186_1c3, s186_1c4, s186_1c5, s186_1c6, s186_1c7, s186_1c8, s186_1c9, s186_1c10, s186_1d, s186_52, s186_53, s186_54, s186_55, s186_58, s186_59, s186_60, s186_61, s186_62, s186_65, s186_66, s186_67, s186_68, s186_69, s186_72, s186_73, s186_74, s186_75, s186_76, s186_79, s186_80, s186_83, s186_84, s186_85, s186_86, s186_89, s186_90, s186_91, s186_92, s186_93, s186_96, s186_97, s186_100, s186_101, s186_102, s186_103, s186_104, s186_105, s186_108, s186_109, s186_112, s186_113, s186_114, s186_115, s186_116, s186_117, s186_120, s186_121, s186_124, s186_125, s186_126, s186_127, s186_128, s186_129, s186_132, s186_133, s186_134, s186_135, s186_138, s186_139, s186_142, s186_143, s186_144, s186_145, s186_146, s186_147, s186_150, s186_151, s186_152, s186_153, s186_156, s186_157, s186_160, s186_161, nI_le2, nI_lt2, nI_eq2, nI_lt0, nI_0le, nI_0lt, nI_le0, nI_eq0, nI_clamp, nI_add, bu_nI, bb_0, bb_1, rf_s, rf_n, tl_s, tl_n, am_th_some, if_true, if_false, sI_eq, uI_eq, and_self, true_and, and_true, not_false_eq_true, not_true_eq_false, Nat.reduceEqDiff, Nat.reduceLeDiff, Nat.reduceLT, Nat.reduceAdd, Nat.reduceMul, Nat.reduceSub, Nat.zero_add, e186_7, e']
  · rw [show sp_oc 62 = 8 from rfl]
    show _ = some (some (Value.int (if r < l then nI 1 else nI 0)), I, R, Q)
    by_cases e : r < l
    · have e' : ¬ lg_cmp l.toInt64 r.toInt64 ≤ 0 := by rw [Int32.not_le, cmp_gt, l64_lt]; exact e
      rw [if_pos e]
      simp (disch := first | omega | assumption) only [s186_0, s186_1c2, s186_1c3, s186_1c4, s186_1c5, s186_1c6, s186_1c7, s186_1c8, s186_1c9, s186_1c10, s186_1d, s186_52, s186_53, s186_54, s186_55, s186_58, s186_59, s186_60, s186_61, s186_62, s186_65, s186_66, s186_67, s186_68, s186_69, s186_72, s186_73, s186_74, s186_75, s186_76, s186_79, s186_80, s186_83, s186_84, s186_85, s186_86, s186_89, s186_90, s186_91, s186_92, s186_93, s186_96, s186_97, s186_100, s186_101, s186_102, s186_103, s186_104, s186_105, s186_108, s186_109, s186_112, s186_113, s186_114, s186_115, s186_116, s186_117, s186_120, s186_121, s186_124, s186_125, s186_126, s186_127, s186_128, s186_129, s186_132, s186_133, s186_134, s186_135, s186_138, s186_139, s186_142, s186_143, s186_144, s186_145, s186_146, s186_147, s186_150, s186_151, s186_152, s186_153, s186_156, s186_157, s186_160, s186_161, nI_le2, nI_lt2, nI_eq2, nI_lt0, nI_0le, nI_0lt, nI_le0, nI_eq0, nI_clamp, nI_add, bu_nI, bb_0, bb_1, rf_s, rf_n, tl_s, tl_n, am_th_some, if_true, if_false, sI_eq, uI_eq, and_self, true_and, and_true, not_false_eq_true, not_true_eq_false, Nat.reduceEqDiff, Nat.reduceLeDiff, Nat.reduceLT, Nat.reduceAdd, Nat.reduceMul, Nat.reduceSub, Nat.zero_add, e186_8, e']
    · have e' : lg_cmp l.toInt64 r.toInt64 ≤ 0 := by rw [← Int32.not_lt, cmp_gt, l64_lt]; exact e
      rw [if_neg e]
      simp (disch := first | omega | assumption) only [s186_0, s186_1c2, s186_1c3, s186_1c4, s186_1c5, s186_1c6, s186_1c7, s186_1c8, s186_1c9, s186_1c10, s186_1d, s186_52, s186_53, s186_54, s186_55, s186_58, s186_59, s186_60, s186_61, s186_62, s186_65, s186_66, s186_67, s186_68, s186_69, s186_72, s186_73, s186_74, s186_75, s186_76, s186_79, s186_80, s186_83, s186_84, s186_85, s186_86, s186_89, s186_90, s186_91, s186_92, s186_93, s186_96, s186_97, s186_100, s186_101, s186_102, s186_103, s186_104, s186_105, s186_108, s186_109, s186_112, s186_113, s186_114, s186_115, s186_116, s186_117, s186_120, s186_121, s186_124, s186_125, s186_126, s186_127, s186_128, s186_129, s186_132, s186_133, s186_134, s186_135, s186_138, s186_139, s186_142, s186_143, s186_144, s186_145, s186_146, s186_147, s186_150, s186_151, s186_152, s186_153, s186_156, s186_157, s186_160, s186_161, nI_le2, nI_lt2, nI_eq2, nI_lt0, nI_0le, nI_0lt, nI_le0, nI_eq0, nI_clamp, nI_add, bu_nI, bb_0, bb_1, rf_s, rf_n, tl_s, tl_n, am_th_some, if_true, if_false, sI_eq, uI_eq, and_self, true_and, and_true, not_false_eq_true, not_true_eq_false, Nat.reduceEqDiff, Nat.reduceLeDiff, Nat.reduceLT, Nat.reduceAdd, Nat.reduceMul, Nat.reduceSub, Nat.zero_add, e186_8, e']
  · rw [show sp_oc 38 = 10 from rfl]
    show _ = some (some (Value.int (l &&& r)), I, R, Q)
    obtain ⟨hl, hr⟩ := h01 (Or.inl rfl)
    rcases hl with rfl | rfl <;> rcases hr with rfl | rfl <;> simp (disch := first | omega | assumption) only [s186_0, s186_1c2, s186_1c3, s186_1c4, s186_1c5, s186_1c6, s186_1c7, s186_1c8, s186_1c9, s186_1c10, s186_1d, s186_52, s186_53, s186_54, s186_55, s186_58, s186_59, s186_60, s186_61, s186_62, s186_65, s186_66, s186_67, s186_68, s186_69, s186_72, s186_73, s186_74, s186_75, s186_76, s186_79, s186_80, s186_83, s186_84, s186_85, s186_86, s186_89, s186_90, s186_91, s186_92, s186_93, s186_96, s186_97, s186_100, s186_101, s186_102, s186_103, s186_104, s186_105, s186_108, s186_109, s186_112, s186_113, s186_114, s186_115, s186_116, s186_117, s186_120, s186_121, s186_124, s186_125, s186_126, s186_127, s186_128, s186_129, s186_132, s186_133, s186_134, s186_135, s186_138, s186_139, s186_142, s186_143, s186_144, s186_145, s186_146, s186_147, s186_150, s186_151, s186_152, s186_153, s186_156, s186_157, s186_160, s186_161, nI_le2, nI_lt2, nI_eq2, nI_lt0, nI_0le, nI_0lt, nI_le0, nI_eq0, nI_clamp, nI_add, bu_nI, bb_0, bb_1, rf_s, rf_n, tl_s, tl_n, am_th_some, if_true, if_false, sI_eq, uI_eq, and_self, true_and, and_true, not_false_eq_true, not_true_eq_false, Nat.reduceEqDiff, Nat.reduceLeDiff, Nat.reduceLT, Nat.reduceAdd, Nat.reduceMul, Nat.reduceSub, Nat.zero_add, e186_10, cmp_0, hz, l64_inj, nI_and] <;> rfl
  · rw [show sp_oc 124 = 11 from rfl]
    show _ = some (some (Value.int (l ||| r)), I, R, Q)
    have hout : (nI 11).toInt < 2 ∨ 10 < (nI 11).toInt := Or.inr (by decide)
    obtain ⟨hl, hr⟩ := h01 (Or.inr rfl)
    rcases hl with rfl | rfl <;> rcases hr with rfl | rfl <;> simp (disch := first | omega | assumption) only [s186_0, s186_1c2, s186_1c3, s186_1c4, s186_1c5, s186_1c6, s186_1c7, s186_1c8, s186_1c9, s186_1c10, s186_1d, s186_52, s186_53, s186_54, s186_55, s186_58, s186_59, s186_60, s186_61, s186_62, s186_65, s186_66, s186_67, s186_68, s186_69, s186_72, s186_73, s186_74, s186_75, s186_76, s186_79, s186_80, s186_83, s186_84, s186_85, s186_86, s186_89, s186_90, s186_91, s186_92, s186_93, s186_96, s186_97, s186_100, s186_101, s186_102, s186_103, s186_104, s186_105, s186_108, s186_109, s186_112, s186_113, s186_114, s186_115, s186_116, s186_117, s186_120, s186_121, s186_124, s186_125, s186_126, s186_127, s186_128, s186_129, s186_132, s186_133, s186_134, s186_135, s186_138, s186_139, s186_142, s186_143, s186_144, s186_145, s186_146, s186_147, s186_150, s186_151, s186_152, s186_153, s186_156, s186_157, s186_160, s186_161, nI_le2, nI_lt2, nI_eq2, nI_lt0, nI_0le, nI_0lt, nI_le0, nI_eq0, nI_clamp, nI_add, bu_nI, bb_0, bb_1, rf_s, rf_n, tl_s, tl_n, am_th_some, if_true, if_false, sI_eq, uI_eq, and_self, true_and, and_true, not_false_eq_true, not_true_eq_false, Nat.reduceEqDiff, Nat.reduceLeDiff, Nat.reduceLT, Nat.reduceAdd, Nat.reduceMul, Nat.reduceSub, Nat.zero_add, s186_1d hout, cmp_0, hz, l64_inj, nI_or] <;> rfl
end
