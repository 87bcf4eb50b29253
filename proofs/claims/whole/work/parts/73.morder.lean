/-! ORDER: the model. -/
theorem me_fr {S : Nat → Nat → Nat → Prop} {I J : am_I} {D : Nat} {A M : Nat → Nat} (h : me_at I D A M) (hf : am_fr S I J) (h1 : ¬ S 12 0 29) (h2 : ∀ j, ¬ S 59 0 j) : me_at J D A M := ⟨(hf _ _ _ h1).trans h.1, fun i hi => ⟨(hf _ _ _ (h2 _)).trans (h.2 i hi).1, (hf _ _ _ (h2 _)).trans (h.2 i hi).2⟩⟩
section
variable {d D n : Nat} {I : am_I} {R : am_R} {Q : am_Q} {A M : Nat → Nat}
theorem m_tryOrder (hr : mm_R R) (hk : ds_ok D A M) : ∀ (left : Nat) (I : am_I) (k s o t c : Nat) (st : Option (Nat × Nat)), k + left = D → sp_un D s = left → s < 2 ^ D → t ≤ 30 * k → c ≤ 1620 * k → o < 10 ^ k → me_at I D A M → mo_st I st → ∃ J, am_cal (d + 1 + left) 260 [.ref (am_mk 12 0), .int (nI s), .int (nI t), .int (nI o), .int (nI c)] I R Q = some (none, J, R, Q) ∧ am_fr mo_S I J ∧ mo_st J (sp_try A M D left s o t c st) := by
  obtain ⟨hD, hB⟩ := hk
  have hp := pow_D hD
  have hp1 : 1 ≤ 2 ^ D := Nat.two_pow_pos _
  have eD : nI 1 <<< (nI D &&& 31) = nI (2 ^ D) := nI_bit (by omega)
  intro left
  induction left with
  | zero =>
    intro I k s o t c st hkl hun hs ht hc ho hd hco
    obtain rfl : k = D := by omega
    have h4 := hd.1
    have hs' : s = 2 ^ k - 1 := (un_full hs).mpr hun
    have ho2 : o < 2 ^ 24 := Nat.lt_of_lt_of_le ho (Nat.le_trans (Nat.pow_le_pow_right (by decide) hD) (by decide))
    show ∃ J, _ = _ ∧ _ ∧ mo_st J (sp_tk st c o)
    have take : ∃ J, am_sI (am_sI I 12 0 (am_uI (I 12 0) 44 (nI o))) 12 0 (am_uI (am_uI (I 12 0) 44 (nI o)) 45 (nI c)) = J ∧ am_fr mo_S I J ∧ mo_st J (some (c, o)) := by
      refine ⟨_, rfl, ?_, by omega, ho2, ?_, ?_⟩
      · refine fr_g (fr_h fr_rf ⟨rfl, Or.inl rfl⟩) fun j q => ?_
        have : ¬ j = 44 := fun e => q ⟨rfl, Or.inl e⟩
        have : ¬ j = 45 := fun e => q ⟨rfl, Or.inr e⟩
        rw [uI_ne (by omega), uI_ne (by omega)]
      · rw [sI_eq, uI_ne (by omega), uI_eq]
      · rw [sI_eq, uI_eq]
    cases st with
    | none =>
      have e44 : I 12 0 44 = -nI 1 := hco
      obtain ⟨J, j1, j2, j3⟩ := take
      refine ⟨J, ?_, j2, j3⟩
      rw [← j1, s260]
      simp (disch := first | omega | assumption) only [s260_0, s260_1, s260_2, s260_3, s260_6, s260_7, s260_8, s260_9, s260_12, s260_13, s260_16, s260_17, s260_20, s260_22, s260_23, s260_26, s260_29, s260_30, s260_31, s260_34, s260_35, s260_37, s260_40, s260_41, s260_42, s260_46, s260_47, s260_50, s260_53, s260_54, s260_56, s260_59, s260_62, s260_63, s260_64, s260_67, s260_68, s260_70, s260_71, s260_72, s260_73, s260_75, s260_76, s260_77, s260_78, s260_80, s260_81, s260_82, s260_84, s260_86, s260_87, s260_88, s260_90, s260_91, s260_93, s260_95, s260_96, s260_99, s260_100, s260_102, s260_103, s260_104, s260_105, s260_106, s260_107, s260_108, s260_111, s260_114, s260_117, nI_le2, nI_lt2, nI_eq2, nI_lt0, nI_0le, nI_0lt, nI_le0, nI_eq0, nI_clamp, nI_add, bu_nI, bb_0, bb_1, rf_s, rf_n, tl_s, tl_n, am_th_some, if_true, if_false, sI_eq, uI_eq, and_self, true_and, and_true, not_false_eq_true, not_true_eq_false, Nat.reduceEqDiff, Nat.reduceLeDiff, Nat.reduceLT, Nat.reduceAdd, Nat.reduceMul, Nat.reduceSub, Nat.zero_add, h4, eD, nI_sub hp1, hs', e44, sI_eq, sI_sI]
    | some a =>
      obtain ⟨a1, a2, a3, a4⟩ := hco
      have hne : (nI a.2 = -nI 1) = False := eq_false (m1_ne (by omega))
      by_cases q : c < a.1
      · have q' : ¬ a.1 ≤ c := by omega
        obtain ⟨J, j1, j2, j3⟩ := take
        refine ⟨J, ?_, j2, by rw [sp_tk, if_pos q]; exact j3⟩
        rw [← j1, s260]
        simp (disch := first | omega | assumption) only [s260_0, s260_1, s260_2, s260_3, s260_6, s260_7, s260_8, s260_9, s260_12, s260_13, s260_16, s260_17, s260_20, s260_22, s260_23, s260_26, s260_29, s260_30, s260_31, s260_34, s260_35, s260_37, s260_40, s260_41, s260_42, s260_46, s260_47, s260_50, s260_53, s260_54, s260_56, s260_59, s260_62, s260_63, s260_64, s260_67, s260_68, s260_70, s260_71, s260_72, s260_73, s260_75, s260_76, s260_77, s260_78, s260_80, s260_81, s260_82, s260_84, s260_86, s260_87, s260_88, s260_90, s260_91, s260_93, s260_95, s260_96, s260_99, s260_100, s260_102, s260_103, s260_104, s260_105, s260_106, s260_107, s260_108, s260_111, s260_114, s260_117, nI_le2, nI_lt2, nI_eq2, nI_lt0, nI_0le, nI_0lt, nI_le0, nI_eq0, nI_clamp, nI_add, bu_nI, bb_0, bb_1, rf_s, rf_n, tl_s, tl_n, am_th_some, if_true, if_false, sI_eq, uI_eq, and_self, true_and, and_true, not_false_eq_true, not_true_eq_false, Nat.reduceEqDiff, Nat.reduceLeDiff, Nat.reduceLT, Nat.reduceAdd, Nat.reduceMul, Nat.reduceSub, Nat.zero_add, h4, eD, nI_sub hp1, hs', a3, a4, hne, q', sI_eq, sI_sI]
      · have q' : a.1 ≤ c := by omega
        refine ⟨I, ?_, fr_rf, by rw [sp_tk, if_neg q]; exact ⟨a1, a2, a3, a4⟩⟩
        rw [s260]
        simp (disch := first | omega | assumption) only [s260_0, s260_1, s260_2, s260_3, s260_6, s260_7, s260_8, s260_9, s260_12, s260_13, s260_16, s260_17, s260_20, s260_22, s260_23, s260_26, s260_29, s260_30, s260_31, s260_34, s260_35, s260_37, s260_40, s260_41, s260_42, s260_46, s260_47, s260_50, s260_53, s260_54, s260_56, s260_59, s260_62, s260_63, s260_64, s260_67, s260_68, s260_70, s260_71, s260_72, s260_73, s260_75, s260_76, s260_77, s260_78, s260_80, s260_81, s260_82, s260_84, s260_86, s260_87, s260_88, s260_90, s260_91, s260_93, s260_95, s260_96, s260_99, s260_100, s260_102, s260_103, s260_104, s260_105, s260_106, s260_107, s260_108, s260_111, s260_114, s260_117, nI_le2, nI_lt2, nI_eq2, nI_lt0, nI_0le, nI_0lt, nI_le0, nI_eq0, nI_clamp, nI_add, bu_nI, bb_0, bb_1, rf_s, rf_n, tl_s, tl_n, am_th_some, if_true, if_false, sI_eq, uI_eq, and_self, true_and, and_true, not_false_eq_true, not_true_eq_false, Nat.reduceEqDiff, Nat.reduceLeDiff, Nat.reduceLT, Nat.reduceAdd, Nat.reduceMul, Nat.reduceSub, Nat.zero_add, h4, eD, nI_sub hp1, hs', a3, a4, hne, q']
  | succ left ih =>
    intro I k s o t c st hkl hun hs ht hc ho hd hco
    have h4 := hd.1
    have hs' : ¬ s = 2 ^ D - 1 := fun e => by have := (un_full hs).mp e; omega
    have loop : ∀ l7 : Value, ∃ J, am_ev (d + 1 + left + 1) 260 44 [.ref (am_mk 12 0), .int (nI s), .int (nI t), .int (nI o), .int (nI c), .int (nI 0), l7] [] I R Q = some (none, J, R, Q) ∧ am_fr mo_S I J ∧ mo_st J (sp_try A M D (left + 1) s o t c st) := by
      intro l7
      refine loop_inv (f := fun (a : am_I × Value) j => am_ev (d + 1 + left + 1) 260 44 [.ref (am_mk 12 0), .int (nI s), .int (nI t), .int (nI o), .int (nI c), .int (nI j), a.2] [] a.1 R Q) (Inv := fun j a => am_fr mo_S I a.1 ∧ mo_st a.1 (am_fold (fun st j => if s.testBit j = true then st else sp_try A M D left (s ||| 2 ^ j) (o * 10 + j) (t + A j) (c + M j * (t + A j)) st) st j)) (Post := fun y => ∃ J, y = some (none, J, R, Q) ∧ am_fr mo_S I J ∧ mo_st J (sp_try A M D (left + 1) s o t c st)) (n := D) ?_ ?_ (Nat.zero_le _) (a := (I, l7)) ⟨fr_rf, hco⟩
      · intro j ⟨J, l7⟩ hj ⟨f1, f2⟩
        have f1 : am_fr mo_S I J := f1
        have hdJ := me_fr hd f1 (fun w => by unfold mo_S at w; omega) (fun j w => by unfold mo_S at w; omega)
        have f2 : mo_st J (am_fold (fun st j => if s.testBit j = true then st else sp_try A M D left (s ||| 2 ^ j) (o * 10 + j) (t + A j) (c + M j * (t + A j)) st) st j) := f2
        left
        obtain ⟨a0, a1⟩ := hdJ.2 j hj
        obtain ⟨b0, b1⟩ := hB j hj
        have h4' := hdJ.1
        have h3 : ¬ D ≤ j := by omega
        have h5 : 2 * j < 12 := by omega
        have h6 : 2 * j + 1 < 12 := by omega
        have hh := m_has (d := d + 1 + left) (a := nI s) (b := nI j) (I := J) (R := R) (Q := Q)
        have hbit := bit_has (s := s) (c := j) (by omega) (by omega)
        have e1 : nI 1 <<< (nI j &&& 31) = nI (2 ^ j) := nI_bit (by omega)
        obtain ⟨s1, s2, s3, s4⟩ := bd_step (k := k) (by omega) ht hc ho b0 b1 (show j < 6 by omega)
        cases htb : s.testBit j with
        | true =>
          rw [if_pos (by rw [hbit]; exact htb)] at hh
          refine ⟨(J, l7), ?_, f1, ?_⟩
          · rw [s260_44]
            simp (disch := first | omega | assumption) only [s260_0, s260_1, s260_2, s260_3, s260_6, s260_7, s260_8, s260_9, s260_12, s260_13, s260_16, s260_17, s260_20, s260_22, s260_23, s260_26, s260_29, s260_30, s260_31, s260_34, s260_35, s260_37, s260_40, s260_41, s260_42, s260_46, s260_47, s260_50, s260_53, s260_54, s260_56, s260_59, s260_62, s260_63, s260_64, s260_67, s260_68, s260_70, s260_71, s260_72, s260_73, s260_75, s260_76, s260_77, s260_78, s260_80, s260_81, s260_82, s260_84, s260_86, s260_87, s260_88, s260_90, s260_91, s260_93, s260_95, s260_96, s260_99, s260_100, s260_102, s260_103, s260_104, s260_105, s260_106, s260_107, s260_108, s260_111, s260_114, s260_117, nI_le2, nI_lt2, nI_eq2, nI_lt0, nI_0le, nI_0lt, nI_le0, nI_eq0, nI_clamp, nI_add, bu_nI, bb_0, bb_1, rf_s, rf_n, tl_s, tl_n, am_th_some, if_true, if_false, sI_eq, uI_eq, and_self, true_and, and_true, not_false_eq_true, not_true_eq_false, Nat.reduceEqDiff, Nat.reduceLeDiff, Nat.reduceLT, Nat.reduceAdd, Nat.reduceMul, Nat.reduceSub, Nat.zero_add, h4', h3, hh]
          · rw [fold_s, if_pos htb]; exact f2
        | false =>
          rw [if_neg (by rw [hbit, htb]; decide)] at hh
          have hjD : 2 ^ j < 2 ^ D := Nat.pow_lt_pow_right (by decide) hj
          have hu := un_set htb D
          rw [if_pos hj] at hu
          obtain ⟨K, w1, w2, w3⟩ := ih J (k + 1) (s ||| 2 ^ j) (o * 10 + j) (t + A j) (c + M j * (t + A j)) _ (by omega) (by omega) (or_lt hs hjD) s1 s2 s3 hdJ f2
          rw [Nat.mul_comm o 10, Nat.mul_comm (M j)] at w1
          refine ⟨(K, .int (nI (t + A j))), ?_, fr_tr f1 w2, ?_⟩
          · rw [s260_44]
            simp (disch := first | omega | assumption) only [s260_0, s260_1, s260_2, s260_3, s260_6, s260_7, s260_8, s260_9, s260_12, s260_13, s260_16, s260_17, s260_20, s260_22, s260_23, s260_26, s260_29, s260_30, s260_31, s260_34, s260_35, s260_37, s260_40, s260_41, s260_42, s260_46, s260_47, s260_50, s260_53, s260_54, s260_56, s260_59, s260_62, s260_63, s260_64, s260_67, s260_68, s260_70, s260_71, s260_72, s260_73, s260_75, s260_76, s260_77, s260_78, s260_80, s260_81, s260_82, s260_84, s260_86, s260_87, s260_88, s260_90, s260_91, s260_93, s260_95, s260_96, s260_99, s260_100, s260_102, s260_103, s260_104, s260_105, s260_106, s260_107, s260_108, s260_111, s260_114, s260_117, nI_le2, nI_lt2, nI_eq2, nI_lt0, nI_0le, nI_0lt, nI_le0, nI_eq0, nI_clamp, nI_add, bu_nI, bb_0, bb_1, rf_s, rf_n, tl_s, tl_n, am_th_some, if_true, if_false, sI_eq, uI_eq, and_self, true_and, and_true, not_false_eq_true, not_true_eq_false, Nat.reduceEqDiff, Nat.reduceLeDiff, Nat.reduceLT, Nat.reduceAdd, Nat.reduceMul, Nat.reduceSub, Nat.zero_add, mr27 hr, h4', h3, hh, h5, h6, a0, a1, e1, nI_or, nI_mul, nI_add, w1]
          · rw [fold_s, if_neg (by rw [htb]; decide)]; rw [Nat.mul_comm o 10] at w3 ⊢; exact w3
      · intro ⟨J, l7⟩ ⟨f1, f2⟩
        have f1 : am_fr mo_S I J := f1
        have h4' : J 12 0 29 = nI D := (f1 _ _ _ (fun w => by unfold mo_S at w; omega)).trans h4
        refine ⟨J, ?_, f1, f2⟩
        rw [s260_44]
        simp (disch := first | omega | assumption) only [s260_0, s260_1, s260_2, s260_3, s260_6, s260_7, s260_8, s260_9, s260_12, s260_13, s260_16, s260_17, s260_20, s260_22, s260_23, s260_26, s260_29, s260_30, s260_31, s260_34, s260_35, s260_37, s260_40, s260_41, s260_42, s260_46, s260_47, s260_50, s260_53, s260_54, s260_56, s260_59, s260_62, s260_63, s260_64, s260_67, s260_68, s260_70, s260_71, s260_72, s260_73, s260_75, s260_76, s260_77, s260_78, s260_80, s260_81, s260_82, s260_84, s260_86, s260_87, s260_88, s260_90, s260_91, s260_93, s260_95, s260_96, s260_99, s260_100, s260_102, s260_103, s260_104, s260_105, s260_106, s260_107, s260_108, s260_111, s260_114, s260_117, nI_le2, nI_lt2, nI_eq2, nI_lt0, nI_0le, nI_0lt, nI_le0, nI_eq0, nI_clamp, nI_add, bu_nI, bb_0, bb_1, rf_s, rf_n, tl_s, tl_n, am_th_some, if_true, if_false, sI_eq, uI_eq, and_self, true_and, and_true, not_false_eq_true, not_true_eq_false, Nat.reduceEqDiff, Nat.reduceLeDiff, Nat.reduceLT, Nat.reduceAdd, Nat.reduceMul, Nat.reduceSub, Nat.zero_add, h4', Nat.le_refl]
    obtain ⟨J, g1, g2⟩ := loop am_J
    refine ⟨J, ?_, g2⟩
    rw [show d + 1 + (left + 1) = d + 1 + left + 1 from rfl, s260]
    simp (disch := first | omega | assumption) only [s260_0, s260_1, s260_2, s260_3, s260_6, s260_7, s260_8, s260_9, s260_12, s260_13, s260_16, s260_17, s260_20, s260_22, s260_23, s260_26, s260_29, s260_30, s260_31, s260_34, s260_35, s260_37, s260_40, s260_41, s260_42, s260_46, s260_47, s260_50, s260_53, s260_54, s260_56, s260_59, s260_62, s260_63, s260_64, s260_67, s260_68, s260_70, s260_71, s260_72, s260_73, s260_75, s260_76, s260_77, s260_78, s260_80, s260_81, s260_82, s260_84, s260_86, s260_87, s260_88, s260_90, s260_91, s260_93, s260_95, s260_96, s260_99, s260_100, s260_102, s260_103, s260_104, s260_105, s260_106, s260_107, s260_108, s260_111, s260_114, s260_117, nI_le2, nI_lt2, nI_eq2, nI_lt0, nI_0le, nI_0lt, nI_le0, nI_eq0, nI_clamp, nI_add, bu_nI, bb_0, bb_1, rf_s, rf_n, tl_s, tl_n, am_th_some, if_true, if_false, sI_eq, uI_eq, and_self, true_and, and_true, not_false_eq_true, not_true_eq_false, Nat.reduceEqDiff, Nat.reduceLeDiff, Nat.reduceLT, Nat.reduceAdd, Nat.reduceMul, Nat.reduceSub, Nat.zero_add, h4, eD, nI_sub hp1, hs']
    exact g1
/-- the found one, as an answer -/
def sp_ord (st : Option (Nat × Nat)) (w : Nat) : Int32 := match st with
  | none => -nI 1
  | some a => if w = 0 then nI a.2 else nI a.1
theorem try_some (A M : Nat → Nat) (D : Nat) : ∀ (left s o t c : Nat) (st : Option (Nat × Nat)), sp_un D s = left → s < 2 ^ D → ∃ a, sp_try A M D left s o t c st = some a := by
  intro left
  have keep : ∀ (left s o t c : Nat) (a : Nat × Nat), ∃ b, sp_try A M D left s o t c (some a) = some b := by
    intro left
    induction left with
    | zero =>
      intro s o t c a
      show ∃ b, sp_tk (some a) c o = some b
      rw [sp_tk]
      by_cases e : c < a.1
      · exact ⟨_, if_pos e⟩
      · exact ⟨_, if_neg e⟩
    | succ left ih =>
      intro s o t c a
      have : ∀ n, ∃ b, am_fold (fun st j => if s.testBit j = true then st else sp_try A M D left (s ||| 2 ^ j) (o * 10 + j) (t + A j) (c + M j * (t + A j)) st) (some a) n = some b := by
        intro n
        induction n with
        | zero => exact ⟨a, rfl⟩
        | succ n ihn =>
          obtain ⟨b, hb⟩ := ihn
          rw [fold_s, hb]
          by_cases e : s.testBit n = true
          · exact ⟨b, if_pos e⟩
          · rw [if_neg e]; exact ih _ _ _ _ b
      exact this D
  induction left with
  | zero =>
    intro s o t c st _ _
    show ∃ a, sp_tk st c o = some a
    cases st with
    | none => exact ⟨_, rfl⟩
    | some a => exact keep 0 s o t c a
  | succ left ih =>
    intro s o t c st hun hs
    cases st with
    | some a => exact keep _ s o t c a
    | none =>
      have hex : ∃ j, j < D ∧ s.testBit j = false := by
        refine Classical.byContradiction fun h => ?_
        have := un_zero.mpr (fun i hi => by
          cases e : s.testBit i with
          | true => rfl
          | false => exact absurd ⟨i, hi, e⟩ h : ∀ i, i < D → s.testBit i = true)
        omega
      obtain ⟨j, hj, hb⟩ := hex
      have : ∀ n, j < n → n ≤ D → ∃ b, am_fold (fun st j => if s.testBit j = true then st else sp_try A M D left (s ||| 2 ^ j) (o * 10 + j) (t + A j) (c + M j * (t + A j)) st) none n = some b := by
        intro n
        induction n with
        | zero => intro h _; exact absurd h (Nat.not_lt_zero _)
        | succ n ihn =>
          intro h h2
          rw [fold_s]
          by_cases e : j < n
          · obtain ⟨b, hb2⟩ := ihn e (by omega)
            rw [hb2]
            by_cases e : s.testBit n = true
            · exact ⟨b, if_pos e⟩
            · rw [if_neg e]; exact keep _ _ _ _ _ b
          · obtain rfl : j = n := by omega
            rw [if_neg (by rw [hb]; decide)]
            have hu := un_set hb D
            rw [if_pos hj] at hu
            exact ih _ _ _ _ _ (by omega) (or_lt hs (Nat.pow_lt_pow_right (by decide) hj))
      exact this D hj (Nat.le_refl _)
theorem m_order (hr : mm_R R) (h : me_at I D A M) (hk : ds_ok D A M) (hc4 : I 12 0 30 = nI n) (hn0 : 1 ≤ n) (hn2 : n ≤ 25) {w : Nat} (hw : w ≤ 1) : ∃ J, am_cal (d + 8) 261 [.ref (am_mk 12 0), .int (nI w)] I R Q = some (some (.int (sp_ord (sp_try A M D D 0 0 0 0 none) w)), J, R, Q) ∧ am_fr mo_S I J := by
  have hD := hk.1
  have hl : ¬ I 12 0 30 ≤ 0 := by rw [hc4, nI_le0 (by omega)]; omega
  have h0 : sp_un D 0 = D := by
    have : ∀ m, sp_un m 0 = m := by
      intro m
      induction m with
      | zero => rfl
      | succ m ih => rw [un_s, ih, Nat.zero_testBit, if_neg (by decide)]
    exact this D
  obtain ⟨J, g1, g2, g3⟩ := m_tryOrder (d := d + (6 - D)) (Q := Q) hr hk D (am_sI (am_sI I 12 0 (am_uI (I 12 0) 44 (-nI 1))) 12 0 (am_uI (am_uI (I 12 0) 44 (-nI 1)) 45 (nI 0))) 0 0 0 0 0 none (by omega) h0 (Nat.two_pow_pos _) (Nat.zero_le _) (Nat.zero_le _) (by decide) (by
    refine ⟨?_, fun i hi => ?_⟩
    · rw [sI_eq, uI_ne (by omega), uI_ne (by omega), h.1]
    · rw [sI_na (by omega), sI_na (by omega)]; exact h.2 i hi) (by show _ = _; rw [sI_eq, uI_ne (by omega), uI_eq])
  rw [show d + (6 - D) + 1 + D = d + 7 by omega, sI_sI] at g1
  obtain ⟨a, ha⟩ := try_some A M D D 0 0 0 0 none h0 (Nat.two_pow_pos _)
  rw [ha] at g3 ⊢
  obtain ⟨a1, a2, a3, a4⟩ := g3
  refine ⟨J, ?_, fr_tr ?_ g2⟩
  · rw [s261]
    rcases (show w = 0 ∨ w = 1 by omega) with rfl | rfl
    · simp (disch := first | omega | assumption) only [s261_0, s261_1, s261_4, s261_7, s261_8, s261_9, s261_10, s261_13, s261_16, s261_17, s261_18, s261_19, s261_20, s261_23, s261_24, s261_25, s261_28, s261_29, s261_30, s261_31, s261_32, s261_33, s261_36, s261_37, s261_40, s261_41, s261_44, s261_47, s261_48, s261_51, nI_le2, nI_lt2, nI_eq2, nI_lt0, nI_0le, nI_0lt, nI_le0, nI_eq0, nI_clamp, nI_add, bu_nI, bb_0, bb_1, rf_s, rf_n, tl_s, tl_n, am_th_some, if_true, if_false, sI_eq, uI_eq, and_self, true_and, and_true, not_false_eq_true, not_true_eq_false, Nat.reduceEqDiff, Nat.reduceLeDiff, Nat.reduceLT, Nat.reduceAdd, Nat.reduceMul, Nat.reduceSub, Nat.zero_add, m_isLunch (d := d + 7), hl, m_in (d := d + 7), sI_eq, sI_sI, g1, a3, a4]
      rfl
    · simp (disch := first | omega | assumption) only [s261_0, s261_1, s261_4, s261_7, s261_8, s261_9, s261_10, s261_13, s261_16, s261_17, s261_18, s261_19, s261_20, s261_23, s261_24, s261_25, s261_28, s261_29, s261_30, s261_31, s261_32, s261_33, s261_36, s261_37, s261_40, s261_41, s261_44, s261_47, s261_48, s261_51, nI_le2, nI_lt2, nI_eq2, nI_lt0, nI_0le, nI_0lt, nI_le0, nI_eq0, nI_clamp, nI_add, bu_nI, bb_0, bb_1, rf_s, rf_n, tl_s, tl_n, am_th_some, if_true, if_false, sI_eq, uI_eq, and_self, true_and, and_true, not_false_eq_true, not_true_eq_false, Nat.reduceEqDiff, Nat.reduceLeDiff, Nat.reduceLT, Nat.reduceAdd, Nat.reduceMul, Nat.reduceSub, Nat.zero_add, m_isLunch (d := d + 7), hl, m_in (d := d + 7), sI_eq, sI_sI, g1, a3, a4]
      rfl
  · refine fr_g (fr_h fr_rf ⟨rfl, Or.inl rfl⟩) fun j q => ?_
    have : ¬ j = 44 := fun e => q ⟨rfl, Or.inl e⟩
    have : ¬ j = 45 := fun e => q ⟨rfl, Or.inr e⟩
    rw [uI_ne (by omega), uI_ne (by omega)]
end
