/-! ORDER: the class. -/
theorem bd_step {k t c a m o j : Nat} (hk : k < 6) (ht : t ≤ 30 * k) (hc : c ≤ 1620 * k) (ho : o < 10 ^ k) (ha : a ≤ 30) (hm : m ≤ 9) (hj : j < 6) : t + a ≤ 30 * (k + 1) ∧ c + m * (t + a) ≤ 1620 * (k + 1) ∧ o * 10 + j < 10 ^ (k + 1) ∧ 10 ^ (k + 1) ≤ 1000000 := by
  have h1 : t + a ≤ 180 := by omega
  have h2 : m * (t + a) ≤ 9 * 180 := Nat.mul_le_mul hm h1
  have h3 : 10 ^ (k + 1) ≤ 10 ^ 6 := Nat.pow_le_pow_right (by decide) (by omega)
  have h4 : 10 ^ (k + 1) = 10 ^ k * 10 := Nat.pow_succ ..
  refine ⟨by omega, by omega, by omega, h3⟩
theorem tk_at {I : am_I} {u c o : Nat} {st : Option (Nat × Nat)} (h : co_at I u st) (hc : c < 2 ^ 24) (ho : o < 2 ^ 31) (hb : ∀ a, st = some a → c < a.1 ∨ ¬ c < a.1) : (nI c < I 6 u 8) = (match st with | none => True | some a => c < a.1) := by
  cases st with
  | none =>
    obtain ⟨h1, h2⟩ := h
    rw [h1, nI_lt2 (by omega) (by decide)]
    exact eq_true (by omega)
  | some a =>
    obtain ⟨h0, h1, h2⟩ := h
    rw [h1, nI_lt2 (by omega) (by omega)]
section
variable {d u D : Nat} {I : am_I} {R : am_R} {Q : am_Q} {A M : Nat → Nat}
theorem c_tryOrders (hr : ds_R R u) (hk : ds_ok D A M) : ∀ (left : Nat) (I : am_I) (k s o t c : Nat) (st : Option (Nat × Nat)), k + left = D → s < 2 ^ D → t ≤ 30 * k → c ≤ 1620 * k → o < 10 ^ k → ds_at I u D A M → co_at I u st → ∃ J, am_cal (d + left) 55 [.ref (am_mk 6 u), .int (nI k), .int (nI s), .int (nI o), .int (nI t), .int (nI c)] I R Q = some (none, J, R, Q) ∧ am_fr (co_S u) I J ∧ co_at J u (sp_try A M D left s o t c st) := by
  obtain ⟨hD, hB⟩ := hk
  have hp := pow_D hD
  intro left
  induction left with
  | zero =>
    intro I k s o t c st hkl hs ht hc ho hd hco
    obtain rfl : k = D := by omega
    have h4 := hd.1
    have ho2 : o < 2 ^ 31 := Nat.lt_of_lt_of_le ho (Nat.le_trans (Nat.pow_le_pow_right (by decide) hD) (by decide))
    have hlt := tk_at hco (show c < 2 ^ 24 by omega) ho2 (fun a _ => by omega)
    show ∃ J, _ = _ ∧ _ ∧ co_at J u (sp_tk st c o)
    have take : ∃ J, am_sI (am_sI I 6 u (am_uI (I 6 u) 8 (nI c))) 6 u (am_uI (am_uI (I 6 u) 8 (nI c)) 7 (nI o)) = J ∧ am_fr (co_S u) I J ∧ co_at J u (some (c, o)) := by
      refine ⟨_, rfl, ?_, by omega, ?_, ?_⟩
      · refine fr_g (fr_h fr_rf ⟨rfl, rfl, Or.inr rfl⟩) fun j q => ?_
        have : ¬ j = 7 := fun e => q ⟨rfl, rfl, Or.inl e⟩
        have : ¬ j = 8 := fun e => q ⟨rfl, rfl, Or.inr e⟩
        rw [uI_ne (by omega), uI_ne (by omega)]
      · rw [sI_eq, uI_ne (by omega), uI_eq]
      · rw [sI_eq, uI_eq]
    by_cases q : nI c < I 6 u 8
    · have e : sp_tk st c o = some (c, o) := by
        rw [hlt] at q
        cases st with
        | none => rfl
        | some a => exact if_pos q
      obtain ⟨J, j1, j2, j3⟩ := take
      rw [e]
      refine ⟨J, ?_, j2, j3⟩
      have q' := Int32.not_le.mpr q
      rw [← j1, s55]
      simp (disch := first | omega | assumption) only [s55_0, s55_1, s55_2, s55_5, s55_8, s55_9, s55_11, s55_14, s55_16, s55_17, s55_20, s55_23, s55_24, s55_26, s55_29, s55_30, s55_31, s55_34, s55_35, s55_36, s55_40, s55_41, s55_44, s55_47, s55_49, s55_51, s55_54, s55_55, s55_56, s55_58, s55_59, s55_60, s55_63, s55_65, s55_66, s55_69, s55_71, s55_72, s55_73, s55_75, s55_76, s55_77, s55_78, s55_79, s55_80, s55_81, s55_83, s55_84, s55_85, s55_86, s55_88, s55_89, s55_91, s55_92, s55_94, s55_96, s55_97, s55_100, s55_102, s55_103, s55_105, s55_106, s55_107, s55_110, s55_113, s55_116, nI_le2, nI_lt2, nI_eq2, nI_lt0, nI_0le, nI_0lt, nI_le0, nI_eq0, nI_clamp, nI_add, bu_nI, bb_0, bb_1, rf_s, rf_n, tl_s, tl_n, am_th_some, if_true, if_false, sI_eq, uI_eq, and_self, true_and, and_true, not_false_eq_true, not_true_eq_false, Nat.reduceEqDiff, Nat.reduceLeDiff, Nat.reduceLT, Nat.reduceAdd, Nat.reduceMul, Nat.reduceSub, Nat.zero_add, h4, Nat.le_refl, q', sI_eq, sI_sI]
    · have e : sp_tk st c o = st := by
        rw [hlt] at q
        cases st with
        | none => exact absurd trivial q
        | some a => exact if_neg q
      rw [e]
      refine ⟨I, ?_, fr_rf, hco⟩
      have q' := Int32.not_lt.mp q
      rw [s55]
      simp (disch := first | omega | assumption) only [s55_0, s55_1, s55_2, s55_5, s55_8, s55_9, s55_11, s55_14, s55_16, s55_17, s55_20, s55_23, s55_24, s55_26, s55_29, s55_30, s55_31, s55_34, s55_35, s55_36, s55_40, s55_41, s55_44, s55_47, s55_49, s55_51, s55_54, s55_55, s55_56, s55_58, s55_59, s55_60, s55_63, s55_65, s55_66, s55_69, s55_71, s55_72, s55_73, s55_75, s55_76, s55_77, s55_78, s55_79, s55_80, s55_81, s55_83, s55_84, s55_85, s55_86, s55_88, s55_89, s55_91, s55_92, s55_94, s55_96, s55_97, s55_100, s55_102, s55_103, s55_105, s55_106, s55_107, s55_110, s55_113, s55_116, nI_le2, nI_lt2, nI_eq2, nI_lt0, nI_0le, nI_0lt, nI_le0, nI_eq0, nI_clamp, nI_add, bu_nI, bb_0, bb_1, rf_s, rf_n, tl_s, tl_n, am_th_some, if_true, if_false, sI_eq, uI_eq, and_self, true_and, and_true, not_false_eq_true, not_true_eq_false, Nat.reduceEqDiff, Nat.reduceLeDiff, Nat.reduceLT, Nat.reduceAdd, Nat.reduceMul, Nat.reduceSub, Nat.zero_add, h4, Nat.le_refl, q']
  | succ left ih =>
    intro I k s o t c st hkl hs ht hc ho hd hco
    have h4 := hd.1
    have h1 : ¬ D ≤ k := by omega
    have h2 : ¬ 6 ≤ k := by omega
    have loop : ∀ l7 : Value, ∃ J, am_ev (d + left + 1) 55 38 [.ref (am_mk 6 u), .int (nI k), .int (nI s), .int (nI o), .int (nI t), .int (nI c), .int (nI 0), l7] [] I R Q = some (none, J, R, Q) ∧ am_fr (co_S u) I J ∧ co_at J u (sp_try A M D (left + 1) s o t c st) := by
      intro l7
      refine loop_inv (f := fun (a : am_I × Value) j => am_ev (d + left + 1) 55 38 [.ref (am_mk 6 u), .int (nI k), .int (nI s), .int (nI o), .int (nI t), .int (nI c), .int (nI j), a.2] [] a.1 R Q) (Inv := fun j a => am_fr (co_S u) I a.1 ∧ co_at a.1 u (am_fold (fun st j => if s.testBit j = true then st else sp_try A M D left (s ||| 2 ^ j) (o * 10 + j) (t + A j) (c + M j * (t + A j)) st) st j)) (Post := fun y => ∃ J, y = some (none, J, R, Q) ∧ am_fr (co_S u) I J ∧ co_at J u (sp_try A M D (left + 1) s o t c st)) (n := D) ?_ ?_ (Nat.zero_le _) (a := (I, l7)) ⟨fr_rf, hco⟩
      · intro j ⟨J, l7⟩ hj ⟨f1, f2⟩
        have f1 : am_fr (co_S u) I J := f1
        have hdJ := ds_fr hd f1 (fun w => by unfold co_S at w; omega) (fun j w => by unfold co_S at w; omega) (fun j w => by unfold co_S at w; omega)
        have f2 : co_at J u (am_fold (fun st j => if s.testBit j = true then st else sp_try A M D left (s ||| 2 ^ j) (o * 10 + j) (t + A j) (c + M j * (t + A j)) st) st j) := f2
        left
        obtain ⟨a0, a1⟩ := hdJ.2 j hj
        obtain ⟨b0, b1⟩ := hB j hj
        have h4' := hdJ.1
        have h3 : ¬ D ≤ j := by omega
        have h5 : ¬ 6 ≤ j := by omega
        have hbit := bit_and (s := s) (c := j) (by omega) (by omega)
        have e1 : nI 1 <<< (nI j &&& 31) = nI (2 ^ j) := nI_bit (by omega)
        obtain ⟨s1, s2, s3, s4⟩ := bd_step (k := k) (by omega) ht hc ho b0 b1 (show j < 6 by omega)
        cases htb : s.testBit j with
        | true =>
          rw [htb] at hbit
          have hbit := hbit.trans (eq_false (by decide))
          refine ⟨(J, l7), ?_, f1, ?_⟩
          · rw [s55_38]
            simp (disch := first | omega | assumption) only [s55_0, s55_1, s55_2, s55_5, s55_8, s55_9, s55_11, s55_14, s55_16, s55_17, s55_20, s55_23, s55_24, s55_26, s55_29, s55_30, s55_31, s55_34, s55_35, s55_36, s55_40, s55_41, s55_44, s55_47, s55_49, s55_51, s55_54, s55_55, s55_56, s55_58, s55_59, s55_60, s55_63, s55_65, s55_66, s55_69, s55_71, s55_72, s55_73, s55_75, s55_76, s55_77, s55_78, s55_79, s55_80, s55_81, s55_83, s55_84, s55_85, s55_86, s55_88, s55_89, s55_91, s55_92, s55_94, s55_96, s55_97, s55_100, s55_102, s55_103, s55_105, s55_106, s55_107, s55_110, s55_113, s55_116, nI_le2, nI_lt2, nI_eq2, nI_lt0, nI_0le, nI_0lt, nI_le0, nI_eq0, nI_clamp, nI_add, bu_nI, bb_0, bb_1, rf_s, rf_n, tl_s, tl_n, am_th_some, if_true, if_false, sI_eq, uI_eq, and_self, true_and, and_true, not_false_eq_true, not_true_eq_false, Nat.reduceEqDiff, Nat.reduceLeDiff, Nat.reduceLT, Nat.reduceAdd, Nat.reduceMul, Nat.reduceSub, Nat.zero_add, h4', h3, h5, hbit]
          · rw [fold_s, if_pos htb]; exact f2
        | false =>
          rw [htb] at hbit
          have hbit := hbit.trans (eq_true rfl)
          rw [e1] at hbit
          have hjD : 2 ^ j < 2 ^ D := Nat.pow_lt_pow_right (by decide) hj
          obtain ⟨K, w1, w2, w3⟩ := ih J (k + 1) (s ||| 2 ^ j) (o * 10 + j) (t + A j) (c + M j * (t + A j)) _ (by omega) (or_lt hs hjD) s1 s2 s3 hdJ f2
          refine ⟨(K, .int (nI (t + A j))), ?_, fr_tr f1 w2, ?_⟩
          · rw [s55_38]
            simp (disch := first | omega | assumption) only [s55_0, s55_1, s55_2, s55_5, s55_8, s55_9, s55_11, s55_14, s55_16, s55_17, s55_20, s55_23, s55_24, s55_26, s55_29, s55_30, s55_31, s55_34, s55_35, s55_36, s55_40, s55_41, s55_44, s55_47, s55_49, s55_51, s55_54, s55_55, s55_56, s55_58, s55_59, s55_60, s55_63, s55_65, s55_66, s55_69, s55_71, s55_72, s55_73, s55_75, s55_76, s55_77, s55_78, s55_79, s55_80, s55_81, s55_83, s55_84, s55_85, s55_86, s55_88, s55_89, s55_91, s55_92, s55_94, s55_96, s55_97, s55_100, s55_102, s55_103, s55_105, s55_106, s55_107, s55_110, s55_113, s55_116, nI_le2, nI_lt2, nI_eq2, nI_lt0, nI_0le, nI_0lt, nI_le0, nI_eq0, nI_clamp, nI_add, bu_nI, bb_0, bb_1, rf_s, rf_n, tl_s, tl_n, am_th_some, if_true, if_false, sI_eq, uI_eq, and_self, true_and, and_true, not_false_eq_true, not_true_eq_false, Nat.reduceEqDiff, Nat.reduceLeDiff, Nat.reduceLT, Nat.reduceAdd, Nat.reduceMul, Nat.reduceSub, Nat.zero_add, hr.1, hr.2, h4', h3, h5, hbit, a0, a1, e1, nI_or, nI_mul, nI_add, w1]
          · rw [fold_s, if_neg (by rw [htb]; decide)]; exact w3
      · intro ⟨J, l7⟩ ⟨f1, f2⟩
        have f1 : am_fr (co_S u) I J := f1
        have h4' : J 6 u 5 = nI D := (f1 _ _ _ (fun w => by unfold co_S at w; omega)).trans h4
        refine ⟨J, ?_, f1, f2⟩
        rw [s55_38]
        simp (disch := first | omega | assumption) only [s55_0, s55_1, s55_2, s55_5, s55_8, s55_9, s55_11, s55_14, s55_16, s55_17, s55_20, s55_23, s55_24, s55_26, s55_29, s55_30, s55_31, s55_34, s55_35, s55_36, s55_40, s55_41, s55_44, s55_47, s55_49, s55_51, s55_54, s55_55, s55_56, s55_58, s55_59, s55_60, s55_63, s55_65, s55_66, s55_69, s55_71, s55_72, s55_73, s55_75, s55_76, s55_77, s55_78, s55_79, s55_80, s55_81, s55_83, s55_84, s55_85, s55_86, s55_88, s55_89, s55_91, s55_92, s55_94, s55_96, s55_97, s55_100, s55_102, s55_103, s55_105, s55_106, s55_107, s55_110, s55_113, s55_116, nI_le2, nI_lt2, nI_eq2, nI_lt0, nI_0le, nI_0lt, nI_le0, nI_eq0, nI_clamp, nI_add, bu_nI, bb_0, bb_1, rf_s, rf_n, tl_s, tl_n, am_th_some, if_true, if_false, sI_eq, uI_eq, and_self, true_and, and_true, not_false_eq_true, not_true_eq_false, Nat.reduceEqDiff, Nat.reduceLeDiff, Nat.reduceLT, Nat.reduceAdd, Nat.reduceMul, Nat.reduceSub, Nat.zero_add, h4', Nat.le_refl]
    obtain ⟨J, g1, g2⟩ := loop am_J
    refine ⟨J, ?_, g2⟩
    rw [show d + (left + 1) = d + left + 1 from rfl, s55]
    have h6 : k < 6 := by omega
    simp (disch := first | omega | assumption) only [s55_0, s55_1, s55_2, s55_5, s55_8, s55_9, s55_11, s55_14, s55_16, s55_17, s55_20, s55_23, s55_24, s55_26, s55_29, s55_30, s55_31, s55_34, s55_35, s55_36, s55_40, s55_41, s55_44, s55_47, s55_49, s55_51, s55_54, s55_55, s55_56, s55_58, s55_59, s55_60, s55_63, s55_65, s55_66, s55_69, s55_71, s55_72, s55_73, s55_75, s55_76, s55_77, s55_78, s55_79, s55_80, s55_81, s55_83, s55_84, s55_85, s55_86, s55_88, s55_89, s55_91, s55_92, s55_94, s55_96, s55_97, s55_100, s55_102, s55_103, s55_105, s55_106, s55_107, s55_110, s55_113, s55_116, nI_le2, nI_lt2, nI_eq2, nI_lt0, nI_0le, nI_0lt, nI_le0, nI_eq0, nI_clamp, nI_add, bu_nI, bb_0, bb_1, rf_s, rf_n, tl_s, tl_n, am_th_some, if_true, if_false, sI_eq, uI_eq, and_self, true_and, and_true, not_false_eq_true, not_true_eq_false, Nat.reduceEqDiff, Nat.reduceLeDiff, Nat.reduceLT, Nat.reduceAdd, Nat.reduceMul, Nat.reduceSub, Nat.zero_add, h4, h1, h6]
    exact g1
theorem c_findOrder (hr : ds_R R u) (hk : ds_ok D A M) (hd : ds_at I u D A M) : ∃ J, am_cal (d + 7) 54 [.ref (am_mk 6 u)] I R Q = some (none, J, R, Q) ∧ am_fr (co_S u) I J ∧ co_at J u (sp_try A M D D 0 0 0 0 none) := by
  have hD := hk.1
  obtain ⟨J, g1, g2, g3⟩ := c_tryOrders (d := d + (6 - D)) (Q := Q) hr hk D (am_sI (am_sI I 6 u (am_uI (I 6 u) 7 (-nI 1))) 6 u (am_uI (am_uI (I 6 u) 7 (-nI 1)) 8 (nI 1000000000))) 0 0 0 0 0 none (by omega) (Nat.two_pow_pos _) (Nat.zero_le _) (Nat.zero_le _) (by decide) (by
    refine ⟨?_, fun i hi => ?_⟩
    · rw [sI_eq, uI_ne (by omega), uI_ne (by omega), hd.1]
    · rw [sI_na (by omega), sI_na (by omega), sI_na (by omega), sI_na (by omega)]; exact hd.2 i hi) ⟨by rw [sI_eq, uI_eq], by rw [sI_eq, uI_ne (by omega), uI_eq]⟩
  rw [show d + (6 - D) + D = d + 6 by omega] at g1
  refine ⟨J, ?_, fr_tr ?_ g2, g3⟩
  · rw [s54]
    simp (disch := first | omega | assumption) only [s54_0, s54_1, s54_2, s54_5, s54_6, s54_8, s54_11, s54_12, s54_13, s54_14, s54_15, s54_16, s54_17, s54_20, nI_le2, nI_lt2, nI_eq2, nI_lt0, nI_0le, nI_0lt, nI_le0, nI_eq0, nI_clamp, nI_add, bu_nI, bb_0, bb_1, rf_s, rf_n, tl_s, tl_n, am_th_some, if_true, if_false, sI_eq, uI_eq, and_self, true_and, and_true, not_false_eq_true, not_true_eq_false, Nat.reduceEqDiff, Nat.reduceLeDiff, Nat.reduceLT, Nat.reduceAdd, Nat.reduceMul, Nat.reduceSub, Nat.zero_add, sI_eq, sI_sI]
    rw [sI_sI] at g1
    simp (disch := first | omega | assumption) only [s54_0, s54_1, s54_2, s54_5, s54_6, s54_8, s54_11, s54_12, s54_13, s54_14, s54_15, s54_16, s54_17, s54_20, nI_le2, nI_lt2, nI_eq2, nI_lt0, nI_0le, nI_0lt, nI_le0, nI_eq0, nI_clamp, nI_add, bu_nI, bb_0, bb_1, rf_s, rf_n, tl_s, tl_n, am_th_some, if_true, if_false, sI_eq, uI_eq, and_self, true_and, and_true, not_false_eq_true, not_true_eq_false, Nat.reduceEqDiff, Nat.reduceLeDiff, Nat.reduceLT, Nat.reduceAdd, Nat.reduceMul, Nat.reduceSub, Nat.zero_add, g1]
  · refine fr_g (fr_h fr_rf ⟨rfl, rfl, Or.inl rfl⟩) fun j q => ?_
    have : ¬ j = 7 := fun e => q ⟨rfl, rfl, Or.inl e⟩
    have : ¬ j = 8 := fun e => q ⟨rfl, rfl, Or.inr e⟩
    rw [uI_ne (by omega), uI_ne (by omega)]
end
