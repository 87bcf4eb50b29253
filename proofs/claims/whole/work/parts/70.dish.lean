/-! DISHES of those who wait: the class. -/
def ds_ok (D : Nat) (A M : Nat → Nat) : Prop := D ≤ 6 ∧ ∀ i, i < D → A i ≤ 30 ∧ M i ≤ 9
def ds_R (R : am_R) (u : Nat) : Prop := R 6 u 3 = some (am_mk 17 u) ∧ R 6 u 4 = some (am_mk 18 u)
def ds_at (I : am_I) (u D : Nat) (A M : Nat → Nat) : Prop := I 6 u 5 = nI D ∧ ∀ i, i < D → I 17 u i = nI (A i) ∧ I 18 u i = nI (M i)
/-- TENS of some -/
def sp_tn (A : Nat → Nat) (s D : Nat) : Nat := am_fold (fun a i => a + if s.testBit i = true then A i else 0) 0 D
theorem tn_le {A : Nat → Nat} {s D : Nat} (h : ∀ i, i < D → A i ≤ 30) : sp_tn A s D ≤ 30 * D := by
  induction D with
  | zero => exact Nat.le_refl _
  | succ D ih =>
    have := ih fun i hi => h i (by omega)
    have := h D (Nat.lt_succ_self D)
    rw [sp_tn, fold_s]
    show sp_tn A s D + _ ≤ _
    by_cases e : s.testBit D = true
    · rw [if_pos e]; omega
    · rw [if_neg e]; omega
/-- TOGETHER, of two OVENS -/
def sp_tg (A : Nat → Nat) (D : Nat) : Int32 := am_fold (fun a s => sp_min a (sp_max (nI (sp_tn A s D)) (nI (sp_tn A (2 ^ D - 1) D) - nI (sp_tn A s D)))) (nI (sp_tn A (2 ^ D - 1) D)) (2 ^ D)
/-- an ORDER found: kept if it is the first, or less is minded -/
def sp_tk (st : Option (Nat × Nat)) (c o : Nat) : Option (Nat × Nat) := match st with
  | none => some (c, o)
  | some a => if c < a.1 then some (c, o) else st
def sp_try (A M : Nat → Nat) (D : Nat) : Nat → Nat → Nat → Nat → Nat → Option (Nat × Nat) → Option (Nat × Nat)
  | 0, _, o, _, c, st => sp_tk st c o
  | l + 1, s, o, t, c, st => am_fold (fun st j => if s.testBit j = true then st else sp_try A M D l (s ||| 2 ^ j) (o * 10 + j) (t + A j) (c + M j * (t + A j)) st) st D
/-- where the class keeps it -/
def co_at (I : am_I) (u : Nat) (st : Option (Nat × Nat)) : Prop := match st with
  | none => I 6 u 8 = nI 1000000000 ∧ I 6 u 7 = -nI 1
  | some a => a.1 < 2 ^ 24 ∧ I 6 u 8 = nI a.1 ∧ I 6 u 7 = nI a.2
def co_S (u : Nat) : Nat → Nat → Nat → Prop := fun a b j => a = 6 ∧ b = u ∧ (j = 7 ∨ j = 8)
theorem ds_fr {S : Nat → Nat → Nat → Prop} {I J : am_I} {u D : Nat} {A M : Nat → Nat} (h : ds_at I u D A M) (hf : am_fr S I J) (h1 : ¬ S 6 u 5) (h2 : ∀ j, ¬ S 17 u j) (h3 : ∀ j, ¬ S 18 u j) : ds_at J u D A M := ⟨(hf _ _ _ h1).trans h.1, fun i hi => ⟨(hf _ _ _ (h2 _)).trans (h.2 i hi).1, (hf _ _ _ (h3 _)).trans (h.2 i hi).2⟩⟩
section
variable {d u D : Nat} {I : am_I} {R : am_R} {Q : am_Q} {A M : Nat → Nat}
theorem c_hasDish (h : ds_at I u D A M) (hk : ds_ok D A M) {x : Int32} : am_cal d 53 [.ref (am_mk 6 u), .int x] I R Q = some (some (.int (if 0 ≤ x ∧ x < nI D then nI 1 else nI 0)), I, R, Q) := by
  obtain ⟨h4, hA⟩ := h
  have hD := hk.1
  rw [s53]
  by_cases h1 : x < 0
  · have e : ¬ (0 ≤ x ∧ x < nI D) := fun w => Int32.not_le.mpr h1 w.1
    rw [if_neg e]
    simp (disch := first | omega | assumption) only [s53_0, s53_1, s53_4, s53_5, s53_6, s53_9, s53_12, s53_13, s53_15, s53_18, s53_19, s53_22, s53_23, nI_le2, nI_lt2, nI_eq2, nI_lt0, nI_0le, nI_0lt, nI_le0, nI_eq0, nI_clamp, nI_add, bu_nI, bb_0, bb_1, rf_s, rf_n, tl_s, tl_n, am_th_some, if_true, if_false, sI_eq, uI_eq, and_self, true_and, and_true, not_false_eq_true, not_true_eq_false, Nat.reduceEqDiff, Nat.reduceLeDiff, Nat.reduceLT, Nat.reduceAdd, Nat.reduceMul, Nat.reduceSub, Nat.zero_add, h4, h1]
  · obtain ⟨j, hj, rfl⟩ := nI_of h1
    have e0 := nI_pos' hj
    by_cases h2 : j < D
    · have h3 : ¬ 6 ≤ j := by omega
      have h5 : ¬ D ≤ j := by omega
      rw [if_pos ⟨e0, by rw [nI_lt2 hj (by omega)]; exact h2⟩]
      simp (disch := first | omega | assumption) only [s53_0, s53_1, s53_4, s53_5, s53_6, s53_9, s53_12, s53_13, s53_15, s53_18, s53_19, s53_22, s53_23, nI_le2, nI_lt2, nI_eq2, nI_lt0, nI_0le, nI_0lt, nI_le0, nI_eq0, nI_clamp, nI_add, bu_nI, bb_0, bb_1, rf_s, rf_n, tl_s, tl_n, am_th_some, if_true, if_false, sI_eq, uI_eq, and_self, true_and, and_true, not_false_eq_true, not_true_eq_false, Nat.reduceEqDiff, Nat.reduceLeDiff, Nat.reduceLT, Nat.reduceAdd, Nat.reduceMul, Nat.reduceSub, Nat.zero_add, h4, h3, h5]
    · have h5 : D ≤ j := by omega
      rw [if_neg (fun w => by have := w.2; rw [nI_lt2 hj (by omega)] at this; exact h2 this)]
      simp (disch := first | omega | assumption) only [s53_0, s53_1, s53_4, s53_5, s53_6, s53_9, s53_12, s53_13, s53_15, s53_18, s53_19, s53_22, s53_23, nI_le2, nI_lt2, nI_eq2, nI_lt0, nI_0le, nI_0lt, nI_le0, nI_eq0, nI_clamp, nI_add, bu_nI, bb_0, bb_1, rf_s, rf_n, tl_s, tl_n, am_th_some, if_true, if_false, sI_eq, uI_eq, and_self, true_and, and_true, not_false_eq_true, not_true_eq_false, Nat.reduceEqDiff, Nat.reduceLeDiff, Nat.reduceLT, Nat.reduceAdd, Nat.reduceMul, Nat.reduceSub, Nat.zero_add, h4, h5]
theorem c_tensOf (hr : ds_R R u) (h : ds_at I u D A M) (hk : ds_ok D A M) {s : Nat} (hs : s < 2 ^ 31) : am_cal d 57 [.ref (am_mk 6 u), .int (nI s)] I R Q = some (some (.int (nI (sp_tn A s D))), I, R, Q) := by
  obtain ⟨h4, hA⟩ := h
  obtain ⟨hD, hB⟩ := hk
  rw [s57]
  simp (disch := first | omega | assumption) only [s57_0, s57_1, s57_2, s57_3, s57_5, s57_6, s57_9, s57_12, s57_13, s57_15, s57_18, s57_19, s57_20, s57_21, s57_22, s57_23, s57_26, s57_27, s57_28, s57_31, s57_32, s57_33, s57_34, s57_35, s57_38, s57_41, s57_42, nI_le2, nI_lt2, nI_eq2, nI_lt0, nI_0le, nI_0lt, nI_le0, nI_eq0, nI_clamp, nI_add, bu_nI, bb_0, bb_1, rf_s, rf_n, tl_s, tl_n, am_th_some, if_true, if_false, sI_eq, uI_eq, and_self, true_and, and_true, not_false_eq_true, not_true_eq_false, Nat.reduceEqDiff, Nat.reduceLeDiff, Nat.reduceLT, Nat.reduceAdd, Nat.reduceMul, Nat.reduceSub, Nat.zero_add]
  have key := loop_fold (fun (a : Nat) c => am_ev d 57 4 [.ref (am_mk 6 u), .int (nI s), .int (nI a), .int (nI c)] [] I R Q) (fun a i => a + if s.testBit i = true then A i else 0) D ?_ 0
  · rw [show (am_ev d 57 4 [.ref (am_mk 6 u), .int (nI s), .int (nI 0), .int (nI 0)] [] I R Q) = _ from key, s57_4]
    simp (disch := first | omega | assumption) only [s57_0, s57_1, s57_2, s57_3, s57_5, s57_6, s57_9, s57_12, s57_13, s57_15, s57_18, s57_19, s57_20, s57_21, s57_22, s57_23, s57_26, s57_27, s57_28, s57_31, s57_32, s57_33, s57_34, s57_35, s57_38, s57_41, s57_42, nI_le2, nI_lt2, nI_eq2, nI_lt0, nI_0le, nI_0lt, nI_le0, nI_eq0, nI_clamp, nI_add, bu_nI, bb_0, bb_1, rf_s, rf_n, tl_s, tl_n, am_th_some, if_true, if_false, sI_eq, uI_eq, and_self, true_and, and_true, not_false_eq_true, not_true_eq_false, Nat.reduceEqDiff, Nat.reduceLeDiff, Nat.reduceLT, Nat.reduceAdd, Nat.reduceMul, Nat.reduceSub, Nat.zero_add, h4, Nat.le_refl]
    rfl
  · intro a c hc
    obtain ⟨a0, a1⟩ := hA c hc
    have h1 : ¬ D ≤ c := by omega
    have h2 : ¬ 6 ≤ c := by omega
    have hbit := bit_and (s := s) (c := c) (by omega) (by omega)
    rw [s57_4]
    cases ht : s.testBit c with
    | true =>
      rw [ht] at hbit
      have hbit := hbit.trans (eq_false (by decide))
      rw [if_pos rfl]
      simp (disch := first | omega | assumption) only [s57_0, s57_1, s57_2, s57_3, s57_5, s57_6, s57_9, s57_12, s57_13, s57_15, s57_18, s57_19, s57_20, s57_21, s57_22, s57_23, s57_26, s57_27, s57_28, s57_31, s57_32, s57_33, s57_34, s57_35, s57_38, s57_41, s57_42, nI_le2, nI_lt2, nI_eq2, nI_lt0, nI_0le, nI_0lt, nI_le0, nI_eq0, nI_clamp, nI_add, bu_nI, bb_0, bb_1, rf_s, rf_n, tl_s, tl_n, am_th_some, if_true, if_false, sI_eq, uI_eq, and_self, true_and, and_true, not_false_eq_true, not_true_eq_false, Nat.reduceEqDiff, Nat.reduceLeDiff, Nat.reduceLT, Nat.reduceAdd, Nat.reduceMul, Nat.reduceSub, Nat.zero_add, hr.1, h4, h1, h2, a0, hbit]
    | false =>
      rw [ht] at hbit
      have hbit := hbit.trans (eq_true rfl)
      rw [if_neg (by decide), Nat.add_zero]
      simp (disch := first | omega | assumption) only [s57_0, s57_1, s57_2, s57_3, s57_5, s57_6, s57_9, s57_12, s57_13, s57_15, s57_18, s57_19, s57_20, s57_21, s57_22, s57_23, s57_26, s57_27, s57_28, s57_31, s57_32, s57_33, s57_34, s57_35, s57_38, s57_41, s57_42, nI_le2, nI_lt2, nI_eq2, nI_lt0, nI_0le, nI_0lt, nI_le0, nI_eq0, nI_clamp, nI_add, bu_nI, bb_0, bb_1, rf_s, rf_n, tl_s, tl_n, am_th_some, if_true, if_false, sI_eq, uI_eq, and_self, true_and, and_true, not_false_eq_true, not_true_eq_false, Nat.reduceEqDiff, Nat.reduceLeDiff, Nat.reduceLT, Nat.reduceAdd, Nat.reduceMul, Nat.reduceSub, Nat.zero_add, hr.1, h4, h1, h2, a0, hbit]
theorem pow_D {D : Nat} (h : D ≤ 6) : 2 ^ D ≤ 64 := Nat.pow_le_pow_right (by decide) h
theorem c_together (hr : ds_R R u) (h : ds_at I u D A M) (hk : ds_ok D A M) {k : Nat} (hkk : k = 1 ∨ k = 2) : am_cal (d + 1) 56 [.ref (am_mk 6 u), .int (nI k)] I R Q = some (some (.int (if k = 2 then sp_tg A D else nI (sp_tn A (2 ^ D - 1) D))), I, R, Q) := by
  have hD := hk.1
  have hp := pow_D hD
  have hp1 : 1 ≤ 2 ^ D := Nat.two_pow_pos _
  have e1 : nI 1 <<< (nI D &&& 31) = nI (2 ^ D) := nI_bit (by omega)
  have all := c_tensOf (d := d) (Q := Q) hr h hk (s := 2 ^ D - 1) (by omega)
  have h4 := h.1
  rw [s56]
  rcases hkk with rfl | rfl
  · rw [if_neg (by decide)]
    simp (disch := first | omega | assumption) only [s56_0, s56_1, s56_2, s56_3, s56_6, s56_7, s56_8, s56_9, s56_12, s56_13, s56_14, s56_15, s56_16, s56_19, s56_20, s56_23, s56_25, s56_26, s56_27, s56_30, s56_31, s56_34, s56_35, s56_37, s56_40, s56_42, s56_43, s56_45, s56_46, s56_48, s56_49, s56_52, s56_55, s56_56, s56_59, s56_62, s56_63, nI_le2, nI_lt2, nI_eq2, nI_lt0, nI_0le, nI_0lt, nI_le0, nI_eq0, nI_clamp, nI_add, bu_nI, bb_0, bb_1, rf_s, rf_n, tl_s, tl_n, am_th_some, if_true, if_false, sI_eq, uI_eq, and_self, true_and, and_true, not_false_eq_true, not_true_eq_false, Nat.reduceEqDiff, Nat.reduceLeDiff, Nat.reduceLT, Nat.reduceAdd, Nat.reduceMul, Nat.reduceSub, Nat.zero_add, h4, e1, nI_sub hp1, all]
    rw [s56_18]
    simp (disch := first | omega | assumption) only [s56_0, s56_1, s56_2, s56_3, s56_6, s56_7, s56_8, s56_9, s56_12, s56_13, s56_14, s56_15, s56_16, s56_19, s56_20, s56_23, s56_25, s56_26, s56_27, s56_30, s56_31, s56_34, s56_35, s56_37, s56_40, s56_42, s56_43, s56_45, s56_46, s56_48, s56_49, s56_52, s56_55, s56_56, s56_59, s56_62, s56_63, nI_le2, nI_lt2, nI_eq2, nI_lt0, nI_0le, nI_0lt, nI_le0, nI_eq0, nI_clamp, nI_add, bu_nI, bb_0, bb_1, rf_s, rf_n, tl_s, tl_n, am_th_some, if_true, if_false, sI_eq, uI_eq, and_self, true_and, and_true, not_false_eq_true, not_true_eq_false, Nat.reduceEqDiff, Nat.reduceLeDiff, Nat.reduceLT, Nat.reduceAdd, Nat.reduceMul, Nat.reduceSub, Nat.zero_add]
  · rw [if_pos rfl]
    simp (disch := first | omega | assumption) only [s56_0, s56_1, s56_2, s56_3, s56_6, s56_7, s56_8, s56_9, s56_12, s56_13, s56_14, s56_15, s56_16, s56_19, s56_20, s56_23, s56_25, s56_26, s56_27, s56_30, s56_31, s56_34, s56_35, s56_37, s56_40, s56_42, s56_43, s56_45, s56_46, s56_48, s56_49, s56_52, s56_55, s56_56, s56_59, s56_62, s56_63, nI_le2, nI_lt2, nI_eq2, nI_lt0, nI_0le, nI_0lt, nI_le0, nI_eq0, nI_clamp, nI_add, bu_nI, bb_0, bb_1, rf_s, rf_n, tl_s, tl_n, am_th_some, if_true, if_false, sI_eq, uI_eq, and_self, true_and, and_true, not_false_eq_true, not_true_eq_false, Nat.reduceEqDiff, Nat.reduceLeDiff, Nat.reduceLT, Nat.reduceAdd, Nat.reduceMul, Nat.reduceSub, Nat.zero_add, h4, e1, nI_sub hp1, all]
    have key := loop_fold (fun (a : Int32 × Value) c => am_ev (d + 1) 56 18 [.ref (am_mk 6 u), .int (nI 2), .int (nI (sp_tn A (2 ^ D - 1) D)), .int a.1, .int (nI c), a.2] [] I R Q) (fun a s => (sp_min a.1 (sp_max (nI (sp_tn A s D)) (nI (sp_tn A (2 ^ D - 1) D) - nI (sp_tn A s D))), .int (nI (sp_tn A s D)))) (2 ^ D) ?_ (nI (sp_tn A (2 ^ D - 1) D), am_J)
    · refine Eq.trans key ?_
      have e : ∀ n, (am_fold (fun (a : Int32 × Value) s => (sp_min a.1 (sp_max (nI (sp_tn A s D)) (nI (sp_tn A (2 ^ D - 1) D) - nI (sp_tn A s D))), Value.int (nI (sp_tn A s D)))) (nI (sp_tn A (2 ^ D - 1) D), am_J) n).1 = am_fold (fun a s => sp_min a (sp_max (nI (sp_tn A s D)) (nI (sp_tn A (2 ^ D - 1) D) - nI (sp_tn A s D)))) (nI (sp_tn A (2 ^ D - 1) D)) n := by
        intro n
        induction n with
        | zero => rfl
        | succ n ih => rw [fold_s, fold_s, ← ih]
      rw [e, s56_18]
      simp (disch := first | omega | assumption) only [s56_0, s56_1, s56_2, s56_3, s56_6, s56_7, s56_8, s56_9, s56_12, s56_13, s56_14, s56_15, s56_16, s56_19, s56_20, s56_23, s56_25, s56_26, s56_27, s56_30, s56_31, s56_34, s56_35, s56_37, s56_40, s56_42, s56_43, s56_45, s56_46, s56_48, s56_49, s56_52, s56_55, s56_56, s56_59, s56_62, s56_63, nI_le2, nI_lt2, nI_eq2, nI_lt0, nI_0le, nI_0lt, nI_le0, nI_eq0, nI_clamp, nI_add, bu_nI, bb_0, bb_1, rf_s, rf_n, tl_s, tl_n, am_th_some, if_true, if_false, sI_eq, uI_eq, and_self, true_and, and_true, not_false_eq_true, not_true_eq_false, Nat.reduceEqDiff, Nat.reduceLeDiff, Nat.reduceLT, Nat.reduceAdd, Nat.reduceMul, Nat.reduceSub, Nat.zero_add, h4, e1, Nat.le_refl]
      rfl
    · intro a c hc
      have h1 : ¬ 2 ^ D ≤ c := by omega
      have one := c_tensOf (d := d) (Q := Q) hr h hk (s := c) (by omega)
      rw [s56_18]
      simp (disch := first | omega | assumption) only [s56_0, s56_1, s56_2, s56_3, s56_6, s56_7, s56_8, s56_9, s56_12, s56_13, s56_14, s56_15, s56_16, s56_19, s56_20, s56_23, s56_25, s56_26, s56_27, s56_30, s56_31, s56_34, s56_35, s56_37, s56_40, s56_42, s56_43, s56_45, s56_46, s56_48, s56_49, s56_52, s56_55, s56_56, s56_59, s56_62, s56_63, nI_le2, nI_lt2, nI_eq2, nI_lt0, nI_0le, nI_0lt, nI_le0, nI_eq0, nI_clamp, nI_add, bu_nI, bb_0, bb_1, rf_s, rf_n, tl_s, tl_n, am_th_some, if_true, if_false, sI_eq, uI_eq, and_self, true_and, and_true, not_false_eq_true, not_true_eq_false, Nat.reduceEqDiff, Nat.reduceLeDiff, Nat.reduceLT, Nat.reduceAdd, Nat.reduceMul, Nat.reduceSub, Nat.zero_add, h4, e1, h1, one]
end
