/-! A LAW's signs and its stack: the class. -/
def lw_R (R : am_R) (v : Nat) : Prop := R 3 v 0 = some (am_mk 27 v) ∧ R 3 v 2 = some (am_mk 28 v)
/-- the signs, the stack -/
def lw_at (I : am_I) (v : Nat) (C : List Int32) : Prop := I 3 v 1 = nI C.length ∧ ∀ i (h : i < C.length), I 27 v i = C[i]
def lk_at (I : am_I) (v : Nat) (S : List Int32) : Prop := I 3 v 3 = nI S.length ∧ ∀ i (h : i < S.length), I 28 v i = S[i]
def la_S (v : Nat) : Nat → Nat → Nat → Prop := fun a b j => (a = 27 ∧ b = v) ∨ (a = 3 ∧ b = v ∧ j = 1)
def lk_S (v : Nat) : Nat → Nat → Nat → Prop := fun a b j => (a = 28 ∧ b = v) ∨ (a = 3 ∧ b = v ∧ j = 3)
theorem lw_fr {Z : Nat → Nat → Nat → Prop} {I J : am_I} {v : Nat} {C : List Int32} (h : lw_at I v C) (hf : am_fr Z I J) (h1 : ¬ Z 3 v 1) (h2 : ∀ j, ¬ Z 27 v j) : lw_at J v C := ⟨(hf _ _ _ h1).trans h.1, fun i hi => (hf _ _ _ (h2 _)).trans (h.2 i hi)⟩
theorem lk_fr {Z : Nat → Nat → Nat → Prop} {I J : am_I} {v : Nat} {C : List Int32} (h : lk_at I v C) (hf : am_fr Z I J) (h1 : ¬ Z 3 v 3) (h2 : ∀ j, ¬ Z 28 v j) : lk_at J v C := ⟨(hf _ _ _ h1).trans h.1, fun i hi => (hf _ _ _ (h2 _)).trans (h.2 i hi)⟩
section
variable {d v : Nat} {I : am_I} {R : am_R} {Q : am_Q} {C S : List Int32} {x : Int32}
theorem c_lforget : ∃ J, am_cal d 27 [.ref (am_mk 3 v)] I R Q = some (none, J, R, Q) ∧ am_fr (la_S v) I J ∧ lw_at J v [] := by
  refine ⟨am_sI I 3 v (am_uI (I 3 v) 1 (nI 0)), ?_, fr_s fr_rf (Or.inr ⟨rfl, rfl, rfl⟩), by rw [sI_eq, uI_eq]; rfl, fun i hi => absurd hi (Nat.not_lt_zero _)⟩
  rw [s27]
  simp (disch := first | omega | assumption) only [s27_0, s27_1, s27_2, s27_5, nI_le2, nI_lt2, nI_eq2, nI_lt0, nI_0le, nI_0lt, nI_le0, nI_eq0, nI_clamp, nI_add, bu_nI, bb_0, bb_1, rf_s, rf_n, tl_s, tl_n, am_th_some, if_true, if_false, sI_eq, uI_eq, and_self, true_and, and_true, not_false_eq_true, not_true_eq_false, Nat.reduceEqDiff, Nat.reduceLeDiff, Nat.reduceLT, Nat.reduceAdd, Nat.reduceMul, Nat.reduceSub, Nat.zero_add]
theorem c_ladd (hr : lw_R R v) (h : lw_at I v C) (hl : C.length < 240) : ∃ J, am_cal d 28 [.ref (am_mk 3 v), .int x] I R Q = some (none, J, R, Q) ∧ am_fr (la_S v) I J ∧ lw_at J v (C ++ [x]) := by
  obtain ⟨r0, r2⟩ := hr
  obtain ⟨h1, h2⟩ := h
  have e1 : ¬ 240 ≤ C.length := by omega
  refine ⟨am_sI (am_sI I 27 v (am_uI (I 27 v) C.length x)) 3 v (am_uI (I 3 v) 1 (nI (C.length + 1))), ?_, fr_h (fr_s fr_rf (Or.inl ⟨rfl, rfl⟩)) (Or.inr ⟨rfl, rfl, rfl⟩), ?_, fun i hi => ?_⟩
  · rw [s28]
    simp (disch := first | omega | assumption) only [s28_0, s28_1, s28_4, s28_7, s28_8, s28_11, s28_12, s28_15, s28_16, s28_19, s28_20, s28_23, s28_24, s28_27, s28_28, s28_29, s28_30, s28_31, s28_34, s28_35, s28_36, s28_39, nI_le2, nI_lt2, nI_eq2, nI_lt0, nI_0le, nI_0lt, nI_le0, nI_eq0, nI_clamp, nI_add, bu_nI, bb_0, bb_1, rf_s, rf_n, tl_s, tl_n, am_th_some, if_true, if_false, sI_eq, uI_eq, and_self, true_and, and_true, not_false_eq_true, not_true_eq_false, Nat.reduceEqDiff, Nat.reduceLeDiff, Nat.reduceLT, Nat.reduceAdd, Nat.reduceMul, Nat.reduceSub, Nat.zero_add, r0, h1, e1, hl, sI_na]
  · rw [sI_eq, uI_eq, List.length_append, List.length_singleton]
  · rw [sI_na (by omega), sI_eq]
    have hi2 : i < C.length + 1 := by rw [List.length_append, List.length_singleton] at hi; exact hi
    by_cases e : i = C.length
    · subst e
      rw [uI_eq, List.getElem_append_right (Nat.le_refl _)]
      simp
    · rw [uI_ne e, List.getElem_append_left (show i < C.length by omega)]
      exact h2 i (by omega)
theorem c_push (hr : lw_R R v) (h : lk_at I v S) (hl : S.length < 64) : ∃ J, am_cal d 30 [.ref (am_mk 3 v), .int x] I R Q = some (none, J, R, Q) ∧ am_fr (lk_S v) I J ∧ lk_at J v (S ++ [x]) := by
  obtain ⟨r0, r2⟩ := hr
  obtain ⟨h1, h2⟩ := h
  have e1 : ¬ 64 ≤ S.length := by omega
  refine ⟨am_sI (am_sI I 28 v (am_uI (I 28 v) S.length x)) 3 v (am_uI (I 3 v) 3 (nI (S.length + 1))), ?_, fr_h (fr_s fr_rf (Or.inl ⟨rfl, rfl⟩)) (Or.inr ⟨rfl, rfl, rfl⟩), ?_, fun i hi => ?_⟩
  · rw [s30]
    simp (disch := first | omega | assumption) only [s30_0, s30_1, s30_4, s30_7, s30_8, s30_11, s30_12, s30_15, s30_16, s30_19, s30_20, s30_23, s30_24, s30_27, s30_28, s30_29, s30_30, s30_31, s30_34, s30_35, s30_36, s30_39, nI_le2, nI_lt2, nI_eq2, nI_lt0, nI_0le, nI_0lt, nI_le0, nI_eq0, nI_clamp, nI_add, bu_nI, bb_0, bb_1, rf_s, rf_n, tl_s, tl_n, am_th_some, if_true, if_false, sI_eq, uI_eq, and_self, true_and, and_true, not_false_eq_true, not_true_eq_false, Nat.reduceEqDiff, Nat.reduceLeDiff, Nat.reduceLT, Nat.reduceAdd, Nat.reduceMul, Nat.reduceSub, Nat.zero_add, r2, h1, e1, hl, sI_na]
  · rw [sI_eq, uI_eq, List.length_append, List.length_singleton]
  · rw [sI_na (by omega), sI_eq]
    have hi2 : i < S.length + 1 := by rw [List.length_append, List.length_singleton] at hi; exact hi
    by_cases e : i = S.length
    · subst e
      rw [uI_eq, List.getElem_append_right (Nat.le_refl _)]
      simp
    · rw [uI_ne e, List.getElem_append_left (show i < S.length by omega)]
      exact h2 i (by omega)
theorem c_pop (hr : lw_R R v) (h : lk_at I v (S ++ [x])) (hl : S.length < 64) : ∃ J, am_cal d 31 [.ref (am_mk 3 v)] I R Q = some (some (.int x), J, R, Q) ∧ am_fr (lk_S v) I J ∧ lk_at J v S := by
  obtain ⟨r0, r2⟩ := hr
  obtain ⟨h1, h2⟩ := h
  rw [List.length_append, List.length_singleton] at h1
  have hx : I 28 v S.length = x := by
    rw [h2 S.length (by rw [List.length_append, List.length_singleton]; omega), List.getElem_append_right (Nat.le_refl _)]
    simp
  have e1 : S.length + 1 ≤ 64 := by omega
  have e3 : nI (S.length + 1) - nI 1 = nI S.length := nI_sub (by omega)
  have e4 : ¬ S.length + 1 ≤ 0 := by omega
  have e5 : ¬ 64 < S.length + 1 := by omega
  refine ⟨am_sI I 3 v (am_uI (I 3 v) 3 (nI S.length)), ?_, fr_s fr_rf (Or.inr ⟨rfl, rfl, rfl⟩), by rw [sI_eq, uI_eq], fun i hi => ?_⟩
  · rw [s31]
    simp (disch := first | omega | assumption) only [s31_0, s31_1, s31_4, s31_7, s31_8, s31_11, s31_12, s31_15, s31_16, s31_19, s31_20, s31_21, s31_22, s31_23, s31_26, s31_27, s31_28, s31_31, s31_32, s31_35, s31_36, s31_39, s31_40, nI_le2, nI_lt2, nI_eq2, nI_lt0, nI_0le, nI_0lt, nI_le0, nI_eq0, nI_clamp, nI_add, bu_nI, bb_0, bb_1, rf_s, rf_n, tl_s, tl_n, am_th_some, if_true, if_false, sI_eq, uI_eq, and_self, true_and, and_true, not_false_eq_true, not_true_eq_false, Nat.reduceEqDiff, Nat.reduceLeDiff, Nat.reduceLT, Nat.reduceAdd, Nat.reduceMul, Nat.reduceSub, Nat.zero_add, r2, h1, e1, e3, e4, e5, hl, sI_na, hx]
  · rw [sI_na (by omega), h2 i (by rw [List.length_append, List.length_singleton]; omega), List.getElem_append_left hi]
end
