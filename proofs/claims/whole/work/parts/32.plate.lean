/-! The class Plate. -/
def pp_at (I : am_I) (p : Nat) (P : Nat → Nat → Int32) : Prop := (∀ c, c < 25 → I 19 p c = P 0 c ∧ I 20 p c = P 1 c ∧ I 21 p c = P 2 c ∧ I 22 p c = P 3 c) ∧ I 9 p 4 = P 4 0 ∧ I 9 p 5 = P 4 1 ∧ I 9 p 6 = P 4 2
def pp_S (p : Nat) : Nat → Nat → Nat → Prop := fun a b _ => (a = 9 ∨ a = 19 ∨ a = 20 ∨ a = 21 ∨ a = 22) ∧ b = p
def pp_R (R : am_R) (p : Nat) : Prop := R 9 p 0 = some (am_mk 19 p) ∧ R 9 p 1 = some (am_mk 20 p) ∧ R 9 p 2 = some (am_mk 21 p) ∧ R 9 p 3 = some (am_mk 22 p)
theorem pl_fr {S : Nat → Nat → Nat → Prop} {I J : am_I} {p : Nat} {P : Nat → Nat → Int32} (h : pp_at I p P) (hf : am_fr S I J) (hS : ∀ a j, (a = 9 ∨ a = 19 ∨ a = 20 ∨ a = 21 ∨ a = 22) → ¬ S a p j) : pp_at J p P := by
  obtain ⟨h1, h2, h3, h4⟩ := h
  refine ⟨fun c hc => ?_, ?_, ?_, ?_⟩
  · obtain ⟨a0, a1, a2, a3⟩ := h1 c hc
    exact ⟨(hf _ _ _ (hS _ _ (by omega))).trans a0, (hf _ _ _ (hS _ _ (by omega))).trans a1, (hf _ _ _ (hS _ _ (by omega))).trans a2, (hf _ _ _ (hS _ _ (by omega))).trans a3⟩
  · exact (hf _ _ _ (hS _ _ (by omega))).trans h2
  · exact (hf _ _ _ (hS _ _ (by omega))).trans h3
  · exact (hf _ _ _ (hS _ _ (by omega))).trans h4
theorem Sp_ne {p q : Nat} (h : ¬ q = p) {a j : Nat} : ¬ pp_S p a q j := fun w => h w.2
section
variable {d p q : Nat} {I : am_I} {R : am_R} {Q : am_Q} {P : Nat → Nat → Int32}
theorem c_hasFood {c : Int32} (r0 : R 9 p 0 = some (am_mk 19 p)) : am_cal d 76 [.ref (am_mk 9 p), .int c] I R Q = some (some (.int (if c < 0 then nI 0 else if I 9 p 4 ≤ c then nI 0 else if nI 25 ≤ c then nI 0 else if I 19 p c.toNatClampNeg ≤ 0 then nI 0 else nI 1)), I, R, Q) := by
  rw [s76]
  simp (disch := first | omega | assumption) only [s76_0, s76_1, s76_4, s76_5, s76_6, s76_9, s76_12, s76_13, s76_15, s76_18, s76_19, s76_22, s76_23, s76_24, s76_27, s76_28, s76_31, s76_32, nI_le2, nI_lt2, nI_eq2, nI_lt0, nI_0le, nI_0lt, nI_le0, nI_eq0, nI_clamp, nI_add, bu_nI, bb_0, bb_1, rf_s, rf_n, tl_s, tl_n, am_th_some, if_true, if_false, sI_eq, uI_eq, and_self, true_and, and_true, not_false_eq_true, r0]
  by_cases h1 : c < 0
  · simp only [h1, if_true]
  · by_cases h2 : I 9 p 4 ≤ c
    · simp only [h1, h2, if_true, if_false]
    · by_cases h3 : nI 25 ≤ c
      · simp only [h1, h2, h3, if_true, if_false]
      · obtain ⟨k, hk, rfl⟩ := am_in (Int32.not_lt.mp h1) (Int32.not_le.mp h3) (by decide)
        have e := bu_nI hk
        simp only [h1, h2, h3, if_false, e, if_true]
        by_cases h4 : I 19 p (nI k).toNatClampNeg ≤ 0
        · simp only [h4, if_true]
        · simp only [h4, if_false]
def sp_fd (f : Nat → Int32) (a : Int32) (c : Nat) : Int32 := a + (if f c ≤ 0 then nI 0 else nI 1)
theorem c_foods (r0 : R 9 p 0 = some (am_mk 19 p)) : am_cal d 79 [.ref (am_mk 9 p)] I R Q = some (some (.int (am_fold (sp_fd (I 19 p)) (nI 0) 25)), I, R, Q) := by
  rw [s79]
  simp (disch := first | omega | assumption) only [s79_0, s79_1, s79_2, s79_3, s79_5, s79_7, s79_10, s79_11, s79_12, s79_15, s79_16, s79_17, s79_20, s79_21, s79_24, s79_25, s79_26, s79_27, s79_30, s79_33, s79_34, nI_le2, nI_lt2, nI_eq2, nI_lt0, nI_0le, nI_0lt, nI_le0, nI_eq0, nI_clamp, nI_add, bu_nI, bb_0, bb_1, rf_s, rf_n, tl_s, tl_n, am_th_some, if_true, if_false, sI_eq, uI_eq, and_self, true_and, and_true, not_false_eq_true]
  refine (loop_fold (fun a c => am_ev d 79 4 [.ref (am_mk 9 p), .int a, .int (nI c)] [] I R Q) (sp_fd (I 19 p)) 25 (fun a c hc => ?_) (nI 0)).trans ?_
  · rw [s79_4]
    have h1 : ¬ 25 ≤ c := by omega
    simp (disch := first | omega | assumption) only [s79_0, s79_1, s79_2, s79_3, s79_5, s79_7, s79_10, s79_11, s79_12, s79_15, s79_16, s79_17, s79_20, s79_21, s79_24, s79_25, s79_26, s79_27, s79_30, s79_33, s79_34, nI_le2, nI_lt2, nI_eq2, nI_lt0, nI_0le, nI_0lt, nI_le0, nI_eq0, nI_clamp, nI_add, bu_nI, bb_0, bb_1, rf_s, rf_n, tl_s, tl_n, am_th_some, if_true, if_false, sI_eq, uI_eq, and_self, true_and, and_true, not_false_eq_true, h1, r0, sp_fd]
    by_cases h2 : I 19 p c ≤ 0
    · simp only [h2, if_true]
    · simp only [h2, if_false]
  · rw [s79_4]
    simp (disch := first | omega | assumption) only [s79_0, s79_1, s79_2, s79_3, s79_5, s79_7, s79_10, s79_11, s79_12, s79_15, s79_16, s79_17, s79_20, s79_21, s79_24, s79_25, s79_26, s79_27, s79_30, s79_33, s79_34, nI_le2, nI_lt2, nI_eq2, nI_lt0, nI_0le, nI_0lt, nI_le0, nI_eq0, nI_clamp, nI_add, bu_nI, bb_0, bb_1, rf_s, rf_n, tl_s, tl_n, am_th_some, if_true, if_false, sI_eq, uI_eq, and_self, true_and, and_true, not_false_eq_true, Nat.le_refl]
theorem c_burstOnes (r3 : R 9 p 3 = some (am_mk 22 p)) : am_cal d 80 [.ref (am_mk 9 p)] I R Q = some (some (.int (am_fold (fun a c => a + I 22 p c) (nI 0) 25)), I, R, Q) := by
  rw [s80]
  simp (disch := first | omega | assumption) only [s80_0, s80_1, s80_2, s80_3, s80_5, s80_7, s80_10, s80_11, s80_12, s80_15, s80_16, s80_17, s80_18, s80_19, s80_22, s80_25, s80_26, nI_le2, nI_lt2, nI_eq2, nI_lt0, nI_0le, nI_0lt, nI_le0, nI_eq0, nI_clamp, nI_add, bu_nI, bb_0, bb_1, rf_s, rf_n, tl_s, tl_n, am_th_some, if_true, if_false, sI_eq, uI_eq, and_self, true_and, and_true, not_false_eq_true]
  refine (loop_fold (fun a c => am_ev d 80 4 [.ref (am_mk 9 p), .int a, .int (nI c)] [] I R Q) (fun a c => a + I 22 p c) 25 (fun a c hc => ?_) (nI 0)).trans ?_
  · rw [s80_4]
    have h1 : ¬ 25 ≤ c := by omega
    simp (disch := first | omega | assumption) only [s80_0, s80_1, s80_2, s80_3, s80_5, s80_7, s80_10, s80_11, s80_12, s80_15, s80_16, s80_17, s80_18, s80_19, s80_22, s80_25, s80_26, nI_le2, nI_lt2, nI_eq2, nI_lt0, nI_0le, nI_0lt, nI_le0, nI_eq0, nI_clamp, nI_add, bu_nI, bb_0, bb_1, rf_s, rf_n, tl_s, tl_n, am_th_some, if_true, if_false, sI_eq, uI_eq, and_self, true_and, and_true, not_false_eq_true, h1, r3]
  · rw [s80_4]
    simp (disch := first | omega | assumption) only [s80_0, s80_1, s80_2, s80_3, s80_5, s80_7, s80_10, s80_11, s80_12, s80_15, s80_16, s80_17, s80_18, s80_19, s80_22, s80_25, s80_26, nI_le2, nI_lt2, nI_eq2, nI_lt0, nI_0le, nI_0lt, nI_le0, nI_eq0, nI_clamp, nI_add, bu_nI, bb_0, bb_1, rf_s, rf_n, tl_s, tl_n, am_th_some, if_true, if_false, sI_eq, uI_eq, and_self, true_and, and_true, not_false_eq_true, Nat.le_refl]
theorem c_iceOfAll (r1 : R 9 p 1 = some (am_mk 20 p)) : am_cal d 81 [.ref (am_mk 9 p)] I R Q = some (some (.int (am_fold (fun a c => a + I 20 p c) (nI 0) 25)), I, R, Q) := by
  rw [s81]
  simp (disch := first | omega | assumption) only [s81_0, s81_1, s81_2, s81_3, s81_5, s81_7, s81_10, s81_11, s81_12, s81_15, s81_16, s81_17, s81_18, s81_19, s81_22, s81_25, s81_26, nI_le2, nI_lt2, nI_eq2, nI_lt0, nI_0le, nI_0lt, nI_le0, nI_eq0, nI_clamp, nI_add, bu_nI, bb_0, bb_1, rf_s, rf_n, tl_s, tl_n, am_th_some, if_true, if_false, sI_eq, uI_eq, and_self, true_and, and_true, not_false_eq_true]
  refine (loop_fold (fun a c => am_ev d 81 4 [.ref (am_mk 9 p), .int a, .int (nI c)] [] I R Q) (fun a c => a + I 20 p c) 25 (fun a c hc => ?_) (nI 0)).trans ?_
  · rw [s81_4]
    have h1 : ¬ 25 ≤ c := by omega
    simp (disch := first | omega | assumption) only [s81_0, s81_1, s81_2, s81_3, s81_5, s81_7, s81_10, s81_11, s81_12, s81_15, s81_16, s81_17, s81_18, s81_19, s81_22, s81_25, s81_26, nI_le2, nI_lt2, nI_eq2, nI_lt0, nI_0le, nI_0lt, nI_le0, nI_eq0, nI_clamp, nI_add, bu_nI, bb_0, bb_1, rf_s, rf_n, tl_s, tl_n, am_th_some, if_true, if_false, sI_eq, uI_eq, and_self, true_and, and_true, not_false_eq_true, h1, r1]
  · rw [s81_4]
    simp (disch := first | omega | assumption) only [s81_0, s81_1, s81_2, s81_3, s81_5, s81_7, s81_10, s81_11, s81_12, s81_15, s81_16, s81_17, s81_18, s81_19, s81_22, s81_25, s81_26, nI_le2, nI_lt2, nI_eq2, nI_lt0, nI_0le, nI_0lt, nI_le0, nI_eq0, nI_clamp, nI_add, bu_nI, bb_0, bb_1, rf_s, rf_n, tl_s, tl_n, am_th_some, if_true, if_false, sI_eq, uI_eq, and_self, true_and, and_true, not_false_eq_true, Nat.le_refl]
end
section
variable {d p q : Nat} {I : am_I} {R : am_R} {Q : am_Q} {P : Nat → Nat → Int32}
def sp_dv (x y : Int32) : Int32 := if y = 0 then nI 0 else x / y
theorem c_meanDegrees (r0 : R 9 p 0 = some (am_mk 19 p)) (r2 : R 9 p 2 = some (am_mk 21 p)) : am_cal (d + 1) 82 [.ref (am_mk 9 p)] I R Q = some (some (.int (sp_dv (am_fold (fun a c => a + I 21 p c) (nI 0) 25) (am_fold (sp_fd (I 19 p)) (nI 0) 25))), I, R, Q) := by
  rw [s82]
  simp (disch := first | omega | assumption) only [s82_0, s82_1, s82_2, s82_3, s82_5, s82_7, s82_10, s82_11, s82_12, s82_15, s82_16, s82_17, s82_18, s82_19, s82_22, s82_25, s82_26, s82_29, s82_30, s82_31, s82_34, s82_35, s82_38, s82_39, s82_40, s82_41, nI_le2, nI_lt2, nI_eq2, nI_lt0, nI_0le, nI_0lt, nI_le0, nI_eq0, nI_clamp, nI_add, bu_nI, bb_0, bb_1, rf_s, rf_n, tl_s, tl_n, am_th_some, if_true, if_false, sI_eq, uI_eq, and_self, true_and, and_true, not_false_eq_true]
  refine (loop_fold (fun a c => am_ev (d + 1) 82 4 [.ref (am_mk 9 p), .int a, .int (nI c)] [] I R Q) (fun a c => a + I 21 p c) 25 (fun a c hc => ?_) (nI 0)).trans ?_
  · rw [s82_4]
    have h1 : ¬ 25 ≤ c := by omega
    simp (disch := first | omega | assumption) only [s82_0, s82_1, s82_2, s82_3, s82_5, s82_7, s82_10, s82_11, s82_12, s82_15, s82_16, s82_17, s82_18, s82_19, s82_22, s82_25, s82_26, s82_29, s82_30, s82_31, s82_34, s82_35, s82_38, s82_39, s82_40, s82_41, nI_le2, nI_lt2, nI_eq2, nI_lt0, nI_0le, nI_0lt, nI_le0, nI_eq0, nI_clamp, nI_add, bu_nI, bb_0, bb_1, rf_s, rf_n, tl_s, tl_n, am_th_some, if_true, if_false, sI_eq, uI_eq, and_self, true_and, and_true, not_false_eq_true, h1, r2]
  · rw [s82_4]
    simp (disch := first | omega | assumption) only [s82_0, s82_1, s82_2, s82_3, s82_5, s82_7, s82_10, s82_11, s82_12, s82_15, s82_16, s82_17, s82_18, s82_19, s82_22, s82_25, s82_26, s82_29, s82_30, s82_31, s82_34, s82_35, s82_38, s82_39, s82_40, s82_41, nI_le2, nI_lt2, nI_eq2, nI_lt0, nI_0le, nI_0lt, nI_le0, nI_eq0, nI_clamp, nI_add, bu_nI, bb_0, bb_1, rf_s, rf_n, tl_s, tl_n, am_th_some, if_true, if_false, sI_eq, uI_eq, and_self, true_and, and_true, not_false_eq_true, Nat.le_refl, c_foods r0, sp_dv]
    by_cases h : am_fold (sp_fd (I 19 p)) (nI 0) 25 = 0
    · simp only [h, if_true]
    · simp only [h, if_false, not_false_eq_true, if_true]
theorem c_leastDegrees (r0 : R 9 p 0 = some (am_mk 19 p)) (r2 : R 9 p 2 = some (am_mk 21 p)) : am_cal d 84 [.ref (am_mk 9 p)] I R Q = some (some (.int (am_fold (fun a c => if I 19 p c ≤ 0 then a else if I 21 p c < a then I 21 p c else a) (nI 1000000000) 25)), I, R, Q) := by
  rw [s84]
  simp (disch := first | omega | assumption) only [s84_0, s84_2, s84_3, s84_4, s84_6, s84_8, s84_11, s84_12, s84_15, s84_16, s84_17, s84_20, s84_21, s84_22, s84_25, s84_26, s84_27, s84_30, s84_31, s84_34, s84_37, s84_38, nI_le2, nI_lt2, nI_eq2, nI_lt0, nI_0le, nI_0lt, nI_le0, nI_eq0, nI_clamp, nI_add, bu_nI, bb_0, bb_1, rf_s, rf_n, tl_s, tl_n, am_th_some, if_true, if_false, sI_eq, uI_eq, and_self, true_and, and_true, not_false_eq_true]
  refine (loop_fold (fun a c => am_ev d 84 5 [.ref (am_mk 9 p), .int a, .int (nI c)] [] I R Q) (fun a c => if I 19 p c ≤ 0 then a else if I 21 p c < a then I 21 p c else a) 25 (fun a c hc => ?_) (nI 1000000000)).trans ?_
  · rw [s84_5]
    have h1 : ¬ 25 ≤ c := by omega
    simp (disch := first | omega | assumption) only [s84_0, s84_2, s84_3, s84_4, s84_6, s84_8, s84_11, s84_12, s84_15, s84_16, s84_17, s84_20, s84_21, s84_22, s84_25, s84_26, s84_27, s84_30, s84_31, s84_34, s84_37, s84_38, nI_le2, nI_lt2, nI_eq2, nI_lt0, nI_0le, nI_0lt, nI_le0, nI_eq0, nI_clamp, nI_add, bu_nI, bb_0, bb_1, rf_s, rf_n, tl_s, tl_n, am_th_some, if_true, if_false, sI_eq, uI_eq, and_self, true_and, and_true, not_false_eq_true, h1, r0, r2]
    by_cases h2 : I 19 p c ≤ 0
    · simp only [h2, if_true]
    · simp only [h2, if_false]
  · rw [s84_5]
    simp (disch := first | omega | assumption) only [s84_0, s84_2, s84_3, s84_4, s84_6, s84_8, s84_11, s84_12, s84_15, s84_16, s84_17, s84_20, s84_21, s84_22, s84_25, s84_26, s84_27, s84_30, s84_31, s84_34, s84_37, s84_38, nI_le2, nI_lt2, nI_eq2, nI_lt0, nI_0le, nI_0lt, nI_le0, nI_eq0, nI_clamp, nI_add, bu_nI, bb_0, bb_1, rf_s, rf_n, tl_s, tl_n, am_th_some, if_true, if_false, sI_eq, uI_eq, and_self, true_and, and_true, not_false_eq_true, Nat.le_refl]
theorem c_leastLessIce (r0 : R 9 p 0 = some (am_mk 19 p)) (r1 : R 9 p 1 = some (am_mk 20 p)) (r2 : R 9 p 2 = some (am_mk 21 p)) : am_cal d 85 [.ref (am_mk 9 p)] I R Q = some (some (.int (am_fold (fun a c => if I 19 p c ≤ 0 then a else if I 21 p c - I 20 p c < a then I 21 p c - I 20 p c else a) (nI 1000000000) 25)), I, R, Q) := by
  rw [s85]
  simp (disch := first | omega | assumption) only [s85_0, s85_2, s85_3, s85_4, s85_6, s85_8, s85_11, s85_12, s85_15, s85_16, s85_17, s85_20, s85_21, s85_22, s85_25, s85_26, s85_27, s85_28, s85_31, s85_32, s85_33, s85_34, s85_37, s85_38, s85_41, s85_44, s85_45, nI_le2, nI_lt2, nI_eq2, nI_lt0, nI_0le, nI_0lt, nI_le0, nI_eq0, nI_clamp, nI_add, bu_nI, bb_0, bb_1, rf_s, rf_n, tl_s, tl_n, am_th_some, if_true, if_false, sI_eq, uI_eq, and_self, true_and, and_true, not_false_eq_true]
  refine (loop_fold (fun a c => am_ev d 85 5 [.ref (am_mk 9 p), .int a, .int (nI c)] [] I R Q) (fun a c => if I 19 p c ≤ 0 then a else if I 21 p c - I 20 p c < a then I 21 p c - I 20 p c else a) 25 (fun a c hc => ?_) (nI 1000000000)).trans ?_
  · rw [s85_5]
    have h1 : ¬ 25 ≤ c := by omega
    simp (disch := first | omega | assumption) only [s85_0, s85_2, s85_3, s85_4, s85_6, s85_8, s85_11, s85_12, s85_15, s85_16, s85_17, s85_20, s85_21, s85_22, s85_25, s85_26, s85_27, s85_28, s85_31, s85_32, s85_33, s85_34, s85_37, s85_38, s85_41, s85_44, s85_45, nI_le2, nI_lt2, nI_eq2, nI_lt0, nI_0le, nI_0lt, nI_le0, nI_eq0, nI_clamp, nI_add, bu_nI, bb_0, bb_1, rf_s, rf_n, tl_s, tl_n, am_th_some, if_true, if_false, sI_eq, uI_eq, and_self, true_and, and_true, not_false_eq_true, h1, r0, r1, r2]
    by_cases h2 : I 19 p c ≤ 0
    · simp only [h2, if_true]
    · simp only [h2, if_false]
  · rw [s85_5]
    simp (disch := first | omega | assumption) only [s85_0, s85_2, s85_3, s85_4, s85_6, s85_8, s85_11, s85_12, s85_15, s85_16, s85_17, s85_20, s85_21, s85_22, s85_25, s85_26, s85_27, s85_28, s85_31, s85_32, s85_33, s85_34, s85_37, s85_38, s85_41, s85_44, s85_45, nI_le2, nI_lt2, nI_eq2, nI_lt0, nI_0le, nI_0lt, nI_le0, nI_eq0, nI_clamp, nI_add, bu_nI, bb_0, bb_1, rf_s, rf_n, tl_s, tl_n, am_th_some, if_true, if_false, sI_eq, uI_eq, and_self, true_and, and_true, not_false_eq_true, Nat.le_refl]
theorem c_apart (r0 : R 9 p 0 = some (am_mk 19 p)) (r2 : R 9 p 2 = some (am_mk 21 p)) : am_cal (d + 1) 86 [.ref (am_mk 9 p)] I R Q = some (some (.int (am_fold (fun a c => if I 19 p c ≤ 0 then a else if a < I 21 p c then I 21 p c else a) (nI 0) 25 - am_fold (fun a c => if I 19 p c ≤ 0 then a else if I 21 p c < a then I 21 p c else a) (nI 1000000000) 25)), I, R, Q) := by
  rw [s86]
  simp (disch := first | omega | assumption) only [s86_0, s86_1, s86_2, s86_3, s86_5, s86_7, s86_10, s86_11, s86_14, s86_15, s86_16, s86_19, s86_20, s86_21, s86_24, s86_25, s86_26, s86_29, s86_30, s86_33, s86_36, s86_37, s86_38, s86_41, s86_42, nI_le2, nI_lt2, nI_eq2, nI_lt0, nI_0le, nI_0lt, nI_le0, nI_eq0, nI_clamp, nI_add, bu_nI, bb_0, bb_1, rf_s, rf_n, tl_s, tl_n, am_th_some, if_true, if_false, sI_eq, uI_eq, and_self, true_and, and_true, not_false_eq_true]
  refine (loop_fold (fun a c => am_ev (d + 1) 86 4 [.ref (am_mk 9 p), .int a, .int (nI c)] [] I R Q) (fun a c => if I 19 p c ≤ 0 then a else if a < I 21 p c then I 21 p c else a) 25 (fun a c hc => ?_) (nI 0)).trans ?_
  · rw [s86_4]
    have h1 : ¬ 25 ≤ c := by omega
    simp (disch := first | omega | assumption) only [s86_0, s86_1, s86_2, s86_3, s86_5, s86_7, s86_10, s86_11, s86_14, s86_15, s86_16, s86_19, s86_20, s86_21, s86_24, s86_25, s86_26, s86_29, s86_30, s86_33, s86_36, s86_37, s86_38, s86_41, s86_42, nI_le2, nI_lt2, nI_eq2, nI_lt0, nI_0le, nI_0lt, nI_le0, nI_eq0, nI_clamp, nI_add, bu_nI, bb_0, bb_1, rf_s, rf_n, tl_s, tl_n, am_th_some, if_true, if_false, sI_eq, uI_eq, and_self, true_and, and_true, not_false_eq_true, h1, r0, r2]
    by_cases h2 : I 19 p c ≤ 0
    · simp only [h2, if_true]
    · simp only [h2, if_false]
  · rw [s86_4]
    simp (disch := first | omega | assumption) only [s86_0, s86_1, s86_2, s86_3, s86_5, s86_7, s86_10, s86_11, s86_14, s86_15, s86_16, s86_19, s86_20, s86_21, s86_24, s86_25, s86_26, s86_29, s86_30, s86_33, s86_36, s86_37, s86_38, s86_41, s86_42, nI_le2, nI_lt2, nI_eq2, nI_lt0, nI_0le, nI_0lt, nI_le0, nI_eq0, nI_clamp, nI_add, bu_nI, bb_0, bb_1, rf_s, rf_n, tl_s, tl_n, am_th_some, if_true, if_false, sI_eq, uI_eq, and_self, true_and, and_true, not_false_eq_true, Nat.le_refl, c_leastDegrees r0 r2]
end
def sp_up (P : Nat → Nat → Int32) (a c : Nat) (x : Int32) : Nat → Nat → Int32 := fun b j => if b = a ∧ j = c then x else P b j
theorem up_eq (P : Nat → Nat → Int32) (a c : Nat) (x : Int32) : sp_up P a c x a c = x := if_pos ⟨rfl, rfl⟩
theorem up_na {P : Nat → Nat → Int32} {a c b j : Nat} {x : Int32} (h : ¬ b = a) : sp_up P a c x b j = P b j := if_neg fun q => h q.1
theorem up_nc {P : Nat → Nat → Int32} {a c b j : Nat} {x : Int32} (h : ¬ j = c) : sp_up P a c x b j = P b j := if_neg fun q => h q.2
theorem pl_congr {I : am_I} {p : Nat} {P P' : Nat → Nat → Int32} (h : pp_at I p P) (e : ∀ a j, (a < 4 ∧ j < 25) ∨ (a = 4 ∧ j < 3) → P a j = P' a j) : pp_at I p P' := by
  obtain ⟨h1, h2, h3, h4⟩ := h
  refine ⟨fun c hc => ?_, by rw [← e 4 0 (by omega)]; exact h2, by rw [← e 4 1 (by omega)]; exact h3, by rw [← e 4 2 (by omega)]; exact h4⟩
  rw [← e 0 c (by omega), ← e 1 c (by omega), ← e 2 c (by omega), ← e 3 c (by omega)]
  exact h1 c hc
theorem pl_u {I : am_I} {p : Nat} {P : Nat → Nat → Int32} (h : pp_at I p P) (a c : Nat) (x : Int32) (ha : a < 4) : pp_at (am_sI I (19 + a) p (am_uI (I (19 + a) p) c x)) p (sp_up P a c x) := by
  obtain ⟨h1, h2, h3, h4⟩ := h
  refine ⟨fun j hj => ?_, ?_, ?_, ?_⟩
  · obtain ⟨a0, a1, a2, a3⟩ := h1 j hj
    have key : ∀ b, b < 4 → I (19 + b) p j = P b j → am_sI I (19 + a) p (am_uI (I (19 + a) p) c x) (19 + b) p j = sp_up P a c x b j := by
      intro b hb e
      by_cases e1 : b = a
      · subst e1
        rw [sI_eq]
        by_cases e2 : j = c
        · subst e2; rw [uI_eq, up_eq]
        · rw [uI_ne e2, up_nc e2, e]
      · rw [sI_na (by omega), up_na e1, e]
    exact ⟨key 0 (by decide) a0, key 1 (by decide) a1, key 2 (by decide) a2, key 3 (by decide) a3⟩
  · rw [sI_na (by omega), up_na (by omega), h2]
  · rw [sI_na (by omega), up_na (by omega), h3]
  · rw [sI_na (by omega), up_na (by omega), h4]
theorem pl_u0 {I : am_I} {p : Nat} {P : Nat → Nat → Int32} (h : pp_at I p P) (c : Nat) (x : Int32) : pp_at (am_sI I 19 p (am_uI (I 19 p) c x)) p (sp_up P 0 c x) := pl_u h 0 c x (by decide)
theorem pl_u1 {I : am_I} {p : Nat} {P : Nat → Nat → Int32} (h : pp_at I p P) (c : Nat) (x : Int32) : pp_at (am_sI I 20 p (am_uI (I 20 p) c x)) p (sp_up P 1 c x) := pl_u h 1 c x (by decide)
theorem pl_u2 {I : am_I} {p : Nat} {P : Nat → Nat → Int32} (h : pp_at I p P) (c : Nat) (x : Int32) : pp_at (am_sI I 21 p (am_uI (I 21 p) c x)) p (sp_up P 2 c x) := pl_u h 2 c x (by decide)
theorem pl_u3 {I : am_I} {p : Nat} {P : Nat → Nat → Int32} (h : pp_at I p P) (c : Nat) (x : Int32) : pp_at (am_sI I 22 p (am_uI (I 22 p) c x)) p (sp_up P 3 c x) := pl_u h 3 c x (by decide)
theorem pl_u4 {I : am_I} {p : Nat} {P : Nat → Nat → Int32} (h : pp_at I p P) (j : Nat) (x : Int32) (hj : j < 3) : pp_at (am_sI I 9 p (am_uI (I 9 p) (4 + j) x)) p (sp_up P 4 j x) := by
  obtain ⟨h1, h2, h3, h4⟩ := h
  have key : ∀ i, i < 3 → I 9 p (4 + i) = P 4 i → am_sI I 9 p (am_uI (I 9 p) (4 + j) x) 9 p (4 + i) = sp_up P 4 j x 4 i := by
    intro i hi e
    rw [sI_eq]
    by_cases e2 : i = j
    · subst e2; rw [uI_eq, up_eq]
    · rw [uI_ne (by omega), up_nc e2, e]
  refine ⟨fun c hc => ?_, key 0 (by decide) h2, key 1 (by decide) h3, key 2 (by decide) h4⟩
  obtain ⟨a0, a1, a2, a3⟩ := h1 c hc
  rw [sI_na (by omega), sI_na (by omega), sI_na (by omega), sI_na (by omega), up_na (by omega), up_na (by omega), up_na (by omega), up_na (by omega)]
  exact ⟨a0, a1, a2, a3⟩
theorem bdc_25 : am_bdc (nI 0) (nI 25) 25 := by unfold am_bdc; decide
theorem cpy_25 {f g : Nat → Int32} {c : Nat} (h : c < 25) : va_cpy f g 0 0 25 c = f c := by
  unfold va_cpy
  rw [if_pos (by omega)]
  congr 1
  omega
section
variable {d p q : Nat} {I : am_I} {R : am_R} {Q : am_Q} {P : Nat → Nat → Int32}
theorem c_become (hq : pp_R R q) (hp : pp_R R p) (hne : ¬ q = p) (hP : pp_at I q P) (hb : am_bb (P 4 2)) : ∃ J, am_cal d 75 [.ref (am_mk 9 p), .ref (am_mk 9 q)] I R Q = some (none, J, R, Q) ∧ am_fr (pp_S p) I J ∧ pp_at J p P := by
  obtain ⟨q0, q1, q2, q3⟩ := hq
  obtain ⟨p0, p1, p2, p3⟩ := hp
  have h := s75 (d := d) (a0 := am_mk 9 p) (a1 := am_mk 9 q) (I := I) (R := R) (Q := Q)
  have hbd := bdc_25
  have ht := eq_true hb
  have hpt := hP.2.2.2
  have n0 : am_ne 19 q 19 p := fun w => hne w.2
  have n1 : am_ne 20 q 20 p := fun w => hne w.2
  have n2 : am_ne 21 q 21 p := fun w => hne w.2
  have n3 : am_ne 22 q 22 p := fun w => hne w.2
  simp (disch := first | omega | assumption) only [s75_0, s75_1, s75_4, s75_5, s75_6, s75_9, s75_10, s75_12, s75_15, s75_16, s75_19, s75_20, s75_21, s75_24, s75_25, s75_27, s75_30, s75_31, s75_34, s75_35, s75_36, s75_39, s75_40, s75_42, s75_45, s75_46, s75_49, s75_50, s75_51, s75_54, s75_55, s75_57, s75_60, s75_61, s75_62, s75_65, s75_68, s75_69, s75_70, s75_73, s75_76, s75_77, s75_78, s75_81, s75_84, nI_le2, nI_lt2, nI_eq2, nI_lt0, nI_0le, nI_0lt, nI_le0, nI_eq0, nI_clamp, nI_add, bu_nI, bb_0, bb_1, rf_s, rf_n, tl_s, tl_n, am_th_some, if_true, if_false, sI_eq, uI_eq, and_self, true_and, and_true, not_false_eq_true, q0, q1, q2, q3, p0, p1, p2, p3, sI_na, sI_nb, hpt, ht] at h
  refine ⟨_, h, ?_, ?_⟩
  · repeat refine fr_f ?_ (fun _ => ⟨by omega, rfl⟩)
    exact fr_rf
  · obtain ⟨h1, h2, h3, h4⟩ := hP
    refine ⟨fun c hc => ?_, ?_, ?_, ?_⟩
    · obtain ⟨a0, a1, a2, a3⟩ := h1 c hc
      refine ⟨?_, ?_, ?_, ?_⟩ <;> simp (disch := first | decide | omega | assumption) only [sI_eq, sI_na, sI_nb, uI_eq, uI_ne, cpy_25, a0, a1, a2, a3]
    · simp (disch := first | decide | omega | assumption) only [sI_eq, sI_na, sI_nb, uI_eq, uI_ne, h2]
    · simp (disch := first | decide | omega | assumption) only [sI_eq, sI_na, sI_nb, uI_eq, uI_ne, h3]
    · simp (disch := first | decide | omega | assumption) only [sI_eq, sI_na, sI_nb, uI_eq, uI_ne, h4]
def sp_clear (P : Nat → Nat → Int32) (k : Nat) : Nat → Nat → Int32 := sp_up (sp_up (sp_up (sp_up P 0 k (nI 0)) 1 k (nI 0)) 2 k (nI 0)) 3 k (nI 0)
theorem c_clear (hp : pp_R R p) (hP : pp_at I p P) {k : Nat} (hk : k < 25) : ∃ J, am_cal d 77 [.ref (am_mk 9 p), .int (nI k)] I R Q = some (none, J, R, Q) ∧ am_fr (pp_S p) I J ∧ pp_at J p (sp_clear P k) := by
  obtain ⟨p0, p1, p2, p3⟩ := hp
  have h := s77 (d := d) (a0 := am_mk 9 p) (a1 := nI k) (I := I) (R := R) (Q := Q)
  have h1 : ¬ 25 ≤ k := by omega
  simp (disch := first | omega | assumption) only [s77_0, s77_1, s77_4, s77_5, s77_7, s77_10, s77_11, s77_14, s77_15, s77_16, s77_17, s77_18, s77_21, s77_22, s77_23, s77_24, s77_25, s77_28, s77_29, s77_30, s77_31, s77_32, s77_35, s77_36, s77_37, s77_38, nI_le2, nI_lt2, nI_eq2, nI_lt0, nI_0le, nI_0lt, nI_le0, nI_eq0, nI_clamp, nI_add, bu_nI, bb_0, bb_1, rf_s, rf_n, tl_s, tl_n, am_th_some, if_true, if_false, sI_eq, uI_eq, and_self, true_and, and_true, not_false_eq_true, p0, p1, p2, p3, h1] at h
  refine ⟨_, h, ?_, ?_⟩
  · repeat refine fr_f ?_ (fun _ => ⟨by omega, rfl⟩)
    exact fr_rf
  · exact pl_u3 (pl_u2 (pl_u1 (pl_u0 hP k _) k _) k _) k _
theorem c_hasFood_k (r0 : R 9 p 0 = some (am_mk 19 p)) (hP : pp_at I p P) {n k : Nat} (hn : P 4 0 = nI n) (hn2 : n ≤ 25) (hk : k < n) : am_cal d 76 [.ref (am_mk 9 p), .int (nI k)] I R Q = some (some (.int (if P 0 k ≤ 0 then nI 0 else nI 1)), I, R, Q) := by
  rw [c_hasFood r0, hP.2.1, hn]
  have h1 : ¬ n ≤ k := by omega
  have h2 : ¬ 25 ≤ k := by omega
  simp (disch := first | omega | assumption) only [nI_lt0, nI_le2, nI_clamp, h1, h2, if_false, (hP.1 k (by omega)).1]
theorem c_hasFood_o (r0 : R 9 p 0 = some (am_mk 19 p)) (hP : pp_at I p P) {c : Int32} (h : c < 0 ∨ P 4 0 ≤ c) : am_cal d 76 [.ref (am_mk 9 p), .int c] I R Q = some (some (.int (nI 0)), I, R, Q) := by
  rw [c_hasFood r0, hP.2.1]
  by_cases h1 : c < 0
  · rw [if_pos h1]
  · rw [if_neg h1, if_pos (h.resolve_left h1)]
def sp_shift (P : Nat → Nat → Int32) (k m : Nat) : Nat → Nat → Int32 := if P 0 m ≤ 0 then sp_clear (sp_up (sp_up (sp_up (sp_up P 0 m (P 0 k)) 1 m (P 1 k)) 2 m (P 2 k)) 3 m (P 3 k)) k else P
theorem c_shift (hp : pp_R R p) (hP : pp_at I p P) {n k m : Nat} (hn : P 4 0 = nI n) (hn2 : n ≤ 25) (hk : k < n) (hm : m < n) (hf : ¬ P 0 k ≤ 0) : ∃ J, am_cal (d + 1) 78 [.ref (am_mk 9 p), .int (nI k), .int (nI m)] I R Q = some (none, J, R, Q) ∧ am_fr (pp_S p) I J ∧ pp_at J p (sp_shift P k m) := by
  have hp2 := hp
  obtain ⟨p0, p1, p2, p3⟩ := hp
  have h := s78 (d := d + 1) (a0 := am_mk 9 p) (a1 := nI k) (a2 := nI m) (I := I) (R := R) (Q := Q)
  have hc : I 9 p 4 = nI n := hP.2.1.trans hn
  have h1 : ¬ n ≤ m := by omega
  have e0 : (nI 0 : Int32) = 0 := nI_0
  have e1 : ((nI 1 : Int32) = 0) = False := eq_false (by decide)
  simp (disch := first | omega | assumption) only [s78_0, s78_1, s78_2, s78_5, s78_8, s78_9, s78_12, s78_13, s78_14, s78_17, s78_20, s78_21, s78_22, s78_25, s78_28, s78_29, s78_30, s78_33, s78_34, s78_35, s78_38, s78_39, s78_40, s78_41, s78_42, s78_45, s78_46, s78_47, s78_50, s78_51, s78_52, s78_53, s78_54, s78_57, s78_58, s78_59, s78_62, s78_63, s78_64, s78_65, s78_66, s78_69, s78_70, s78_71, s78_74, s78_75, s78_76, s78_77, s78_78, s78_79, s78_82, nI_le2, nI_lt2, nI_eq2, nI_lt0, nI_0le, nI_0lt, nI_le0, nI_eq0, nI_clamp, nI_add, bu_nI, bb_0, bb_1, rf_s, rf_n, tl_s, tl_n, am_th_some, if_true, if_false, sI_eq, uI_eq, and_self, true_and, and_true, not_false_eq_true, c_hasFood_k (d := d) p0 hP hn hn2 hk, c_hasFood_k (d := d) p0 hP hn hn2 hm, hf, hc, h1, e1, p0, p1, p2, p3] at h
  unfold sp_shift
  by_cases hm0 : P 0 m ≤ 0
  · obtain ⟨a0, a1, a2, a3⟩ := hP.1 k (by omega)
    have v1 : ∀ f, am_sI I 19 p f 20 p k = P 1 k := fun f => (congrFun (sI_na (by decide)) k).trans a1
    have v2 : ∀ f g, am_sI (am_sI I 19 p f) 20 p g 21 p k = P 2 k := fun f g => ((congrFun (sI_na (by decide)) k).trans (congrFun (sI_na (by decide)) k)).trans a2
    have v3 : ∀ f g i, am_sI (am_sI (am_sI I 19 p f) 20 p g) 21 p i 22 p k = P 3 k := fun f g i => (((congrFun (sI_na (by decide)) k).trans (congrFun (sI_na (by decide)) k)).trans (congrFun (sI_na (by decide)) k)).trans a3
    simp only [hm0, if_true, e0, a0, v1, v2, v3] at h
    obtain ⟨J, g1, g2, g3⟩ := c_clear (d := d) (Q := Q) hp2 (pl_u3 (pl_u2 (pl_u1 (pl_u0 hP m (P 0 k)) m (P 1 k)) m (P 2 k)) m (P 3 k)) (show k < 25 by omega)
    rw [g1] at h
    simp only [am_th_some, tl_n, s78_82] at h
    rw [if_pos hm0]
    refine ⟨J, h, fr_tr ?_ g2, g3⟩
    repeat refine fr_f ?_ (fun _ => ⟨by omega, rfl⟩)
    exact fr_rf
  · rw [if_neg hm0]
    simp only [hm0, if_false, e1] at h
    exact ⟨I, h, fr_rf, hP⟩
def sp_ice (P : Nat → Nat → Int32) : Int32 := am_fold (fun a c => a + P 1 c) (nI 0) 25
def sp_deg (P : Nat → Nat → Int32) : Int32 := am_fold (fun a c => a + P 2 c) (nI 0) 25
def sp_foods (P : Nat → Nat → Int32) : Int32 := am_fold (sp_fd (P 0)) (nI 0) 25
def sp_mix (P : Nat → Nat → Int32) : Nat → Nat → Int32 := fun a j => if P 0 j ≤ 0 then P a j else if a = 1 then sp_dv (sp_ice P) (sp_foods P) else if a = 2 then sp_dv (sp_deg P) (sp_foods P) else P a j
theorem pl_foods (hP : pp_at I p P) : am_fold (sp_fd (I 19 p)) (nI 0) 25 = sp_foods P := fold_congr fun x c hc => by unfold sp_fd; rw [(hP.1 c hc).1]
theorem pl_ice (hP : pp_at I p P) : am_fold (fun a c => a + I 20 p c) (nI 0) 25 = sp_ice P := fold_congr fun x c hc => by rw [(hP.1 c hc).2.1]
theorem pl_deg (hP : pp_at I p P) : am_fold (fun a c => a + I 21 p c) (nI 0) 25 = sp_deg P := fold_congr fun x c hc => by rw [(hP.1 c hc).2.2.1]
theorem c_mix (hp : pp_R R p) (hP : pp_at I p P) : ∃ J, am_cal (d + 2) 83 [.ref (am_mk 9 p)] I R Q = some (none, J, R, Q) ∧ am_fr (pp_S p) I J ∧ pp_at J p (sp_mix P) := by
  obtain ⟨p0, p1, p2, p3⟩ := hp
  have h := s83 (d := d + 2) (a0 := am_mk 9 p) (I := I) (R := R) (Q := Q)
  have e := pl_foods hP
  have key : ∀ (l1 : Value) (mi mg : Int32), mi = sp_dv (sp_ice P) (sp_foods P) → mg = sp_dv (sp_deg P) (sp_foods P) → ∃ J, am_ev (d + 2) 83 28 [.ref (am_mk 9 p), l1, .int mi, .int mg, .int (nI 0)] [] I R Q = some (none, J, R, Q) ∧ am_fr (pp_S p) I J ∧ pp_at J p (sp_mix P) := by
    intro l1 mi mg hmi hmg
    refine loop_inv (f := fun J c => am_ev (d + 2) 83 28 [.ref (am_mk 9 p), l1, .int mi, .int mg, .int (nI c)] [] J R Q) (Inv := fun c J => am_fr (pp_S p) I J ∧ pp_at J p (fun a j => if j < c then sp_mix P a j else P a j)) (Post := fun y => ∃ J, y = some (none, J, R, Q) ∧ am_fr (pp_S p) I J ∧ pp_at J p (sp_mix P)) (n := 25) ?_ ?_ (Nat.zero_le _) ⟨fr_rf, hP⟩
    · intro c J hc ⟨f1, f2⟩
      left
      have h1 : ¬ 25 ≤ c := by omega
      have h2 : J 19 p c = P 0 c := ((f2.1 c hc).1).trans (if_neg (Nat.lt_irrefl c))
      rw [s83_28]
      by_cases hf : P 0 c ≤ 0
      · refine ⟨J, ?_, f1, pl_congr f2 fun a j _ => ?_⟩
        · simp (disch := first | omega | assumption) only [s83_0, s83_1, s83_4, s83_5, s83_6, s83_9, s83_10, s83_13, s83_14, s83_17, s83_18, s83_19, s83_20, s83_21, s83_24, s83_25, s83_26, s83_30, s83_32, s83_35, s83_36, s83_39, s83_41, s83_42, s83_45, s83_46, s83_49, s83_51, s83_52, s83_53, s83_54, s83_57, s83_59, s83_60, s83_61, s83_64, s83_67, nI_le2, nI_lt2, nI_eq2, nI_lt0, nI_0le, nI_0lt, nI_le0, nI_eq0, nI_clamp, nI_add, bu_nI, bb_0, bb_1, rf_s, rf_n, tl_s, tl_n, am_th_some, if_true, if_false, sI_eq, uI_eq, and_self, true_and, and_true, not_false_eq_true, p0, p1, p2, p3, h1, h2, hf]
        · by_cases e1 : j = c
          · subst e1
            rw [if_neg (Nat.lt_irrefl _), if_pos (Nat.lt_succ_self _), sp_mix, if_pos hf]
          · by_cases e2 : j < c
            · rw [if_pos e2, if_pos (by omega)]
            · rw [if_neg e2, if_neg (by omega)]
      · refine ⟨_, by simp (disch := first | omega | assumption) only [s83_0, s83_1, s83_4, s83_5, s83_6, s83_9, s83_10, s83_13, s83_14, s83_17, s83_18, s83_19, s83_20, s83_21, s83_24, s83_25, s83_26, s83_30, s83_32, s83_35, s83_36, s83_39, s83_41, s83_42, s83_45, s83_46, s83_49, s83_51, s83_52, s83_53, s83_54, s83_57, s83_59, s83_60, s83_61, s83_64, s83_67, nI_le2, nI_lt2, nI_eq2, nI_lt0, nI_0le, nI_0lt, nI_le0, nI_eq0, nI_clamp, nI_add, bu_nI, bb_0, bb_1, rf_s, rf_n, tl_s, tl_n, am_th_some, if_true, if_false, sI_eq, uI_eq, and_self, true_and, and_true, not_false_eq_true, p0, p1, p2, p3, h1, h2, hf], ?_, pl_congr (pl_u2 (pl_u1 f2 c mi) c mg) fun a j _ => ?_⟩
        · repeat refine fr_f ?_ (fun _ => ⟨by omega, rfl⟩)
          exact f1
        · by_cases e1 : j = c
          · subst e1
            rw [if_pos (Nat.lt_succ_self _), sp_mix, if_neg hf]
            by_cases e2 : a = 2
            · subst e2; rw [up_eq, if_neg (by decide), if_pos rfl, hmg]
            · rw [up_na e2]
              by_cases e3 : a = 1
              · subst e3; rw [up_eq, if_pos rfl, hmi]
              · rw [up_na e3, if_neg e3, if_neg e2, if_neg (Nat.lt_irrefl _)]
          · rw [up_nc e1, up_nc e1]
            by_cases e2 : j < c
            · rw [if_pos e2, if_pos (by omega)]
            · rw [if_neg e2, if_neg (by omega)]
    · intro J ⟨f1, f2⟩
      refine ⟨J, ?_, f1, pl_congr f2 fun a j hj => ?_⟩
      · rw [s83_28]
        simp (disch := first | omega | assumption) only [s83_0, s83_1, s83_4, s83_5, s83_6, s83_9, s83_10, s83_13, s83_14, s83_17, s83_18, s83_19, s83_20, s83_21, s83_24, s83_25, s83_26, s83_30, s83_32, s83_35, s83_36, s83_39, s83_41, s83_42, s83_45, s83_46, s83_49, s83_51, s83_52, s83_53, s83_54, s83_57, s83_59, s83_60, s83_61, s83_64, s83_67, nI_le2, nI_lt2, nI_eq2, nI_lt0, nI_0le, nI_0lt, nI_le0, nI_eq0, nI_clamp, nI_add, bu_nI, bb_0, bb_1, rf_s, rf_n, tl_s, tl_n, am_th_some, if_true, if_false, sI_eq, uI_eq, and_self, true_and, and_true, not_false_eq_true, Nat.le_refl]
      · by_cases e2 : j < 25
        · rw [if_pos e2]
        · omega
  have hi := c_iceOfAll (d := d + 1) (I := I) (Q := Q) p1
  rw [pl_ice hP] at hi
  have hg := c_meanDegrees (d := d) (I := I) (Q := Q) p0 p2
  rw [pl_deg hP, e] at hg
  have hs := c_foods (d := d + 1) (I := I) (Q := Q) p0
  rw [e] at hs
  by_cases hF : sp_foods P = 0
  · simp (disch := first | omega | assumption) only [s83_0, s83_1, s83_4, s83_5, s83_6, s83_9, s83_10, s83_13, s83_14, s83_17, s83_18, s83_19, s83_20, s83_21, s83_24, s83_25, s83_26, s83_30, s83_32, s83_35, s83_36, s83_39, s83_41, s83_42, s83_45, s83_46, s83_49, s83_51, s83_52, s83_53, s83_54, s83_57, s83_59, s83_60, s83_61, s83_64, s83_67, nI_le2, nI_lt2, nI_eq2, nI_lt0, nI_0le, nI_0lt, nI_le0, nI_eq0, nI_clamp, nI_add, bu_nI, bb_0, bb_1, rf_s, rf_n, tl_s, tl_n, am_th_some, if_true, if_false, sI_eq, uI_eq, and_self, true_and, and_true, not_false_eq_true, hs, hi, hg, hF] at h
    obtain ⟨J, g1, g2⟩ := key _ (nI 0) (sp_dv (sp_deg P) (sp_foods P)) (by rw [sp_dv, if_pos hF]) rfl
    exact ⟨J, h.trans (by rw [← g1, hF]), g2⟩
  · simp (disch := first | omega | assumption) only [s83_0, s83_1, s83_4, s83_5, s83_6, s83_9, s83_10, s83_13, s83_14, s83_17, s83_18, s83_19, s83_20, s83_21, s83_24, s83_25, s83_26, s83_30, s83_32, s83_35, s83_36, s83_39, s83_41, s83_42, s83_45, s83_46, s83_49, s83_51, s83_52, s83_53, s83_54, s83_57, s83_59, s83_60, s83_61, s83_64, s83_67, nI_le2, nI_lt2, nI_eq2, nI_lt0, nI_0le, nI_0lt, nI_le0, nI_eq0, nI_clamp, nI_add, bu_nI, bb_0, bb_1, rf_s, rf_n, tl_s, tl_n, am_th_some, if_true, if_false, sI_eq, uI_eq, and_self, true_and, and_true, not_false_eq_true, hs, hi, hg, hF, not_false_eq_true] at h
    obtain ⟨J, g1, g2⟩ := key _ (sp_ice P / sp_foods P) (sp_dv (sp_deg P) (sp_foods P)) (by rw [sp_dv, if_neg hF]) rfl
    exact ⟨J, h.trans g1, g2⟩
end
