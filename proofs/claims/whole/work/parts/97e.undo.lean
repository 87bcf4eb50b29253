/-! ACTS undone: the methods. -/
section
variable {d n b k f lo : Nat} {I : am_I} {R : am_R} {Q : am_Q} {E : Nat → Nat → Int32} {PK : Nat → Nat → Nat → Int32} {tk : Nat → Nat}
theorem c_undoNo (hr : pa_R R) (h : hc_at I 0 PK tk f lo E) : am_cal d 126 [.ref (am_mk 11 0)] I R Q = some (some (.int (-nI 1)), I, R, Q) := by
  obtain ⟨r8, r10, r12, r11, r13, r14, rp, rl, rl1, ra⟩ := hr
  have h3 := h.2.2.1
  rw [s126]
  simp (disch := first | omega | assumption) only [s126_0, s126_1, s126_4, s126_7, s126_10, s126_11, s126_12, s126_13, s126_16, s126_17, s126_20, s126_23, s126_24, s126_27, s126_30, nI_le2, nI_lt2, nI_eq2, nI_lt0, nI_0le, nI_0lt, nI_le0, nI_eq0, nI_clamp, nI_add, bu_nI, bb_0, bb_1, rf_s, rf_n, tl_s, tl_n, am_th_some, if_true, if_false, sI_eq, uI_eq, and_self, true_and, and_true, not_false_eq_true, not_true_eq_false, Nat.reduceEqDiff, Nat.reduceLeDiff, Nat.reduceLT, Nat.reduceAdd, Nat.reduceMul, Nat.reduceSub, Nat.zero_add, r11, h3]
theorem c_undo (hr : pa_R R) (hd : hd_ok n b (k + 1) PK tk) (h : hc_at I (k + 1) PK tk f lo E) : ∃ J, am_cal (d + 2) 126 [.ref (am_mk 11 0)] I R Q = some (some (.int (nI k)), J, R, Q) ∧ am_fr hc_S I J ∧ hc_at J k PK tk ((f + 39) % 40) lo E := by
  obtain ⟨J, g1, g2, g3⟩ := c_undoH (d := d) (Q := Q) hr hd h
  obtain ⟨r8, r10, r12, r11, r13, r14, rp, rl, rl1, ra⟩ := hr
  have h3 := h.2.2.1
  have h5 := g3.2.2.1
  have hk := hd.1
  have h0 : ¬ k + 1 = 0 := by omega
  refine ⟨J, ?_, g2, g3⟩
  rw [s126]
  simp (disch := first | omega | assumption) only [s126_0, s126_1, s126_4, s126_7, s126_10, s126_11, s126_12, s126_13, s126_16, s126_17, s126_20, s126_23, s126_24, s126_27, s126_30, nI_le2, nI_lt2, nI_eq2, nI_lt0, nI_0le, nI_0lt, nI_le0, nI_eq0, nI_clamp, nI_add, bu_nI, bb_0, bb_1, rf_s, rf_n, tl_s, tl_n, am_th_some, if_true, if_false, sI_eq, uI_eq, and_self, true_and, and_true, not_false_eq_true, not_true_eq_false, Nat.reduceEqDiff, Nat.reduceLeDiff, Nat.reduceLT, Nat.reduceAdd, Nat.reduceMul, Nat.reduceSub, Nat.zero_add, r10, r11, h3, h0, g1, h5]
theorem m_undoNo (h : hm_at I n 0 PK tk E) : am_cal d 236 [.ref (am_mk 12 0)] I R Q = some (some (.int (-nI 1)), I, R, Q) := by
  have h2 := h.2.1
  rw [s236]
  simp (disch := first | omega | assumption) only [s236_0, s236_1, s236_4, s236_7, s236_8, s236_9, s236_10, s236_11, s236_14, s236_15, s236_16, s236_19, s236_20, s236_22, s236_25, s236_28, s236_29, s236_32, s236_33, s236_34, s236_37, s236_40, s236_41, s236_44, s236_45, s236_46, s236_47, s236_48, s236_49, s236_52, s236_55, s236_56, s236_59, nI_le2, nI_lt2, nI_eq2, nI_lt0, nI_0le, nI_0lt, nI_le0, nI_eq0, nI_clamp, nI_add, bu_nI, bb_0, bb_1, rf_s, rf_n, tl_s, tl_n, am_th_some, if_true, if_false, sI_eq, uI_eq, and_self, true_and, and_true, not_false_eq_true, not_true_eq_false, Nat.reduceEqDiff, Nat.reduceLeDiff, Nat.reduceLT, Nat.reduceAdd, Nat.reduceMul, Nat.reduceSub, Nat.zero_add, h2]
end
