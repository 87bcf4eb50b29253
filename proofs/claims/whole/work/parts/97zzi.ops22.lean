/-! A LAW taken: the class. -/
def tkS (c : Nat) : Nat → Nat → Nat → Prop := fun a b j => la_S (c + 1) a b j ∨ (a = 10 ∧ b = 0 ∧ j = 1) ∨ (a = 11 ∧ b = 0 ∧ j = 4)
section
variable {d c : Nat} {I : am_I} {R : am_R} {Q : am_Q} {C : List Int32}
theorem c_takeLaw (hF : rF R) (hc : c < 4) (h4 : I 11 0 4 = nI c) (hl : lw_at I 0 C) (hC : C.length ≤ 240) : ∃ X, am_cal (d + 1) 103 [.ref (am_mk 11 0)] I R Q = some (some (.int (nI c)), X, R, Q) ∧ am_fr (tkS c) I X ∧ lw_at X (c + 1) C ∧ X 11 0 4 = nI (c + 1) ∧ X 10 0 1 = nI 0 := by
  have hlw := rF_lw hF
  obtain ⟨J1, a1, a2, a3⟩ := c_lawbecome (d := d) (R := R) (Q := Q) (hlw (c + 1) (by omega)) (hlw 0 (by decide)) (by omega) hl hC
  obtain ⟨X1, x0, x1, x2⟩ := wr J1 10 0 1 (nI 0)
  obtain ⟨X2, y0, y1, y2⟩ := wr X1 11 0 4 (nI (c + 1))
  have r29 := rF_29 hF c hc
  have r11 := rF_11 hF
  have r0 := r11.2.1
  have r2 := r11.2.2.2.1
  have r3 := r11.2.2.2.2.1
  have r41 := (rF_zc hF).2.2.2
  have e4 : X1 11 0 4 = nI c := (x2 _ _ _ (by decide)).trans ((a2 _ _ _ (fun w => by unfold la_S at w; omega)).trans h4)
  have es : nI (c + 1) - nI 1 = nI c := nI_sub (by omega)
  have n4 : ¬ 4 ≤ c := by omega
  refine ⟨X2, ?_, fr_tr (fr_mo a2 fun a b j w => Or.inl w) (fr_tr (fr_mo x2 fun a b j w => Or.inr (Or.inl w)) (fr_mo y2 fun a b j w => Or.inr (Or.inr w))), lw_fr (lw_fr a3 x2 (by omega) (fun j => by omega)) y2 (by omega) (fun j => by omega), y1, (y2 _ _ _ (by decide)).trans x1⟩
  rw [s103]
  simp (disch := first | omega | assumption) only [s103_0, s103_1, s103_4, s103_7, s103_8, s103_11, s103_12, s103_15, s103_16, s103_19, s103_20, s103_23, s103_24, s103_27, s103_28, s103_31, s103_32, s103_32n, s103_33, s103_33n, s103_34, s103_34n, s103_37, s103_38, s103_39, s103_39n, s103_40, s103_41, s103_44, s103_47, s103_50, s103_51, s103_54, s103_55, s103_58, s103_59, s103_60, s103_63, s103_64, s103_65, s103_68, s103_69, s103_72, s103_73, s103_74, nI_le2, nI_lt2, nI_eq2, nI_lt0, nI_0le, nI_0lt, nI_le0, nI_eq0, nI_clamp, nI_add, bu_nI, bb_0, bb_1, rf_s, rf_n, tl_s, tl_n, am_th_some, if_true, if_false, sI_eq, uI_eq, and_self, true_and, and_true, not_false_eq_true, not_true_eq_false, Nat.reduceEqDiff, Nat.reduceLeDiff, Nat.reduceLT, Nat.reduceAdd, Nat.reduceMul, Nat.reduceSub, Nat.zero_add, h4, r0, r2, r3, r29, r41, hc, n4, a1, x0, e4, y0, y1, es]
end
