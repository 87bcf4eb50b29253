/-! TEXT of a LAW. -/
section
variable {s : zSt}
theorem op_text1 (hok : rel_ok s) : op1 101 201 [.int (nI 1)] s := by
  obtain ⟨tp, ⟨c, Ks, p⟩, st, rf, o⟩ := s
  have hc4 : c ≤ 4 := hok.2.1.1
  have n10 : ¬ (1 : Nat) = 0 := by decide
  by_cases hc : c < 4
  · have hc' : ¬ 4 ≤ c := by omega
    obtain ⟨v, K, rc, rm, ko, vp⟩ := zj_read hok.1
    by_cases hv : v = -nI 1
    · subst hv
      have h240 := cls_240 rc
      refine ⟨nI c, ((0, tp.2), (c + 1, zKs Ks c K, p), st, rf, o), fun d u I R Q h => ?_, fun d I R Q hr h => ?_, ⟨⟨Nat.zero_le _, fun i hi => absurd hi (Nat.not_lt_zero _)⟩, ⟨hc, fun i hi => ?_, fun l hl => Nat.lt_succ_of_lt (hok.2.1.2.2 l hl)⟩, hok.2.2⟩⟩
      · obtain ⟨J, C1, g1, g2, g3, g4, g5⟩ := rc (d + 89) I R Q (by omega) (rF_zc h.1.1) h.2.1.1 h.2.1.2.1
        have g5 := g5 rfl
        subst g5
        have r1 := (rF_11 h.1.1).2.2.2.1
        have e4 : I 11 0 4 = nI c := h.2.1.2.2.2.1.1
        have e4J : J 11 0 4 = nI c := (g2 _ _ _ (fun w => by unfold zc_S at w; omega)).trans e4
        obtain ⟨X, x1, x2, x3, x4, x5⟩ := c_takeLaw (d := d + 88) (Q := Q) h.1.1 hc e4J g3 (by rw [List.length_map]; exact g4)
        replace x1 : am_cal (d + 89) _ _ _ _ _ = _ := x1
        have hf : am_fr (fun a b j => zc_S a b j ∨ tkS c a b j) I X := fr_tr (fr_mo g2 fun a b j w => Or.inl w) (fr_mo x2 fun a b j w => Or.inr w)
        refine ⟨X, R, u, ?_, fr_mo hf fun a b j w => lw_cl (w.elim zc_lw tk_lw), take_c h hok hc hf x3 x4 x5, fun _ _ _ _ => rfl⟩
        rw [s101]
        simp (disch := first | omega | assumption) only [s101_0, s101_1, s101_4, s101_5, s101_8, s101_11, s101_12, s101_15, s101_16, s101_19, s101_22, s101_23, s101_24, s101_25, s101_26, s101_29, s101_30, s101_33, s101_34, s101_37, s101_38, s101_41, s101_44, s101_45, s101_48, s101_49, s101_52, s101_53, s101_54, nI_le2, nI_lt2, nI_eq2, nI_lt0, nI_0le, nI_0lt, nI_le0, nI_eq0, nI_clamp, nI_add, bu_nI, bb_0, bb_1, rf_s, rf_n, tl_s, tl_n, am_th_some, if_true, if_false, sI_eq, uI_eq, and_self, true_and, and_true, not_false_eq_true, not_true_eq_false, Nat.reduceEqDiff, Nat.reduceLeDiff, Nat.reduceLT, Nat.reduceAdd, Nat.reduceMul, Nat.reduceSub, Nat.zero_add, n10, r1, e4, hc', hc, g1, x1]
      · obtain ⟨J, g1, g2, g3⟩ := rm (d + 89) I R Q c (by omega) hr (by omega) h.1.1
        have e13 : I 12 0 13 = nI c := h.1.2.1.1
        have e13J : J 12 0 13 = nI c := (g2 _ _ _ (fun w => by unfold zR_S zr_S zm_S at w; omega)).trans e13
        obtain ⟨X1, x0, x1, x2⟩ := wr J 12 0 2 (nI 0)
        have e13X : X1 12 0 13 = nI c := (x2 _ _ _ (by decide)).trans e13J
        obtain ⟨X2, y0, y1, y2⟩ := wr X1 12 0 13 (nI (c + 1))
        have es : nI (c + 1) - nI 1 = nI c := nI_sub (by omega)
        have hX : am_fr (fun a b j => a = 12 ∧ b = 0 ∧ (j = 2 ∨ j = 13)) J X2 := fr_tr (fr_mo x2 fun a b j w => ⟨w.1, w.2.1, Or.inl w.2.2⟩) (fr_mo y2 fun a b j w => ⟨w.1, w.2.1, Or.inr w.2.2⟩)
        refine ⟨X2, Q, ?_, fr_tr (fr_mo g2 fun a b j w => (zR_f (Nat.zero_le _) w).2) (fr_mo hX fun a b j w => Or.inl w.1), take_m h hok g2 (g3 rfl) hX ((y2 _ _ _ (by decide)).trans x1) y1, fun _ _ _ _ => rfl⟩
        rw [s201]
        simp (disch := first | omega | assumption) only [s201_0, s201_1, s201_4, s201_5, s201_8, s201_9, s201_12, s201_13, s201_14, s201_17, s201_18, s201_21, s201_22, s201_23, s201_24, s201_27, s201_28, s201_31, s201_32, s201_35, s201_36, s201_37, s201_40, s201_43, s201_44, s201_47, s201_48, s201_49, s201_52, s201_53, s201_54, s201_57, s201_58, s201_59, s201_62, s201_63, s201_66, s201_67, s201_68, s201_69, s201_70, nI_le2, nI_lt2, nI_eq2, nI_lt0, nI_0le, nI_0lt, nI_le0, nI_eq0, nI_clamp, nI_add, bu_nI, bb_0, bb_1, rf_s, rf_n, tl_s, tl_n, am_th_some, if_true, if_false, sI_eq, uI_eq, and_self, true_and, and_true, not_false_eq_true, not_true_eq_false, Nat.reduceEqDiff, Nat.reduceLeDiff, Nat.reduceLT, Nat.reduceAdd, Nat.reduceMul, Nat.reduceSub, Nat.zero_add, n10, e13, hc', hc, g1, x0, e13X, y0, y1, es]
      · have hi : i < c + 1 := hi
        show zl_ok (if i = c then K else Ks i) ∧ (zl_cls (if i = c then K else Ks i)).length ≤ 240
        by_cases e : i = c
        · rw [if_pos e]; exact ⟨ko rfl, h240⟩
        · rw [if_neg e]; exact hok.2.1.2.1 i (show i < c by omega)
    · refine op_q (v := -nI 1) hok (fun d u I R Q h => ?_) (fun d I R Q hr h => ?_)
      · obtain ⟨J, C1, g1, g2, -⟩ := rc (d + 89) I R Q (by omega) (rF_zc h.1.1) h.2.1.1 h.2.1.2.1
        have r1 := (rF_11 h.1.1).2.2.2.1
        have e4 : I 11 0 4 = nI c := h.2.1.2.2.2.1.1
        refine ⟨J, ?_, fr_mo g2 fun a b j w => ⟨(zc_f (u := u) w).2, (zc_f w).1⟩⟩
        rw [s101]
        simp (disch := first | omega | assumption) only [s101_0, s101_1, s101_4, s101_5, s101_8, s101_11, s101_12, s101_15, s101_16, s101_19, s101_22, s101_23, s101_24, s101_25, s101_26, s101_29, s101_30, s101_33, s101_34, s101_37, s101_38, s101_41, s101_44, s101_45, s101_48, s101_49, s101_52, s101_53, s101_54, nI_le2, nI_lt2, nI_eq2, nI_lt0, nI_0le, nI_0lt, nI_le0, nI_eq0, nI_clamp, nI_add, bu_nI, bb_0, bb_1, rf_s, rf_n, tl_s, tl_n, am_th_some, if_true, if_false, sI_eq, uI_eq, and_self, true_and, and_true, not_false_eq_true, not_true_eq_false, Nat.reduceEqDiff, Nat.reduceLeDiff, Nat.reduceLT, Nat.reduceAdd, Nat.reduceMul, Nat.reduceSub, Nat.zero_add, n10, r1, e4, hc', hc, g1, hv]
      · obtain ⟨J, g1, g2, -⟩ := rm (d + 89) I R Q c (by omega) hr (by omega) h.1.1
        have e13 : I 12 0 13 = nI c := h.1.2.1.1
        refine ⟨J, ?_, fr_mo g2 fun a b j w' => zR_q (Nat.le_refl c) w', z60_fr h hok (fun j => g2 _ _ _ (fun w => by have := (fM_of (zR_f (Nat.zero_le _) w).1).1; omega)) (g2 _ _ _ (fun w => by have := (fM_of (zR_f (Nat.zero_le _) w).1).2.1 rfl; omega))⟩
        rw [s201]
        simp (disch := first | omega | assumption) only [s201_0, s201_1, s201_4, s201_5, s201_8, s201_9, s201_12, s201_13, s201_14, s201_17, s201_18, s201_21, s201_22, s201_23, s201_24, s201_27, s201_28, s201_31, s201_32, s201_35, s201_36, s201_37, s201_40, s201_43, s201_44, s201_47, s201_48, s201_49, s201_52, s201_53, s201_54, s201_57, s201_58, s201_59, s201_62, s201_63, s201_66, s201_67, s201_68, s201_69, s201_70, nI_le2, nI_lt2, nI_eq2, nI_lt0, nI_0le, nI_0lt, nI_le0, nI_eq0, nI_clamp, nI_add, bu_nI, bb_0, bb_1, rf_s, rf_n, tl_s, tl_n, am_th_some, if_true, if_false, sI_eq, uI_eq, and_self, true_and, and_true, not_false_eq_true, not_true_eq_false, Nat.reduceEqDiff, Nat.reduceLeDiff, Nat.reduceLT, Nat.reduceAdd, Nat.reduceMul, Nat.reduceSub, Nat.zero_add, n10, e13, hc', hc, g1, hv]
  · have hc' : c = 4 := by omega
    refine op_k (v := -nI 1) hok (fun d u I R Q h => ?_) (fun d I R Q hr h => ?_)
    · have e4 : I 11 0 4 = nI 4 := (show I 11 0 4 = nI c from h.2.1.2.2.2.1.1).trans (congrArg nI hc')
      rw [s101]
      simp (disch := first | omega | assumption) only [s101_0, s101_1, s101_4, s101_5, s101_8, s101_11, s101_12, s101_15, s101_16, s101_19, s101_22, s101_23, s101_24, s101_25, s101_26, s101_29, s101_30, s101_33, s101_34, s101_37, s101_38, s101_41, s101_44, s101_45, s101_48, s101_49, s101_52, s101_53, s101_54, nI_le2, nI_lt2, nI_eq2, nI_lt0, nI_0le, nI_0lt, nI_le0, nI_eq0, nI_clamp, nI_add, bu_nI, bb_0, bb_1, rf_s, rf_n, tl_s, tl_n, am_th_some, if_true, if_false, sI_eq, uI_eq, and_self, true_and, and_true, not_false_eq_true, not_true_eq_false, Nat.reduceEqDiff, Nat.reduceLeDiff, Nat.reduceLT, Nat.reduceAdd, Nat.reduceMul, Nat.reduceSub, Nat.zero_add, n10, e4]
    · have e13 : I 12 0 13 = nI 4 := (show I 12 0 13 = nI c from h.1.2.1.1).trans (congrArg nI hc')
      rw [s201]
      simp (disch := first | omega | assumption) only [s201_0, s201_1, s201_4, s201_5, s201_8, s201_9, s201_12, s201_13, s201_14, s201_17, s201_18, s201_21, s201_22, s201_23, s201_24, s201_27, s201_28, s201_31, s201_32, s201_35, s201_36, s201_37, s201_40, s201_43, s201_44, s201_47, s201_48, s201_49, s201_52, s201_53, s201_54, s201_57, s201_58, s201_59, s201_62, s201_63, s201_66, s201_67, s201_68, s201_69, s201_70, nI_le2, nI_lt2, nI_eq2, nI_lt0, nI_0le, nI_0lt, nI_le0, nI_eq0, nI_clamp, nI_add, bu_nI, bb_0, bb_1, rf_s, rf_n, tl_s, tl_n, am_th_some, if_true, if_false, sI_eq, uI_eq, and_self, true_and, and_true, not_false_eq_true, not_true_eq_false, Nat.reduceEqDiff, Nat.reduceLeDiff, Nat.reduceLT, Nat.reduceAdd, Nat.reduceMul, Nat.reduceSub, Nat.zero_add, n10, e13]
end
