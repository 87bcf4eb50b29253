/-! FAULT. -/
theorem fC_2 {u a b j : Nat} (h : a = 31 ∨ a = 32 ∨ a = 28 ∨ a = 41 ∨ (23 ≤ a ∧ a ≤ 26) ∨ a = 1 ∨ a = 7) : fC u a b j := Or.inl (Or.inr h)
theorem fC_10 {u b : Nat} : fC u 10 b 2 := Or.inr (Or.inl (Or.inr (Or.inr (Or.inl ⟨rfl, rfl⟩))))
theorem fC_5 {u a b j : Nat} (hb : b < 2) (hu : ¬ b = u) (h : (14 ≤ a ∧ a ≤ 22) ∨ (a = 9 ∧ j = 4) ∨ a = 6) : fC u a b j := Or.inr (Or.inr (Or.inr ⟨hb, hu, h⟩))
theorem zL_f {u v a b j : Nat} (hv : v < 2) (hu : ¬ v = u) (h : zL_S v a b j) : fC u a b j := by
  rcases h with (h | h) | h | h
  · rcases h with h | h | h
    · rcases h with ⟨rfl, rfl⟩ | rfl | rfl
      · exact fC_10
      · exact fC_2 (by decide)
      · exact fC_2 (by decide)
    · rcases h with h | h | h | h
      · exact fC_5 (by omega) (by omega) (Or.inl (by omega))
      · exact fC_2 (by omega)
      · exact fC_2 (by omega)
      · exact fC_5 (by omega) (by omega) (Or.inr (Or.inr h.1))
    · exact fC_2 (by omega)
  · exact fC_5 (by omega) (by omega) (Or.inl (by omega))
  · exact fC_5 (by omega) (by omega) (Or.inr (Or.inl ⟨h.1, h.2.2⟩))
  · exact fC_5 (by omega) (by omega) (Or.inl (by omega))
theorem zL_cl {v a b j : Nat} (h : zL_S v a b j) : clS a b j := by
  unfold clS
  rcases h with (h | h) | h | h
  · rcases h with h | h | h
    · unfold zi_S at h; omega
    · unfold zt_S at h; omega
    · omega
  · omega
  · omega
  · omega
theorem zc_f {u a b j : Nat} (h : zc_S a b j) : fC u a b j ∧ clS a b j := by
  rcases h with ⟨rfl, rfl⟩ | ⟨rfl, rfl⟩ | ⟨rfl, rfl, rfl⟩
  · exact ⟨fC_10, by unfold clS; omega⟩
  · exact ⟨Or.inr (Or.inl (Or.inr (Or.inl ⟨rfl, rfl⟩))), by unfold clS; omega⟩
  · exact ⟨Or.inr (Or.inl (Or.inl ⟨rfl, Or.inr rfl⟩)), by unfold clS; omega⟩
theorem zct_f {n a b j : Nat} (h : zct_S a b j) : qM n a b j := by
  unfold zct_S at h
  refine ⟨by unfold mdS; omega, Or.inr (Or.inl ?_)⟩
  unfold fM
  omega
theorem zR_f {n m a b j : Nat} (hn : n ≤ m) (h : zR_S m a b j) : fM n a b j ∧ mdS a b j := by
  unfold zR_S zr_S zm_S at h
  unfold mdS fM
  omega
theorem zR_q {n m a b j : Nat} (hn : n ≤ m) (h : zR_S m a b j) : qM n a b j := ⟨(zR_f hn h).2, Or.inr (Or.inl (zR_f hn h).1)⟩
section
variable {s : zSt} {x y : Int32}
theorem z60_fr {I J : am_I} (h : rel_m s I) (hok : rel_ok s) (h60 : ∀ j, J 60 0 j = I 60 0 j) (h30 : J 12 0 30 = I 12 0 30) : z60 s I J := by
  have g := z60_rf h hok
  obtain ⟨s1, s2, s3, s4, o⟩ := s
  cases o with
  | none => exact fun j _ => h60 j
  | some l =>
    obtain ⟨a, b, c, e⟩ := g
    exact ⟨fun c hc => ⟨(h60 _).trans (a c hc).1, (h60 _).trans (a c hc).2.1, (h60 _).trans (a c hc).2.2.1, (h60 _).trans (a c hc).2.2.2⟩, h30.trans b, (h60 _).trans c, (h60 _).trans e⟩
theorem op_fault (hok : rel_ok s) : op1 100 198 [.int x] s := by
  obtain ⟨tp, w, st, rf, o⟩ := s
  by_cases e0 : x = nI 0
  · subst e0
    obtain ⟨v, E, hc, hm, -⟩ := zj_lread hok.1
    refine op_q (v := v) hok (fun d u I R Q h => ?_) (fun d I R Q hr h => ?_)
    · obtain ⟨hR, ⟨x1, x2, x3, -⟩, -⟩ := h
      have hu := hR.2.1
      obtain ⟨J, g1, g2, -⟩ := hc (d + 89) I R Q (1 - u) (by omega) (rR_ze hR) x1 x2 x3
      have r1 := (rF_11 hR.1).2.2.1
      refine ⟨J, ?_, fr_mo g2 fun a b j w => ⟨zL_cl w, zL_f (by omega) (by omega) w⟩⟩
      rw [s100]
      simp (disch := first | omega | assumption) only [s100_0, s100_1, s100_4, s100_5, s100_8, s100_11, s100_12, s100_13, s100_14, s100_17, s100_18, s100_21, s100_24, s100_27, s100_29, nI_le2, nI_lt2, nI_eq2, nI_lt0, nI_0le, nI_0lt, nI_le0, nI_eq0, nI_clamp, nI_add, bu_nI, bb_0, bb_1, rf_s, rf_n, tl_s, tl_n, am_th_some, if_true, if_false, sI_eq, uI_eq, and_self, true_and, and_true, not_false_eq_true, not_true_eq_false, Nat.reduceEqDiff, Nat.reduceLeDiff, Nat.reduceLT, Nat.reduceAdd, Nat.reduceMul, Nat.reduceSub, Nat.zero_add, r1, g1]
    · obtain ⟨J, g1, g2, -⟩ := hm (d + 89) I R Q (by omega) hr h.1.1
      refine ⟨J, ?_, fr_mo g2 fun a b j w => zct_f w, z60_fr h hok (fun j => g2 _ _ _ (fun w => by unfold zct_S at w; omega)) (g2 _ _ _ (fun w => by unfold zct_S at w; omega))⟩
      rw [s198]
      simp (disch := first | omega | assumption) only [s198_0, s198_1, s198_4, s198_5, s198_8, s198_11, s198_12, s198_13, s198_16, s198_17, s198_18, s198_21, s198_24, s198_26, nI_le2, nI_lt2, nI_eq2, nI_lt0, nI_0le, nI_0lt, nI_le0, nI_eq0, nI_clamp, nI_add, bu_nI, bb_0, bb_1, rf_s, rf_n, tl_s, tl_n, am_th_some, if_true, if_false, sI_eq, uI_eq, and_self, true_and, and_true, not_false_eq_true, not_true_eq_false, Nat.reduceEqDiff, Nat.reduceLeDiff, Nat.reduceLT, Nat.reduceAdd, Nat.reduceMul, Nat.reduceSub, Nat.zero_add, g1]
  · have e0' : ¬ x = 0 := by rw [← nI_0]; exact e0
    by_cases e1 : x = nI 1
    · subst e1
      obtain ⟨v, K, hc, hm, -⟩ := zj_read hok.1
      have n10 : ¬ (1 : Nat) = 0 := by decide
      refine op_q (v := v) hok (fun d u I R Q h => ?_) (fun d I R Q hr h => ?_)
      · obtain ⟨hR, ⟨x1, x2, x3, -⟩, -⟩ := h
        obtain ⟨J, C1, g1, g2, -⟩ := hc (d + 89) I R Q (by omega) (rF_zc hR.1) x1 x2
        have r1 := (rF_11 hR.1).2.2.2.1
        refine ⟨J, ?_, fr_mo g2 fun a b j w => ⟨(zc_f (u := u) w).2, (zc_f w).1⟩⟩
        rw [s100]
        simp (disch := first | omega | assumption) only [s100_0, s100_1, s100_4, s100_5, s100_8, s100_11, s100_12, s100_13, s100_14, s100_17, s100_18, s100_21, s100_24, s100_27, s100_29, nI_le2, nI_lt2, nI_eq2, nI_lt0, nI_0le, nI_0lt, nI_le0, nI_eq0, nI_clamp, nI_add, bu_nI, bb_0, bb_1, rf_s, rf_n, tl_s, tl_n, am_th_some, if_true, if_false, sI_eq, uI_eq, and_self, true_and, and_true, not_false_eq_true, not_true_eq_false, Nat.reduceEqDiff, Nat.reduceLeDiff, Nat.reduceLT, Nat.reduceAdd, Nat.reduceMul, Nat.reduceSub, Nat.zero_add, r1, n10, g1]
      · obtain ⟨J, g1, g2, -⟩ := hm (d + 89) I R Q 4 (by omega) hr (by decide) h.1.1
        have hw : w.1 ≤ 4 := hok.2.1.1
        refine ⟨J, ?_, fr_mo g2 fun a b j w' => zR_q hw w', z60_fr h hok (fun j => g2 _ _ _ (fun w => by have := (fM_of (zR_f (Nat.zero_le _) w).1).1; omega)) (g2 _ _ _ (fun w => by have := (fM_of (zR_f (Nat.zero_le _) w).1).2.1 rfl; omega))⟩
        rw [s198]
        simp (disch := first | omega | assumption) only [s198_0, s198_1, s198_4, s198_5, s198_8, s198_11, s198_12, s198_13, s198_16, s198_17, s198_18, s198_21, s198_24, s198_26, nI_le2, nI_lt2, nI_eq2, nI_lt0, nI_0le, nI_0lt, nI_le0, nI_eq0, nI_clamp, nI_add, bu_nI, bb_0, bb_1, rf_s, rf_n, tl_s, tl_n, am_th_some, if_true, if_false, sI_eq, uI_eq, and_self, true_and, and_true, not_false_eq_true, not_true_eq_false, Nat.reduceEqDiff, Nat.reduceLeDiff, Nat.reduceLT, Nat.reduceAdd, Nat.reduceMul, Nat.reduceSub, Nat.zero_add, n10, g1]
    · refine op_k (v := -nI 2) hok (fun d u I R Q h => ?_) (fun d I R Q hr h => ?_)
      · rw [s100]
        simp (disch := first | omega | assumption) only [s100_0, s100_1, s100_4, s100_5, s100_8, s100_11, s100_12, s100_13, s100_14, s100_17, s100_18, s100_21, s100_24, s100_27, s100_29, nI_le2, nI_lt2, nI_eq2, nI_lt0, nI_0le, nI_0lt, nI_le0, nI_eq0, nI_clamp, nI_add, bu_nI, bb_0, bb_1, rf_s, rf_n, tl_s, tl_n, am_th_some, if_true, if_false, sI_eq, uI_eq, and_self, true_and, and_true, not_false_eq_true, not_true_eq_false, Nat.reduceEqDiff, Nat.reduceLeDiff, Nat.reduceLT, Nat.reduceAdd, Nat.reduceMul, Nat.reduceSub, Nat.zero_add, e0', e1]
      · rw [s198]
        simp (disch := first | omega | assumption) only [s198_0, s198_1, s198_4, s198_5, s198_8, s198_11, s198_12, s198_13, s198_16, s198_17, s198_18, s198_21, s198_24, s198_26, nI_le2, nI_lt2, nI_eq2, nI_lt0, nI_0le, nI_0lt, nI_le0, nI_eq0, nI_clamp, nI_add, bu_nI, bb_0, bb_1, rf_s, rf_n, tl_s, tl_n, am_th_some, if_true, if_false, sI_eq, uI_eq, and_self, true_and, and_true, not_false_eq_true, not_true_eq_false, Nat.reduceEqDiff, Nat.reduceLeDiff, Nat.reduceLT, Nat.reduceAdd, Nat.reduceMul, Nat.reduceSub, Nat.zero_add, e0', e1]
end
