/-! TEXT: both sides. -/
theorem tlS_of {a b j : Nat} (h : tlS a b j) : (b = 12 ∧ (a = 9 ∨ (19 ≤ a ∧ a ≤ 22))) ∨ (a = 0 ∧ j = 2) ∨ a = 8 ∨ (38 ≤ a ∧ a ≤ 40) ∨ (a = 11 ∧ j = 15) ∨ (a = 10 ∧ j = 1) := by
  unfold tlS pp_S na_S at h
  omega
theorem tlS_cl {a b j : Nat} (h : tlS a b j) : clS a b j := by
  have := tlS_of h
  unfold clS
  omega
section
variable {tp : Nat × (Nat → Nat)} {w : zLw} {st : Nat} {rf : Nat → Int32} {o : Option zLu} {u : Nat} {I J X : am_I} {R R' : am_R} {E : zE} {N : Nat → Nat → Nat} {EL : Nat → Nat → Int32}
theorem told_pp (c1 : zd_c J u E) (c2 : zd_set J u E) (h5 : J 9 u 5 = nI 0) (h6 : J 9 u 6 = nI 0) : pp_at J u (zP0 E) := ⟨fun c hc => c1.2.1 c hc, c2.1, h5, h6⟩
theorem tk_c (h : rel_c (tp, w, st, rf, o) u J R) (hok : rel_ok (tp, w, st, rf, o)) (c1 : zd_c J (1 - u) E) (c2 : zd_set J (1 - u) E) (hX : am_fr tlS J X) (hR' : rR R' (1 - u) w) (p12 : pp_at X 12 (zP0 E)) (a0 : X 0 0 2 = nI 0) (n0 : nt_at X 0 0 N) (n1 : nt_at X 1 0 N) (i0 : X 11 0 15 = nI 0) (l0 : X 10 0 1 = nI 0) : rel_c ((0, tp.2), w, st, rf, some (E, 0, fun _ => zP0 E, fun _ => 0, EL, none, (0, N), (0, N))) (1 - u) X R' := by
  obtain ⟨hR, ⟨x1, x2, x3, x4, x5, x6, x7⟩, hl⟩ := h
  have hu := hR.2.1
  have zz : ∀ {a b j}, ¬ ((b = 12 ∧ (a = 9 ∨ (19 ≤ a ∧ a ≤ 22))) ∨ (a = 0 ∧ j = 2) ∨ a = 8 ∨ (38 ≤ a ∧ a ≤ 40) ∨ (a = 11 ∧ j = 15) ∨ (a = 10 ∧ j = 1)) → ¬ tlS a b j := fun {a b j} ha h => ha (tlS_of h)
  have yy : ∀ {a b j}, ¬ ((b = 12 ∧ (a = 9 ∨ (19 ≤ a ∧ a ≤ 22))) ∨ (a = 0 ∧ j = 2) ∨ a = 8 ∨ (38 ≤ a ∧ a ≤ 40) ∨ (a = 11 ∧ j = 15) ∨ (a = 10 ∧ j = 1)) → X a b j = J a b j := fun {a b j} ha => hX _ _ _ (zz ha)
  have hP := told_pp c1 c2 (x7 (1 - u) (by omega)).1 (x7 (1 - u) (by omega)).2
  have hf : ∃ f, f < 40 ∧ J 0 0 1 = nI f := by
    cases o with
    | none => exact hl.2.1
    | some l =>
      obtain ⟨E, k, PK, tk, EL, im, ⟨k0, N0⟩, k1, N1⟩ := l
      obtain ⟨-, ⟨f, lo, h6⟩, -⟩ := hl
      exact ⟨f, h6.1, h6.2.1⟩
  obtain ⟨f, f40, hf⟩ := hf
  refine ⟨hR', ⟨⟨l0, fun i hi => absurd hi (Nat.not_lt_zero _)⟩, st_fr x2 hX (fun a b => zz (by omega)), sx_fr x3 hX (fun a j _ _ => zz (by omega)), w_fr' x4 hok.2.1 hX (zz (by omega)) (zz (by omega)) (fun v h1 h2 => zz (by omega)) (fun v j h1 h2 => zz (by omega)), (yy (by omega)).trans x5, fun i hi => (yy (by omega)).trans (x6 i hi), fun v hv => ⟨(yy (by omega)).trans (x7 v hv).1, (yy (by omega)).trans (x7 v hv).2⟩⟩, ⟨fun j hj => (yy (by omega)).trans (c1.1 j hj), bs_fr c2.2 hX (fun j => zz (by omega)), fun c hc => (yy (by omega)).trans (c1.2.2.1 c hc).1, pl_fr hP hX (fun a j ha => zz (by omega)), (yy (by omega)).trans c1.2.2.2.1.1, fun i hi => ?_⟩, ⟨f, 0, f40, (yy (by omega)).trans hf, a0, fun j hj => absurd hj (Nat.not_lt_zero _), p12, fun x h1 h2 => absurd (Nat.lt_of_lt_of_le h1 h2) (Nat.lt_irrefl _), Nat.zero_le _⟩, i0, n0, n1⟩
  rw [D_at hi, D_at hi]
  exact ⟨(yy (by omega)).trans (c1.2.2.2.1.2 i hi).1, (yy (by omega)).trans (c1.2.2.2.1.2 i hi).2⟩
theorem tk_ok (hok : rel_ok (tp, w, st, rf, o)) (hE : zd_ok E) (hg : zd_g E) : rel_ok ((0, tp.2), w, st, rf, some (E, 0, fun _ => zP0 E, fun _ => 0, EL, none, (0, N), (0, N))) := by
  refine ⟨⟨Nat.zero_le _, fun i hi => absurd hi (Nat.not_lt_zero _)⟩, hok.2.1, hok.2.2.1, fun l hl => ?_⟩
  cases hl
  exact ⟨⟨hE, hg⟩, ⟨Nat.zero_le _, fun j hj => ⟨P0_I hE hg, rfl⟩, fun j hj => absurd hj (Nat.not_lt_zero _)⟩, Nat.zero_le _, fun P t e w => (by cases w), ⟨Nat.zero_le _, fun i hi => absurd hi (Nat.not_lt_zero _)⟩, ⟨Nat.zero_le _, fun i hi => absurd hi (Nat.not_lt_zero _)⟩, fun i hi => absurd hi (Nat.not_lt_zero _)⟩
def tzS : Nat → Nat → Nat → Prop := fun a b j => (zct_S a b j ∨ (a = 12 ∧ j = 2)) ∨ tmS a b j
theorem tzS_of {a b j : Nat} (h : tzS a b j) : (52 ≤ a ∧ a ≤ 60) ∨ (a = 12 ∧ (j = 2 ∨ j = 3 ∨ j = 4 ∨ (21 ≤ j ∧ j ≤ 23) ∨ j = 28 ∨ j = 29 ∨ j = 30 ∨ j = 37 ∨ j = 43 ∨ j = 49 ∨ j = 52)) := by
  unfold tzS zct_S tmS at h
  omega
theorem tk_m (h : rel_m (tp, w, st, rf, o) I) (hX : am_fr tzS I X) (l0 : X 12 0 2 = nI 0) (t1 : ∀ j, j < 6 → X 56 0 j = nI (E.2.1 j)) (t2 : ∀ c, c < 25 → X 58 0 c = nI (zd_sh E.2.2.2.1 c)) (t3 : md_at X E.2.2.1.length (zn E) (zD E.2.2.1 0) (zP0 E)) (t4 : me_at X E.2.2.2.2.length (zD E.2.2.2.2 0) (zD E.2.2.2.2 1)) (t5 : mm_at X (zP0 E)) (t6 : ∀ j, 102 ≤ j → j < 283 → X 60 0 j = nI 0) (t7 : X 12 0 30 = nI (zn E)) (t8 : X 12 0 43 = nI 0) (t9 : X 12 0 49 = nI 0) (ta : X 12 0 37 = nI 0) (tb : X 12 0 52 = nI 0) : rel_m ((0, tp.2), w, st, rf, some (E, 0, fun _ => zP0 E, fun _ => 0, EL, none, (0, N), (0, N))) X := by
  obtain ⟨⟨y1, ⟨y4, y5, y6⟩, y7, y8⟩, hl⟩ := h
  have yy : ∀ {a b j}, ¬ ((52 ≤ a ∧ a ≤ 60) ∨ (a = 12 ∧ (j = 2 ∨ j = 3 ∨ j = 4 ∨ (21 ≤ j ∧ j ≤ 23) ∨ j = 28 ∨ j = 29 ∨ j = 30 ∨ j = 37 ∨ j = 43 ∨ j = 49 ∨ j = 52))) → X a b j = I a b j := fun {a b j} ha => hX _ _ _ (fun h => ha (tzS_of h))
  obtain ⟨q1, q2, q3, q4⟩ := t5
  refine ⟨⟨⟨l0, fun i hi => absurd hi (Nat.not_lt_zero _)⟩, ⟨(yy (by omega)).trans y4, (yy (by omega)).trans y5, fun i hi => law_fr (y6 i hi) (fun a j h1 h2 => yy (by omega))⟩, (yy (by omega)).trans y7, fun i hi => (yy (by omega)).trans (y8 i hi)⟩, ⟨t1, t2, t3, t4⟩, ⟨t7, ta, fun j hj => absurd hj (Nat.not_lt_zero _), fun c hc => ?_, ?_, ?_, ?_, fun j w hj => absurd hj (by rw [Nat.zero_min]; exact Nat.not_lt_zero _)⟩, tb, ⟨t8, fun i hi => absurd hi (Nat.not_lt_zero _)⟩, ⟨t9, fun i hi => absurd hi (Nat.not_lt_zero _)⟩⟩
  · rw [Nat.zero_add, Nat.zero_add, Nat.zero_add, Nat.zero_add]; exact q1 c hc
  · rw [Nat.zero_add]; exact q3
  · rw [Nat.zero_add]; exact q4
  · rw [Nat.zero_add, Nat.zero_min]; exact t6 102 (by decide) (by decide)
end
section
variable {s : zSt} {x : Int32}
theorem op_text0 (hok : rel_ok s) : op1 101 201 [.int (nI 0)] s := by
  obtain ⟨tp, w, st, rf, o⟩ := s
  obtain ⟨v, E, rc, rm, ko, vp⟩ := zj_lread hok.1
  by_cases hv : v = -nI 1
  · subst hv
    obtain ⟨hE, hg⟩ := ko rfl
    refine ⟨nI E.2.2.1.length, ((0, tp.2), w, st, rf, some (E, 0, fun _ => zP0 E, fun _ => 0, fun _ _ => nI 0, none, (0, fun _ _ => 0), (0, fun _ _ => 0))), fun d u I R Q h => ?_, fun d I R Q hr h => ?_, tk_ok hok hE hg⟩
    · obtain ⟨hR, ⟨x1, x2, x3, -⟩, -⟩ := id h
      have hu := hR.2.1
      obtain ⟨J, g1, g2, g3⟩ := rc (d + 89) I R Q (1 - u) (by omega) (rR_ze hR) x1 x2 x3
      obtain ⟨c1, c2⟩ := g3 rfl
      have hJ : rel_c (tp, w, st, rf, o) u J R := relc_fr h hok (fr_mo g2 fun a b j w => zL_f (by omega) (by omega) w)
      have x7 := hJ.2.1.2.2.2.2.2.2 (1 - u) (by omega)
      obtain ⟨X, R', t1, t2, t3, t4, t5, t6, t7, t8, t9, ta⟩ := c_takeLunch (d := d + 88) (Q := Q) (N := fun _ _ => 0) hR (told_pp c1 c2 x7.1 x7.2)
      rw [P0_foods hE hg] at t1
      replace t1 : am_cal (d + 89) _ _ _ _ _ = _ := t1
      have r1 := (rF_11 hR.1).2.2.1
      refine ⟨X, R', 1 - u, ?_, fr_tr (fr_mo g2 fun a b j w => zL_cl w) (fr_mo t2 fun a b j w => tlS_cl w), tk_c hJ hok c1 c2 t2 t3 t5 t6 t7 t8 t9 ta, t4⟩
      rw [s101]
      simp (disch := first | omega | assumption) only [s101_0, s101_1, s101_4, s101_5, s101_8, s101_11, s101_12, s101_15, s101_16, s101_19, s101_22, s101_23, s101_24, s101_25, s101_26, s101_29, s101_30, s101_33, s101_34, s101_37, s101_38, s101_41, s101_44, s101_45, s101_48, s101_49, s101_52, s101_53, s101_54, nI_le2, nI_lt2, nI_eq2, nI_lt0, nI_0le, nI_0lt, nI_le0, nI_eq0, nI_clamp, nI_add, bu_nI, bb_0, bb_1, rf_s, rf_n, tl_s, tl_n, am_th_some, if_true, if_false, sI_eq, uI_eq, and_self, true_and, and_true, not_false_eq_true, not_true_eq_false, Nat.reduceEqDiff, Nat.reduceLeDiff, Nat.reduceLT, Nat.reduceAdd, Nat.reduceMul, Nat.reduceSub, Nat.zero_add, r1, g1, t1]
    · obtain ⟨J, g1, g2, g3⟩ := rm (d + 89) I R Q (by omega) hr h.1.1
      obtain ⟨Z, z0, z1, z2⟩ := wr J 12 0 2 (nI 0)
      have hm : zd_m Z E := zd_m_fr (g3 rfl) z2 (fun j _ => by omega) (fun a j _ _ => by omega)
      obtain ⟨X, t0, tf, t1, t2, t3, t4, t5, t6, t7, t8, t9, ta, tb⟩ := m_takeLunch (d := d + 88) (R := R) (Q := Q) hr hE hg hm
      replace t0 : am_cal (d + 89) _ _ _ _ _ = _ := t0
      have fX : am_fr tzS I X := fr_tr (fr_tr (fr_mo g2 fun a b j w => Or.inl (Or.inl w)) (fr_mo z2 fun a b j w => Or.inl (Or.inr ⟨w.1, w.2.2⟩))) (fr_mo tf fun a b j w => Or.inr w)
      refine ⟨X, Q, ?_, fr_mo fX fun a b j w => ?_, tk_m h fX ((tf _ _ _ (fun w => by unfold tmS at w; omega)).trans z1) t1 t2 t3 t4 t5 t6 t7 t8 t9 ta tb, fun _ _ _ _ => rfl⟩
      · rw [s201]
        simp (disch := first | omega | assumption) only [s201_0, s201_1, s201_4, s201_5, s201_8, s201_9, s201_12, s201_13, s201_14, s201_17, s201_18, s201_21, s201_22, s201_23, s201_24, s201_27, s201_28, s201_31, s201_32, s201_35, s201_36, s201_37, s201_40, s201_43, s201_44, s201_47, s201_48, s201_49, s201_52, s201_53, s201_54, s201_57, s201_58, s201_59, s201_62, s201_63, s201_66, s201_67, s201_68, s201_69, s201_70, nI_le2, nI_lt2, nI_eq2, nI_lt0, nI_0le, nI_0lt, nI_le0, nI_eq0, nI_clamp, nI_add, bu_nI, bb_0, bb_1, rf_s, rf_n, tl_s, tl_n, am_th_some, if_true, if_false, sI_eq, uI_eq, and_self, true_and, and_true, not_false_eq_true, not_true_eq_false, Nat.reduceEqDiff, Nat.reduceLeDiff, Nat.reduceLT, Nat.reduceAdd, Nat.reduceMul, Nat.reduceSub, Nat.zero_add, g1, z0, t0]
      · have := tzS_of w
        unfold mdS
        omega
  · refine op_q (v := -nI 1) hok (fun d u I R Q h => ?_) (fun d I R Q hr h => ?_)
    · obtain ⟨hR, ⟨x1, x2, x3, -⟩, -⟩ := h
      have hu := hR.2.1
      obtain ⟨J, g1, g2, -⟩ := rc (d + 89) I R Q (1 - u) (by omega) (rR_ze hR) x1 x2 x3
      have r1 := (rF_11 hR.1).2.2.1
      refine ⟨J, ?_, fr_mo g2 fun a b j w => ⟨zL_cl w, zL_f (by omega) (by omega) w⟩⟩
      rw [s101]
      simp (disch := first | omega | assumption) only [s101_0, s101_1, s101_4, s101_5, s101_8, s101_11, s101_12, s101_15, s101_16, s101_19, s101_22, s101_23, s101_24, s101_25, s101_26, s101_29, s101_30, s101_33, s101_34, s101_37, s101_38, s101_41, s101_44, s101_45, s101_48, s101_49, s101_52, s101_53, s101_54, nI_le2, nI_lt2, nI_eq2, nI_lt0, nI_0le, nI_0lt, nI_le0, nI_eq0, nI_clamp, nI_add, bu_nI, bb_0, bb_1, rf_s, rf_n, tl_s, tl_n, am_th_some, if_true, if_false, sI_eq, uI_eq, and_self, true_and, and_true, not_false_eq_true, not_true_eq_false, Nat.reduceEqDiff, Nat.reduceLeDiff, Nat.reduceLT, Nat.reduceAdd, Nat.reduceMul, Nat.reduceSub, Nat.zero_add, r1, g1, hv]
    · obtain ⟨J, g1, g2, -⟩ := rm (d + 89) I R Q (by omega) hr h.1.1
      refine ⟨J, ?_, fr_mo g2 fun a b j w => zct_f w, z60_fr h hok (fun j => g2 _ _ _ (fun w => by unfold zct_S at w; omega)) (g2 _ _ _ (fun w => by unfold zct_S at w; omega))⟩
      rw [s201]
      have n10 : ¬ (0 : Nat) = 1 := by decide
      simp (disch := first | omega | assumption) only [s201_0, s201_1, s201_4, s201_5, s201_8, s201_9, s201_12, s201_13, s201_14, s201_17, s201_18, s201_21, s201_22, s201_23, s201_24, s201_27, s201_28, s201_31, s201_32, s201_35, s201_36, s201_37, s201_40, s201_43, s201_44, s201_47, s201_48, s201_49, s201_52, s201_53, s201_54, s201_57, s201_58, s201_59, s201_62, s201_63, s201_66, s201_67, s201_68, s201_69, s201_70, nI_le2, nI_lt2, nI_eq2, nI_lt0, nI_0le, nI_0lt, nI_le0, nI_eq0, nI_clamp, nI_add, bu_nI, bb_0, bb_1, rf_s, rf_n, tl_s, tl_n, am_th_some, if_true, if_false, sI_eq, uI_eq, and_self, true_and, and_true, not_false_eq_true, not_true_eq_false, Nat.reduceEqDiff, Nat.reduceLeDiff, Nat.reduceLT, Nat.reduceAdd, Nat.reduceMul, Nat.reduceSub, Nat.zero_add, g1, hv, n10]
theorem op_text (hok : rel_ok s) : op1 101 201 [.int x] s := by
  by_cases e0 : x = nI 0
  · subst e0; exact op_text0 hok
  by_cases e1 : x = nI 1
  · subst e1; exact op_text1 hok
  have e0' : ¬ x = 0 := by rw [← nI_0]; exact e0
  refine op_k (v := -nI 1) hok (fun d u I R Q h => ?_) (fun d I R Q hr h => ?_)
  · rw [s101]
    simp (disch := first | omega | assumption) only [s101_0, s101_1, s101_4, s101_5, s101_8, s101_11, s101_12, s101_15, s101_16, s101_19, s101_22, s101_23, s101_24, s101_25, s101_26, s101_29, s101_30, s101_33, s101_34, s101_37, s101_38, s101_41, s101_44, s101_45, s101_48, s101_49, s101_52, s101_53, s101_54, nI_le2, nI_lt2, nI_eq2, nI_lt0, nI_0le, nI_0lt, nI_le0, nI_eq0, nI_clamp, nI_add, bu_nI, bb_0, bb_1, rf_s, rf_n, tl_s, tl_n, am_th_some, if_true, if_false, sI_eq, uI_eq, and_self, true_and, and_true, not_false_eq_true, not_true_eq_false, Nat.reduceEqDiff, Nat.reduceLeDiff, Nat.reduceLT, Nat.reduceAdd, Nat.reduceMul, Nat.reduceSub, Nat.zero_add, e0', e1]
  · rw [s201]
    simp (disch := first | omega | assumption) only [s201_0, s201_1, s201_4, s201_5, s201_8, s201_9, s201_12, s201_13, s201_14, s201_17, s201_18, s201_21, s201_22, s201_23, s201_24, s201_27, s201_28, s201_31, s201_32, s201_35, s201_36, s201_37, s201_40, s201_43, s201_44, s201_47, s201_48, s201_49, s201_52, s201_53, s201_54, s201_57, s201_58, s201_59, s201_62, s201_63, s201_66, s201_67, s201_68, s201_69, s201_70, nI_le2, nI_lt2, nI_eq2, nI_lt0, nI_0le, nI_0lt, nI_le0, nI_eq0, nI_clamp, nI_add, bu_nI, bb_0, bb_1, rf_s, rf_n, tl_s, tl_n, am_th_some, if_true, if_false, sI_eq, uI_eq, and_self, true_and, and_true, not_false_eq_true, not_true_eq_false, Nat.reduceEqDiff, Nat.reduceLeDiff, Nat.reduceLT, Nat.reduceAdd, Nat.reduceMul, Nat.reduceSub, Nat.zero_add, e0', e1]
end
