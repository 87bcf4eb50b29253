/-! HABITS. -/
def hmi (c : Prop) [Decidable c] (H : zH) : zH := if c then hmx H else H
def hbs (T : pl_T) (full st : Nat) (S : zH × Int64) : zH × Int64 := (hps T (sp_hb (sp_nx2 (sp_nx2 S.2)) % (full + 1)) (hmi (sp_hb (sp_nx2 S.2) % 10 < st) (hkp S.1)), sp_nx2 (sp_nx2 S.2))
def hbn (T : pl_T) (full st : Nat) (S : zH × Int64) (i : Nat) : zH × Int64 := am_fold (fun S _ => hbs T full st S) S i
section
variable {n b q d full st u : Nat} {I J : am_I} {R : am_R} {Q : am_Q} {T : pl_T} {H : zH} {S : zH × Int64} {x : Int64}
theorem hmi_ok {c : Prop} [Decidable c] (hb : 1 ≤ b ∧ b ≤ 99) (h : hOk n b H) (hs : hSt H) : hOk n b (hmi c H) ∧ hSt (hmi c H) ∧ hTm (hmi c H) = hTm H := by
  unfold hmi
  by_cases q : c
  · rw [if_pos q]; exact ⟨hmx_ok hb h, hs, rfl⟩
  · rw [if_neg q]; exact ⟨h, hs, rfl⟩
theorem hbn_ok (hb : 1 ≤ b ∧ b ≤ 99) (hk : kT T n b) (hT : tT T) (h : hOk n b S.1) : ∀ i, hOk n b (hbn T full st S i).1 ∧ hTm (hbn T full st S i).1 = hTm S.1 + i := by
  intro i
  induction i with
  | zero => exact ⟨h, rfl⟩
  | succ i ih =>
    have e : hbn T full st S (i + 1) = hbs T full st (hbn T full st S i) := rfl
    rw [e]
    obtain ⟨o1, o2, o3⟩ := hmi_ok (c := sp_hb (sp_nx2 (hbn T full st S i).2) % 10 < st) hb (hkp_ok ih.1) (hkp_st ih.1)
    refine ⟨hps_ok hk hT o1 o2, ?_⟩
    show hTm (hps _ _ _) = _
    rw [hps_tm, o3, hkp_tm ih.1, ih.2]
    rfl
theorem c_habL (hr : pa_R R) (hkk : kk_R R u) (hT : cT T n b R Q I) (hk : kT T n b) (hT4 : tT T) (hb : 1 ≤ b ∧ b ≤ 99) (hn2 : n ≤ 25) (hfull : full ≤ 9) (hov : I 14 u 2 = nI full) (hst : I 11 0 6 = nI st) (hst9 : st ≤ 9) (h : hOk n b H) (hI : hcA I H) {N : Nat} (hN : hTm H + N ≤ 9999) {l2 : Value} : ∃ J, am_ev (d + 10) 122 40 [.ref (am_mk 11 0), .int (nI N), l2, am_J, .long x, am_J, .int (nI 0)] [] I R Q = some (some (.int (nI (hTm H + N))), J, R, Q) ∧ am_fr hC I J ∧ hcA J (hbn T full st (H, x) N).1 := by
  refine loop_inv (f := fun (W : am_I × Int64) i => am_ev (d + 10) 122 40 [.ref (am_mk 11 0), .int (nI N), l2, am_J, .long W.2, am_J, .int (nI i)] [] W.1 R Q) (Inv := fun i W => am_fr hC I W.1 ∧ hcA W.1 (hbn T full st (H, x) i).1 ∧ W.2 = (hbn T full st (H, x) i).2) (Post := fun y => ∃ J, y = some (some (.int (nI (hTm H + N))), J, R, Q) ∧ am_fr hC I J ∧ hcA J (hbn T full st (H, x) N).1) (n := N) ?_ ?_ (Nat.zero_le _) (a := (I, x)) ⟨fr_rf, hI, rfl⟩
  · intro i W hi ⟨f1, f2, f3⟩
    left
    obtain ⟨J, z⟩ := W
    dsimp only at f1 f2 f3
    obtain ⟨o1, o2⟩ := hbn_ok (full := full) (st := st) (S := (H, x)) hb hk hT4 h i
    have hs : hbn T full st (H, x) (i + 1) = hbs T full st (hbn T full st (H, x) i) := rfl
    generalize hbn T full st (H, x) i = S at f2 f3 o1 o2 hs
    subst f3
    have o2 : hTm S.1 = hTm H + i := o2
    have h1 : ¬ N ≤ i := by omega
    obtain ⟨J1, a1, a2, a3⟩ := ck (d := d + 8) (Q := Q) hr o1 f2
    obtain ⟨m1, m2, m3⟩ := hmi_ok (c := sp_hb (sp_nx2 S.2) % 10 < st) hb (hkp_ok o1) (hkp_st o1)
    have n1 := c_nextx (d := d + 9) (I := J1) (R := R) (Q := Q) (x := S.2)
    have w1 := c_drawn (d := d + 9) (I := J1) (R := R) (Q := Q) (x := sp_nx2 S.2) (k := 10) (by decide) (by decide)
    have e6 : J1 11 0 6 = nI st := ((fr_tr f1 a2) _ _ _ (hC_1 (by decide))).trans hst
    have l10 : sp_hb (sp_nx2 S.2) % 10 < 10 := Nat.mod_lt _ (by decide)
    have lq : sp_hb (sp_nx2 (sp_nx2 S.2)) % (full + 1) < full + 1 := Nat.mod_lt _ (by omega)
    have key : ∀ J2, am_fr hC I J2 → hcA J2 (hmi (sp_hb (sp_nx2 S.2) % 10 < st) (hkp S.1)) → ∃ W' : am_I × Int64, am_ev (d + 10) 122 85 [.ref (am_mk 11 0), .int (nI N), l2, am_J, .long (sp_nx2 S.2), am_J, .int (nI i)] [] J2 R Q = am_ev (d + 10) 122 40 [.ref (am_mk 11 0), .int (nI N), l2, am_J, .long W'.2, am_J, .int (nI (i + 1))] [] W'.1 R Q ∧ am_fr hC I W'.1 ∧ hcA W'.1 (hbs T full st S).1 ∧ W'.2 = (hbs T full st S).2 := by
      intro J2 g1 g2
      have n2 := c_nextx (d := d + 9) (I := J2) (R := R) (Q := Q) (x := sp_nx2 S.2)
      have w2 := c_drawn (d := d + 9) (I := J2) (R := R) (Q := Q) (x := sp_nx2 (sp_nx2 S.2)) (k := full + 1) (by omega) (by omega)
      have ov : J2 14 u 2 = nI full := (g1 _ _ _ (fun w => by unfold hC hc_S kk_S at w; omega)).trans hov
      have hk0 := hkk.1
      have hk3 := hkk.2.2.2.1
      have hF : am_cal (d + 9) 107 [.ref (am_mk 11 0)] J2 R Q = some (some (.int (nI full)), J2, R, Q) := by
        rw [s107]
        simp (disch := first | omega | assumption) only [s107_0, s107_1, s107_4, s107_7, s107_10, s107_11, s107_12, nI_le2, nI_lt2, nI_eq2, nI_lt0, nI_0le, nI_0lt, nI_le0, nI_eq0, nI_clamp, nI_add, bu_nI, bb_0, bb_1, rf_s, rf_n, tl_s, tl_n, am_th_some, if_true, if_false, sI_eq, uI_eq, and_self, true_and, and_true, not_false_eq_true, not_true_eq_false, Nat.reduceEqDiff, Nat.reduceLeDiff, Nat.reduceLT, Nat.reduceAdd, Nat.reduceMul, Nat.reduceSub, Nat.zero_add, hr.1, hk0, hk3, ov]
      obtain ⟨J3, b1, b2, b3⟩ := cp (d := d) (Q := Q) (q := sp_hb (sp_nx2 (sp_nx2 S.2)) % (full + 1)) hr (cT_fr hT (fr_mo g1 fun a b j w => hC_ev w)) hk hT4 hb hn2 m1 m2 (by rw [m3, hkp_tm o1, o2]; omega) (by omega) g2
      refine ⟨(J3, sp_nx2 (sp_nx2 S.2)), ?_, fr_tr g1 b2, b3, rfl⟩
      simp (disch := first | omega | assumption) only [s122_0, s122_1, s122_4, s122_7, s122_8, s122_9, s122_11, s122_14, s122_17, s122_18, s122_21, s122_24, s122_25, s122_26, s122_29, s122_32, s122_33, s122_34, s122_35, s122_37, s122_38, s122_42, s122_43, s122_46, s122_47, s122_50, s122_51, s122_54, s122_57, s122_59, s122_62, s122_64, s122_66, s122_68, s122_71, s122_72, s122_75, s122_78, s122_79, s122_82, s122_85, s122_87, s122_90, s122_92, s122_93, s122_95, s122_96, s122_99, s122_100, s122_101, s122_104, s122_107, s122_110, s122_113, s122_114, s122_117, s122_120, nI_le2, nI_lt2, nI_eq2, nI_lt0, nI_0le, nI_0lt, nI_le0, nI_eq0, nI_clamp, nI_add, bu_nI, bb_0, bb_1, rf_s, rf_n, tl_s, tl_n, am_th_some, if_true, if_false, sI_eq, uI_eq, and_self, true_and, and_true, not_false_eq_true, not_true_eq_false, Nat.reduceEqDiff, Nat.reduceLeDiff, Nat.reduceLT, Nat.reduceAdd, Nat.reduceMul, Nat.reduceSub, Nat.zero_add, n2, w2, hF, b1]
    rw [hs]
    by_cases c : sp_hb (sp_nx2 S.2) % 10 < st
    · obtain ⟨J2, x1, x2, x3⟩ := cx (d := d + 7) (R := R) (Q := Q) (hr.2.2.2.2.2.2.1 12 (by decide)) (hkp_ok o1) a3
      obtain ⟨W', k1, k2⟩ := key J2 (fr_tr f1 (fr_tr a2 x2)) (by rw [hmi, if_pos c]; exact x3)
      refine ⟨W', ?_, k2⟩
      have c' : ¬ st ≤ sp_hb (sp_nx2 S.2) % 10 := Nat.not_le.mpr c
      rw [s122_40, ← k1]
      simp (disch := first | omega | assumption) only [s122_0, s122_1, s122_4, s122_7, s122_8, s122_9, s122_11, s122_14, s122_17, s122_18, s122_21, s122_24, s122_25, s122_26, s122_29, s122_32, s122_33, s122_34, s122_35, s122_37, s122_38, s122_42, s122_43, s122_46, s122_47, s122_50, s122_51, s122_54, s122_57, s122_59, s122_62, s122_64, s122_66, s122_68, s122_71, s122_72, s122_75, s122_78, s122_79, s122_82, s122_87, s122_90, s122_92, s122_93, s122_95, s122_96, s122_99, s122_100, s122_101, s122_104, s122_107, s122_110, s122_113, s122_114, s122_117, s122_120, nI_le2, nI_lt2, nI_eq2, nI_lt0, nI_0le, nI_0lt, nI_le0, nI_eq0, nI_clamp, nI_add, bu_nI, bb_0, bb_1, rf_s, rf_n, tl_s, tl_n, am_th_some, if_true, if_false, sI_eq, uI_eq, and_self, true_and, and_true, not_false_eq_true, not_true_eq_false, Nat.reduceEqDiff, Nat.reduceLeDiff, Nat.reduceLT, Nat.reduceAdd, Nat.reduceMul, Nat.reduceSub, Nat.zero_add, h1, hr.2.1, hr.2.2.2.1, a1, n1, w1, e6, c, c', x1]
    · obtain ⟨W', k1, k2⟩ := key J1 (fr_tr f1 a2) (by rw [hmi, if_neg c]; exact a3)
      refine ⟨W', ?_, k2⟩
      have c' : st ≤ sp_hb (sp_nx2 S.2) % 10 := Nat.not_lt.mp c
      rw [s122_40, ← k1]
      simp (disch := first | omega | assumption) only [s122_0, s122_1, s122_4, s122_7, s122_8, s122_9, s122_11, s122_14, s122_17, s122_18, s122_21, s122_24, s122_25, s122_26, s122_29, s122_32, s122_33, s122_34, s122_35, s122_37, s122_38, s122_42, s122_43, s122_46, s122_47, s122_50, s122_51, s122_54, s122_57, s122_59, s122_62, s122_64, s122_66, s122_68, s122_71, s122_72, s122_75, s122_78, s122_79, s122_82, s122_87, s122_90, s122_92, s122_93, s122_95, s122_96, s122_99, s122_100, s122_101, s122_104, s122_107, s122_110, s122_113, s122_114, s122_117, s122_120, nI_le2, nI_lt2, nI_eq2, nI_lt0, nI_0le, nI_0lt, nI_le0, nI_eq0, nI_clamp, nI_add, bu_nI, bb_0, bb_1, rf_s, rf_n, tl_s, tl_n, am_th_some, if_true, if_false, sI_eq, uI_eq, and_self, true_and, and_true, not_false_eq_true, not_true_eq_false, Nat.reduceEqDiff, Nat.reduceLeDiff, Nat.reduceLT, Nat.reduceAdd, Nat.reduceMul, Nat.reduceSub, Nat.zero_add, h1, hr.2.1, hr.2.2.2.1, a1, n1, w1, e6, c, c']
  · intro W ⟨f1, f2, f3⟩
    obtain ⟨J, z⟩ := W
    dsimp only at f1 f2 f3
    refine ⟨J, ?_, f1, f2⟩
    obtain ⟨o1, o2⟩ := hbn_ok (full := full) (st := st) (S := (H, x)) hb hk hT4 h N
    obtain ⟨f, lo, f2⟩ := f2
    have e5 : J 9 12 5 = nI (hTm H + N) := by
      have o2' : hTm (hbn T full st (H, x) N).1 = hTm H + N := o2
      rw [← o2']; exact f2.2.2.2.2.1.2.2.1.trans (o1.2.1 _ (Nat.le_refl _)).2
    rw [s122_40]
    simp (disch := first | omega | assumption) only [s122_0, s122_1, s122_4, s122_7, s122_8, s122_9, s122_11, s122_14, s122_17, s122_18, s122_21, s122_24, s122_25, s122_26, s122_29, s122_32, s122_33, s122_34, s122_35, s122_37, s122_38, s122_42, s122_43, s122_46, s122_47, s122_50, s122_51, s122_54, s122_57, s122_59, s122_62, s122_64, s122_66, s122_68, s122_71, s122_72, s122_75, s122_78, s122_79, s122_82, s122_85, s122_87, s122_90, s122_92, s122_93, s122_95, s122_96, s122_99, s122_100, s122_101, s122_104, s122_107, s122_110, s122_113, s122_114, s122_117, s122_120, nI_le2, nI_lt2, nI_eq2, nI_lt0, nI_0le, nI_0lt, nI_le0, nI_eq0, nI_clamp, nI_add, bu_nI, bb_0, bb_1, rf_s, rf_n, tl_s, tl_n, am_th_some, if_true, if_false, sI_eq, uI_eq, and_self, true_and, and_true, not_false_eq_true, not_true_eq_false, Nat.reduceEqDiff, Nat.reduceLeDiff, Nat.reduceLT, Nat.reduceAdd, Nat.reduceMul, Nat.reduceSub, Nat.zero_add, Nat.le_refl, hr.2.1, e5]
theorem m_habL (hr : mm_R R) (hT : ∀ Q, mT T n b R Q I) (hk : kT T n b) (hT4 : tT T) (hb : 1 ≤ b ∧ b ≤ 99) (hn2 : n ≤ 25) (hfull : full ≤ 9) (hov : I 56 0 2 = nI full) (hst : I 12 0 34 = nI st) (hst9 : st ≤ 9) (h : hOk n b H) (hI : hmA I n H) {N : Nat} (hN' : hTm H + N ≤ 9999) {l2 : Value} (hQ : Q 12 0 38 = x) : ∃ J Q', am_ev (d + 10) 234 42 [.ref (am_mk 12 0), .int (nI N), l2, am_J, .int (nI 0)] [] I R Q = some (some (.int (nI (hTm H + N))), J, R, Q') ∧ am_fr hN I J ∧ hmA J n (hbn T full st (H, x) N).1 ∧ ∀ a b j, ¬ (a = 12 ∧ b = 0 ∧ j = 38) → Q' a b j = Q a b j := by
  refine loop_inv (f := fun (W : am_I × am_Q) i => am_ev (d + 10) 234 42 [.ref (am_mk 12 0), .int (nI N), l2, am_J, .int (nI i)] [] W.1 R W.2) (Inv := fun i W => am_fr hN I W.1 ∧ hmA W.1 n (hbn T full st (H, x) i).1 ∧ W.2 12 0 38 = (hbn T full st (H, x) i).2 ∧ ∀ a b j, ¬ (a = 12 ∧ b = 0 ∧ j = 38) → W.2 a b j = Q a b j) (Post := fun y => ∃ J Q', y = some (some (.int (nI (hTm H + N))), J, R, Q') ∧ am_fr hN I J ∧ hmA J n (hbn T full st (H, x) N).1 ∧ ∀ a b j, ¬ (a = 12 ∧ b = 0 ∧ j = 38) → Q' a b j = Q a b j) (n := N) ?_ ?_ (Nat.zero_le _) (a := (I, Q)) ⟨fr_rf, hI, hQ, fun _ _ _ _ => rfl⟩
  · intro i W hi ⟨f1, f2, f3, f4⟩
    left
    obtain ⟨J, Q0⟩ := W
    dsimp only at f1 f2 f3 f4
    obtain ⟨o1, o2⟩ := hbn_ok (full := full) (st := st) (S := (H, x)) hb hk hT4 h i
    have hs : hbn T full st (H, x) (i + 1) = hbs T full st (hbn T full st (H, x) i) := rfl
    generalize hbn T full st (H, x) i = S at f2 f3 o1 o2 hs
    have o2 : hTm S.1 = hTm H + i := o2
    have h1 : ¬ N ≤ i := by omega
    obtain ⟨J1, a1, a2, a3⟩ := mk (d := d + 9) (Q := Q0) hr o1 f2
    obtain ⟨m1, m2, m3⟩ := hmi_ok (c := sp_hb (sp_nx2 S.2) % 10 < st) hb (hkp_ok o1) (hkp_st o1)
    obtain ⟨Q1, w1, w2, w3⟩ := m_draw (d := d + 9) (I := J1) (R := R) (k := 10) (by decide) (by decide) f3
    have e6 : J1 12 0 34 = nI st := ((fr_tr f1 a2) _ _ _ (fun w => by unfold hN at w; omega)).trans hst
    have l10 : sp_hb (sp_nx2 S.2) % 10 < 10 := Nat.mod_lt _ (by decide)
    have lq : sp_hb (sp_nx2 (sp_nx2 S.2)) % (full + 1) < full + 1 := Nat.mod_lt _ (by omega)
    have key : ∀ J2, am_fr hN I J2 → hmA J2 n (hmi (sp_hb (sp_nx2 S.2) % 10 < st) (hkp S.1)) → ∃ W' : am_I × am_Q, am_ev (d + 10) 234 69 [.ref (am_mk 12 0), .int (nI N), l2, am_J, .int (nI i)] [] J2 R Q1 = am_ev (d + 10) 234 42 [.ref (am_mk 12 0), .int (nI N), l2, am_J, .int (nI (i + 1))] [] W'.1 R W'.2 ∧ am_fr hN I W'.1 ∧ hmA W'.1 n (hbs T full st S).1 ∧ W'.2 12 0 38 = (hbs T full st S).2 ∧ ∀ a b j, ¬ (a = 12 ∧ b = 0 ∧ j = 38) → W'.2 a b j = Q a b j := by
      intro J2 g1 g2
      have ov : J2 56 0 2 = nI full := (g1 _ _ _ (fun w => by unfold hN at w; omega)).trans hov
      obtain ⟨Q2, v1, v2, v3⟩ := m_draw (d := d + 9) (I := J2) (R := R) (k := full + 1) (by omega) (by omega) w2
      obtain ⟨J3, b1, b2, b3⟩ := mp (d := d) (Q := Q2) (q := sp_hb (sp_nx2 (sp_nx2 S.2)) % (full + 1)) hr (mT_fr (hT Q2) (fr_mo g1 fun a b j w => hN_ev w)) hk hb hn2 m1 (by rw [m3, hkp_tm o1, o2]; omega) (by omega) g2
      refine ⟨(J3, Q2), ?_, fr_tr g1 b2, b3, v2, fun a b j hh => (v3 a b j hh).trans ((w3 a b j hh).trans (f4 a b j hh))⟩
      simp (disch := first | omega | assumption) only [s234_0, s234_1, s234_4, s234_7, s234_8, s234_9, s234_11, s234_14, s234_17, s234_18, s234_21, s234_23, s234_24, s234_25, s234_26, s234_29, s234_32, s234_33, s234_34, s234_35, s234_36, s234_39, s234_40, s234_44, s234_45, s234_48, s234_49, s234_52, s234_53, s234_55, s234_58, s234_59, s234_62, s234_65, s234_66, s234_69, s234_70, s234_71, s234_72, s234_75, s234_76, s234_77, s234_78, s234_79, s234_82, s234_85, s234_88, s234_91, s234_92, s234_95, s234_97, s234_98, nI_le2, nI_lt2, nI_eq2, nI_lt0, nI_0le, nI_0lt, nI_le0, nI_eq0, nI_clamp, nI_add, bu_nI, bb_0, bb_1, rf_s, rf_n, tl_s, tl_n, am_th_some, if_true, if_false, sI_eq, uI_eq, and_self, true_and, and_true, not_false_eq_true, not_true_eq_false, Nat.reduceEqDiff, Nat.reduceLeDiff, Nat.reduceLT, Nat.reduceAdd, Nat.reduceMul, Nat.reduceSub, Nat.zero_add, mr24 hr, ov, v1, b1]
    rw [hs]
    by_cases c : sp_hb (sp_nx2 S.2) % 10 < st
    · obtain ⟨J2, x1, x2, x3⟩ := mx (d := d + 4) (Q := Q1) hb hr hn2 (hkp_ok o1) a3
      obtain ⟨W', k1, k2⟩ := key J2 (fr_tr f1 (fr_tr a2 x2)) (by rw [hmi, if_pos c]; exact x3)
      refine ⟨W', ?_, k2⟩
      have c' : ¬ st ≤ sp_hb (sp_nx2 S.2) % 10 := Nat.not_le.mpr c
      rw [s234_42, ← k1]
      simp (disch := first | omega | assumption) only [s234_0, s234_1, s234_4, s234_7, s234_8, s234_9, s234_11, s234_14, s234_17, s234_18, s234_21, s234_23, s234_24, s234_25, s234_26, s234_29, s234_32, s234_33, s234_34, s234_35, s234_36, s234_39, s234_40, s234_44, s234_45, s234_48, s234_49, s234_52, s234_53, s234_55, s234_58, s234_59, s234_62, s234_65, s234_66, s234_70, s234_71, s234_72, s234_75, s234_76, s234_77, s234_78, s234_79, s234_82, s234_85, s234_88, s234_91, s234_92, s234_95, s234_97, s234_98, nI_le2, nI_lt2, nI_eq2, nI_lt0, nI_0le, nI_0lt, nI_le0, nI_eq0, nI_clamp, nI_add, bu_nI, bb_0, bb_1, rf_s, rf_n, tl_s, tl_n, am_th_some, if_true, if_false, sI_eq, uI_eq, and_self, true_and, and_true, not_false_eq_true, not_true_eq_false, Nat.reduceEqDiff, Nat.reduceLeDiff, Nat.reduceLT, Nat.reduceAdd, Nat.reduceMul, Nat.reduceSub, Nat.zero_add, h1, a1, w1, e6, c, c', x1]
    · obtain ⟨W', k1, k2⟩ := key J1 (fr_tr f1 a2) (by rw [hmi, if_neg c]; exact a3)
      refine ⟨W', ?_, k2⟩
      have c' : st ≤ sp_hb (sp_nx2 S.2) % 10 := Nat.not_lt.mp c
      rw [s234_42, ← k1]
      simp (disch := first | omega | assumption) only [s234_0, s234_1, s234_4, s234_7, s234_8, s234_9, s234_11, s234_14, s234_17, s234_18, s234_21, s234_23, s234_24, s234_25, s234_26, s234_29, s234_32, s234_33, s234_34, s234_35, s234_36, s234_39, s234_40, s234_44, s234_45, s234_48, s234_49, s234_52, s234_53, s234_55, s234_58, s234_59, s234_62, s234_65, s234_66, s234_70, s234_71, s234_72, s234_75, s234_76, s234_77, s234_78, s234_79, s234_82, s234_85, s234_88, s234_91, s234_92, s234_95, s234_97, s234_98, nI_le2, nI_lt2, nI_eq2, nI_lt0, nI_0le, nI_0lt, nI_le0, nI_eq0, nI_clamp, nI_add, bu_nI, bb_0, bb_1, rf_s, rf_n, tl_s, tl_n, am_th_some, if_true, if_false, sI_eq, uI_eq, and_self, true_and, and_true, not_false_eq_true, not_true_eq_false, Nat.reduceEqDiff, Nat.reduceLeDiff, Nat.reduceLT, Nat.reduceAdd, Nat.reduceMul, Nat.reduceSub, Nat.zero_add, h1, a1, w1, e6, c, c']
  · intro W ⟨f1, f2, f3, f4⟩
    obtain ⟨J, Q0⟩ := W
    dsimp only at f1 f2 f3 f4
    refine ⟨J, Q0, ?_, f1, f2, f4⟩
    obtain ⟨o1, o2⟩ := hbn_ok (full := full) (st := st) (S := (H, x)) hb hk hT4 h N
    have o2' : hTm (hbn T full st (H, x) N).1 = hTm H + N := o2
    have e5 : J 60 0 101 = nI (hTm H + N) := by rw [← o2']; have := f2.2.2.2.2.1; rw [Nat.zero_add] at this; exact this.trans (o1.2.1 _ (Nat.le_refl _)).2
    rw [s234_42]
    simp (disch := first | omega | assumption) only [s234_0, s234_1, s234_4, s234_7, s234_8, s234_9, s234_11, s234_14, s234_17, s234_18, s234_21, s234_23, s234_24, s234_25, s234_26, s234_29, s234_32, s234_33, s234_34, s234_35, s234_36, s234_39, s234_40, s234_44, s234_45, s234_48, s234_49, s234_52, s234_53, s234_55, s234_58, s234_59, s234_62, s234_65, s234_66, s234_69, s234_70, s234_71, s234_72, s234_75, s234_76, s234_77, s234_78, s234_79, s234_82, s234_85, s234_88, s234_91, s234_92, s234_95, s234_97, s234_98, nI_le2, nI_lt2, nI_eq2, nI_lt0, nI_0le, nI_0lt, nI_le0, nI_eq0, nI_clamp, nI_add, bu_nI, bb_0, bb_1, rf_s, rf_n, tl_s, tl_n, am_th_some, if_true, if_false, sI_eq, uI_eq, and_self, true_and, and_true, not_false_eq_true, not_true_eq_false, Nat.reduceEqDiff, Nat.reduceLeDiff, Nat.reduceLT, Nat.reduceAdd, Nat.reduceMul, Nat.reduceSub, Nat.zero_add, Nat.le_refl, mr31 hr, e5]
end
