/-! LUNCH texts: ITEMS; the class. -/
def ze_R (R : am_R) (u : Nat) : Prop := tc_R R ∧ R 7 0 0 = some (am_mk 10 0) ∧ R 7 0 1 = some (am_mk 6 u) ∧ R 7 0 2 = some (am_mk 23 0) ∧ R 7 0 3 = some (am_mk 24 0) ∧ R 7 0 4 = some (am_mk 25 0) ∧ R 7 0 5 = some (am_mk 26 0) ∧ R 6 u 0 = some (am_mk 14 u) ∧ R 6 u 1 = some (am_mk 15 u) ∧ R 6 u 2 = some (am_mk 16 u) ∧ R 6 u 3 = some (am_mk 17 u) ∧ R 6 u 4 = some (am_mk 18 u) ∧ R 6 u 6 = some (am_mk 9 u) ∧ pp_R R u
def zi_at (I : am_I) (L : Nat) (B : Nat → Nat) (a k G : Nat) (V : Nat → Nat) : Prop := tc_at I L B ∧ st_at I ∧ sx_at I ∧ I 10 0 2 = nI a ∧ ∀ j, j < zM k → I 24 0 (zF k + j) = nI (V j) ∧ I 25 0 (zF k + j) = if G.testBit j = true then nI 1 else nI 0
def zi_S : Nat → Nat → Nat → Prop := fun a _ j => (a = 10 ∧ j = 2) ∨ a = 24 ∨ a = 25
def zi_up (V : Nat → Nat) (j v : Nat) : Nat → Nat := fun i => if i = j then v else V i
section
variable {d L a k G u j : Nat} {I : am_I} {R : am_R} {Q : am_Q} {B : Nat → Nat} {V : Nat → Nat}
theorem zi_t {J : am_I} {a' : Nat} (h : zi_at I L B a k G V) (hf : am_fr tc_S I J) (h2 : J 10 0 2 = nI a') : am_fr zi_S I J ∧ zi_at J L B a' k G V := ⟨fr_mo hf fun a b j w => Or.inl w, tc_fr h.1 hf (fun w => by unfold tc_S at w; omega) (fun j w => by unfold tc_S at w; omega), st_fr h.2.1 hf (fun a b w => by unfold tc_S at w; omega), sx_fr h.2.2.1 hf (fun a j _ _ w => by unfold tc_S at w; omega), h2, fun j hj => ⟨(hf _ _ _ (fun w => by unfold tc_S at w; omega)).trans (h.2.2.2.2 j hj).1, (hf _ _ _ (fun w => by unfold tc_S at w; omega)).trans (h.2.2.2.2 j hj).2⟩⟩
theorem zi_sign (hr : ze_R R u) (hk : tp_ok L B) (h : zi_at I L B a k G V) (haL : a ≤ L) : ∃ J, am_cal (d + 1) 90 [.ref (am_mk 10 0)] I R Q = some (some (.int (nI (sp_hr L B (sp_sk L B a)))), J, R, Q) ∧ am_fr zi_S I J ∧ zi_at J L B (sp_sk L B a) k G V := by
  obtain ⟨J, g1, g2, g3⟩ := c_sign (d := d) (Q := Q) hr.1 hk h.1 h.2.2.2.1 haL
  exact ⟨J, g1, zi_t h g2 g3⟩
theorem zi_pass (hk : tp_ok L B) (h : zi_at I L B a k G V) (haL : a < L) : ∃ J, am_cal d 92 [.ref (am_mk 10 0)] I R Q = some (none, J, R, Q) ∧ am_fr zi_S I J ∧ zi_at J L B (a + 1) k G V := by
  obtain ⟨J, g1, g2, g3⟩ := c_tpass (d := d) (R := R) (Q := Q) h.1 hk.1 h.2.2.2.1 (by omega)
  rw [if_pos haL] at g3
  exact ⟨J, g1, zi_t h g2 g3⟩
theorem c_charAt7 (hs : st_at I) {i : Nat} (hi : i < 14) : am_cal d 901 [.ref (am_mk 100 7), .int (nI i)] I R Q = some (some (.int (nI ((am_strs.getD 7 []).getD i 0))), I, R, Q) := by
  have h1 : am_mk 100 7 % 128 = 100 := am_mk_kd (by decide)
  have h2 : am_mk 100 7 / 128 = 7 := am_mk_in (by decide)
  show (am_ext 901 [.ref (am_mk 100 7), .int (nI i)] I).map _ = _
  rw [am_ext, h1, h2, if_neg (by decide), if_pos ⟨rfl, rfl, by rw [strs_8]; decide, nI_pos' (by omega), by rw [nI_clamp (by omega)]; exact hi⟩, nI_clamp (by omega), hs 7 i (by decide) hi]
  rfl
theorem c_length7 : am_cal d 902 [.ref (am_mk 100 7)] I R Q = some (some (.int (nI 14)), I, R, Q) := by
  have h1 : am_mk 100 7 % 128 = 100 := am_mk_kd (by decide)
  have h2 : am_mk 100 7 / 128 = 7 := am_mk_in (by decide)
  unfold am_cal am_cl
  rw [if_neg (by decide), if_neg (by decide), am_ext, h1, h2, if_pos ⟨rfl, rfl, by rw [strs_8]; decide⟩]
  rfl
theorem c_itemAt (hr : ze_R R u) (hk : tp_ok L B) (h : zi_at I L B a k G V) (haL : a ≤ L) (hk4 : k < 4) : ∃ J, am_cal (d + 2) 63 [.ref (am_mk 7 0), .int (nI (zF k)), .int (nI (zF k + zM k))] I R Q = some (some (.int (if zit k (sp_hr L B (sp_sk L B a)) < zM k then nI (zF k + zit k (sp_hr L B (sp_sk L B a))) else -nI 1)), J, R, Q) ∧ am_fr zi_S I J ∧ zi_at J L B (sp_sk L B a) k G V := by
  obtain ⟨J, g1, f1, h1⟩ := zi_sign (d := d) (Q := Q) hr hk h haL
  have hx := hr_le (a := sp_sk L B a) hk
  obtain ⟨m1, m2, m3, m4⟩ := zM_F k hk4
  have r0 := hr.2.1
  have r4 := hr.2.2.2.2.2.1
  refine ⟨J, ?_, f1, h1⟩
  generalize sp_hr L B (sp_sk L B a) = x at g1 hx
  have loop : am_ev (d + 2) 63 11 [.ref (am_mk 7 0), .int (nI (zF k)), .int (nI (zF k + zM k)), .int (nI x), .int (nI (zF k + 0))] [] J R Q = some (some (.int (if zit k x < zM k then nI (zF k + zit k x) else -nI 1)), J, R, Q) := by
    refine loop_inv (f := fun (_ : Unit) c => am_ev (d + 2) 63 11 [.ref (am_mk 7 0), .int (nI (zF k)), .int (nI (zF k + zM k)), .int (nI x), .int (nI (zF k + c))] [] J R Q) (Inv := fun c _ => ∀ i, i < c → ¬ zit k x = i) (Post := fun y => y = some (some (.int (if zit k x < zM k then nI (zF k + zit k x) else -nI 1)), J, R, Q)) (n := zM k) ?_ ?_ (Nat.zero_le _) (a := ()) (fun i hi => absurd hi (Nat.not_lt_zero _))
    · intro c _ hc hinv
      have q1 : ¬ zF k + zM k ≤ zF k + c := by omega
      have q2 : ¬ 14 ≤ zF k + c := by omega
      have gc := c_charAt7 (d := d + 1) (R := R) (Q := Q) (i := zF k + c) h1.2.1 (by omega)
      have gl := c_length7 (d := d + 1) (I := J) (R := R) (Q := Q)
      have hz := zit_s k hk4 c hc x (by omega)
      have hy := (strs_lt 7 (by decide) (zF k + c) (show _ < 14 by omega)).2
      generalize (am_strs.getD 7 []).getD (zF k + c) 0 = y at gc hz hy
      by_cases e : zit k x = c
      · right
        have e2 := hz.mpr e
        subst e2
        rw [e, if_pos hc, s63_11]
        simp (disch := first | omega | assumption) only [s63_0, s63_1, s63_4, s63_7, s63_8, s63_9, s63_13, s63_14, s63_17, s63_19, s63_21, s63_24, s63_27, s63_29, s63_30, s63_33, s63_34, s63_37, s63_39, s63_41, s63_44, s63_45, s63_48, s63_50, s63_51, s63_54, s63_57, s63_58, nI_le2, nI_lt2, nI_eq2, nI_lt0, nI_0le, nI_0lt, nI_le0, nI_eq0, nI_clamp, nI_add, bu_nI, bb_0, bb_1, rf_s, rf_n, tl_s, tl_n, am_th_some, if_true, if_false, sI_eq, uI_eq, and_self, true_and, and_true, not_false_eq_true, not_true_eq_false, Nat.reduceEqDiff, Nat.reduceLeDiff, Nat.reduceLT, Nat.reduceAdd, Nat.reduceMul, Nat.reduceSub, Nat.zero_add, r0, r4, q1, q2, gc, gl]
      · left
        have e2 : ¬ y = x := fun w => e (hz.mp w)
        refine ⟨(), ?_, fun i hi => ?_⟩
        · rw [s63_11]
          simp (disch := first | omega | assumption) only [s63_0, s63_1, s63_4, s63_7, s63_8, s63_9, s63_13, s63_14, s63_17, s63_19, s63_21, s63_24, s63_27, s63_29, s63_30, s63_33, s63_34, s63_37, s63_39, s63_41, s63_44, s63_45, s63_48, s63_50, s63_51, s63_54, s63_57, s63_58, nI_le2, nI_lt2, nI_eq2, nI_lt0, nI_0le, nI_0lt, nI_le0, nI_eq0, nI_clamp, nI_add, bu_nI, bb_0, bb_1, rf_s, rf_n, tl_s, tl_n, am_th_some, if_true, if_false, sI_eq, uI_eq, and_self, true_and, and_true, not_false_eq_true, not_true_eq_false, Nat.reduceEqDiff, Nat.reduceLeDiff, Nat.reduceLT, Nat.reduceAdd, Nat.reduceMul, Nat.reduceSub, Nat.zero_add, r0, r4, q1, q2, gc, gl, e2]
          rfl
        · by_cases q : i = c
          · rw [q]; exact e
          · exact hinv i (by omega)
    · intro _ hinv
      have q1 : zF k + zM k ≤ zF k + zM k := Nat.le_refl _
      have hno : ¬ zit k x < zM k := fun w => hinv _ w rfl
      rw [if_neg hno, s63_11]
      simp (disch := first | omega | assumption) only [s63_0, s63_1, s63_4, s63_7, s63_8, s63_9, s63_13, s63_14, s63_17, s63_19, s63_21, s63_24, s63_27, s63_29, s63_30, s63_33, s63_34, s63_37, s63_39, s63_41, s63_44, s63_45, s63_48, s63_50, s63_51, s63_54, s63_57, s63_58, nI_le2, nI_lt2, nI_eq2, nI_lt0, nI_0le, nI_0lt, nI_le0, nI_eq0, nI_clamp, nI_add, bu_nI, bb_0, bb_1, rf_s, rf_n, tl_s, tl_n, am_th_some, if_true, if_false, sI_eq, uI_eq, and_self, true_and, and_true, not_false_eq_true, not_true_eq_false, Nat.reduceEqDiff, Nat.reduceLeDiff, Nat.reduceLT, Nat.reduceAdd, Nat.reduceMul, Nat.reduceSub, Nat.zero_add, q1]
  rw [s63]
  simp (disch := first | omega | assumption) only [s63_0, s63_1, s63_4, s63_7, s63_8, s63_9, s63_13, s63_14, s63_17, s63_19, s63_21, s63_24, s63_27, s63_29, s63_30, s63_33, s63_34, s63_37, s63_39, s63_41, s63_44, s63_45, s63_48, s63_50, s63_51, s63_54, s63_57, s63_58, nI_le2, nI_lt2, nI_eq2, nI_lt0, nI_0le, nI_0lt, nI_le0, nI_eq0, nI_clamp, nI_add, bu_nI, bb_0, bb_1, rf_s, rf_n, tl_s, tl_n, am_th_some, if_true, if_false, sI_eq, uI_eq, and_self, true_and, and_true, not_false_eq_true, not_true_eq_false, Nat.reduceEqDiff, Nat.reduceLeDiff, Nat.reduceLT, Nat.reduceAdd, Nat.reduceMul, Nat.reduceSub, Nat.zero_add, r0, g1]
  exact loop
/-- no ITEM, or one that was there -/
theorem c_riNo (hr : ze_R R u) (hk : tp_ok L B) (h : zi_at I L B a k G V) (haL : a ≤ L) (hk4 : k < 4) (e : zit k (sp_hr L B (sp_sk L B a)) < zM k → G.testBit (zit k (sp_hr L B (sp_sk L B a))) = true) : ∃ J, am_cal (d + 3) 62 [.ref (am_mk 7 0), .int (nI (zF k)), .int (nI (zF k + zM k))] I R Q = some (some (.int (nI 0)), J, R, Q) ∧ am_fr zi_S I J ∧ zi_at J L B (sp_sk L B a) k G V := by
  obtain ⟨J, g1, f1, h1⟩ := c_itemAt (d := d) (Q := Q) hr hk h haL hk4
  have r4 := hr.2.2.2.2.2.1
  obtain ⟨m1, m2, m3, m4⟩ := zM_F k hk4
  refine ⟨J, ?_, f1, h1⟩
  rw [s62]
  by_cases q : zit k (sp_hr L B (sp_sk L B a)) < zM k
  · rw [if_pos q] at g1
    have hg := (h1.2.2.2.2 _ q).2
    rw [if_pos (e q)] at hg
    have hb : zF k + zit k (sp_hr L B (sp_sk L B a)) < 14 := by omega
    have hm : ¬ nI (zF k + zit k (sp_hr L B (sp_sk L B a))) = -nI 1 := m1_ne (by omega)
    have hne : ((nI 1 : Int32) = 0) = False := by decide
    simp (disch := first | omega | assumption) only [s62_0, s62_1, s62_2, s62_3, s62_6, s62_7, s62_8, s62_9, s62_12, s62_13, s62_16, s62_17, s62_18, s62_21, s62_22, s62_23, s62_24, s62_27, s62_30, s62_31, s62_34, s62_35, s62_36, s62_37, s62_38, s62_41, s62_42, s62_45, s62_47, s62_49, s62_50, s62_53, s62_54, s62_55, s62_57, s62_60, s62_61, s62_62, s62_65, s62_67, s62_70, s62_71, s62_72, s62_75, s62_76, s62_79, s62_80, s62_83, s62_84, s62_85, s62_88, s62_89, s62_90, s62_91, s62_94, s62_95, s62_97, s62_98, s62_99, nI_le2, nI_lt2, nI_eq2, nI_lt0, nI_0le, nI_0lt, nI_le0, nI_eq0, nI_clamp, nI_add, bu_nI, bb_0, bb_1, rf_s, rf_n, tl_s, tl_n, am_th_some, if_true, if_false, sI_eq, uI_eq, and_self, true_and, and_true, not_false_eq_true, not_true_eq_false, Nat.reduceEqDiff, Nat.reduceLeDiff, Nat.reduceLT, Nat.reduceAdd, Nat.reduceMul, Nat.reduceSub, Nat.zero_add, r4, g1, hg, hb, hm, hne]
  · rw [if_neg q] at g1
    simp (disch := first | omega | assumption) only [s62_0, s62_1, s62_2, s62_3, s62_6, s62_7, s62_8, s62_9, s62_12, s62_13, s62_16, s62_17, s62_18, s62_21, s62_22, s62_23, s62_24, s62_27, s62_30, s62_31, s62_34, s62_35, s62_36, s62_37, s62_38, s62_41, s62_42, s62_45, s62_47, s62_49, s62_50, s62_53, s62_54, s62_55, s62_57, s62_60, s62_61, s62_62, s62_65, s62_67, s62_70, s62_71, s62_72, s62_75, s62_76, s62_79, s62_80, s62_83, s62_84, s62_85, s62_88, s62_89, s62_90, s62_91, s62_94, s62_95, s62_97, s62_98, s62_99, nI_le2, nI_lt2, nI_eq2, nI_lt0, nI_0le, nI_0lt, nI_le0, nI_eq0, nI_clamp, nI_add, bu_nI, bb_0, bb_1, rf_s, rf_n, tl_s, tl_n, am_th_some, if_true, if_false, sI_eq, uI_eq, and_self, true_and, and_true, not_false_eq_true, not_true_eq_false, Nat.reduceEqDiff, Nat.reduceLeDiff, Nat.reduceLT, Nat.reduceAdd, Nat.reduceMul, Nat.reduceSub, Nat.zero_add, r4, g1]
/-- an ITEM, up to its number -/
theorem c_ri0 (hr : ze_R R u) (hk : tp_ok L B) (h : zi_at I L B a k G V) (haL : a ≤ L) (hk4 : k < 4) (hG : G < 64) (e : zit k (sp_hr L B (sp_sk L B a)) = j) (hj : j < zM k) (hg : G.testBit j = false) : ∃ J, am_cal (d + 4) 62 [.ref (am_mk 7 0), .int (nI (zF k)), .int (nI (zF k + zM k))] I R Q = am_ev (d + 4) 62 45 [.ref (am_mk 7 0), .int (nI (zF k)), .int (nI (zF k + zM k)), .int (nI (zF k + j)), am_J] [.int (if (zn_r L B (sp_sk L B a + 1)).2 = sp_sk L B (sp_sk L B a + 1) ∨ sp_dd L B (zn_r L B (sp_sk L B a + 1)).2 then -nI 1 else nI (zn_r L B (sp_sk L B a + 1)).1)] J R Q ∧ am_fr zi_S I J ∧ zi_at J L B (zn_r L B (sp_sk L B a + 1)).2 k (G ||| 2 ^ j) V := by
  obtain ⟨J1, g1, f1, h1⟩ := c_itemAt (d := d + 1) (Q := Q) hr hk h haL hk4
  have hs := sk_L (B := B) haL
  have r0 := hr.2.1
  have r4 := hr.2.2.2.2.2.1
  obtain ⟨m1, m2, m3, m4⟩ := zM_F k hk4
  have hlt : sp_sk L B a < L := Classical.byContradiction fun w => by
    rw [(hr_0 hk).mpr w] at e
    rw [← e] at hj
    exact (zit_0 k hk4).1 hj
  rw [e, if_pos hj] at g1
  have hgj := (h1.2.2.2.2 j hj).2
  rw [hg, if_neg (by decide)] at hgj
  have hb : zF k + j < 14 := by omega
  have hm : ¬ nI (zF k + j) = -nI 1 := m1_ne (by omega)
  obtain ⟨J2, g2, f2, h2⟩ := zi_pass (d := d + 3) (R := R) (Q := Q) hk h1 hlt
  obtain ⟨X3, x3, f3, v3⟩ : ∃ X, am_sI J2 25 0 (am_uI (J2 25 0) (zF k + j) (nI 1)) = X ∧ am_fr (fun a _ i => a = 25 ∧ i = zF k + j) J2 X ∧ X 25 0 (zF k + j) = nI 1 := ⟨_, rfl, fr_s fr_rf ⟨rfl, rfl⟩, by rw [sI_eq, uI_eq]⟩
  have h3 : zi_at X3 L B (sp_sk L B a + 1) k (G ||| 2 ^ j) V := by
    refine ⟨tc_fr h2.1 f3 (fun w => by omega) (fun j w => by omega), st_fr h2.2.1 f3 (fun a b w => by omega), sx_fr h2.2.2.1 f3 (fun a j _ _ w => by omega), (f3 _ _ _ (fun w => by omega)).trans h2.2.2.2.1, fun i hi => ⟨(f3 _ _ _ (fun w => by omega)).trans (h2.2.2.2.2 i hi).1, ?_⟩⟩
    rw [Nat.testBit_or, Nat.testBit_two_pow]
    by_cases q : j = i
    · subst q
      rw [v3]; simp
    · rw [f3 _ _ _ (fun w => by omega), (h2.2.2.2.2 i hi).2]
      simp [q]
  obtain ⟨J4, g4, f4, h4, l4, -⟩ := c_number (d := d + 1) (Q := Q) hr.1 hk h3.1 h3.2.2.2.1 hlt (f := 2) (by decide)
  obtain ⟨f4', h4'⟩ := zi_t h3 f4 h4
  refine ⟨J4, ?_, fr_tr (fr_tr (fr_tr f1 f2) (fr_mo f3 fun a b j w => Or.inr (Or.inr w.1))) f4', h4'⟩
  rw [s62]
  simp (disch := first | omega | assumption) only [s62_0, s62_1, s62_2, s62_3, s62_6, s62_7, s62_8, s62_9, s62_12, s62_13, s62_16, s62_17, s62_18, s62_21, s62_22, s62_23, s62_24, s62_27, s62_30, s62_31, s62_34, s62_35, s62_36, s62_37, s62_38, s62_41, s62_42, s62_47, s62_49, s62_50, s62_53, s62_54, s62_55, s62_57, s62_60, s62_61, s62_62, s62_65, s62_67, s62_70, s62_71, s62_72, s62_75, s62_76, s62_79, s62_80, s62_83, s62_84, s62_85, s62_88, s62_89, s62_90, s62_91, s62_94, s62_95, s62_97, s62_98, s62_99, nI_le2, nI_lt2, nI_eq2, nI_lt0, nI_0le, nI_0lt, nI_le0, nI_eq0, nI_clamp, nI_add, bu_nI, bb_0, bb_1, rf_s, rf_n, tl_s, tl_n, am_th_some, if_true, if_false, sI_eq, uI_eq, and_self, true_and, and_true, not_false_eq_true, not_true_eq_false, Nat.reduceEqDiff, Nat.reduceLeDiff, Nat.reduceLT, Nat.reduceAdd, Nat.reduceMul, Nat.reduceSub, Nat.zero_add, r0, r4, g1, hgj, hb, hm, g2, x3, g4]
theorem c_riBad (hr : ze_R R u) (hk : tp_ok L B) (h : zi_at I L B a k G V) (haL : a ≤ L) (hk4 : k < 4) (hG : G < 64) (e : zit k (sp_hr L B (sp_sk L B a)) = j) (hj : j < zM k) (hg : G.testBit j = false) (hn : ¬ zn_ok L B (sp_sk L B a + 1) (zLo (zF k + j)) (zHi (zF k + j))) : ∃ J, am_cal (d + 4) 62 [.ref (am_mk 7 0), .int (nI (zF k)), .int (nI (zF k + zM k))] I R Q = some (some (.int (nI 0)), J, R, Q) ∧ am_fr zi_S I J ∧ J 10 0 2 = nI (zn_p L B (sp_sk L B a + 1)) := by
  obtain ⟨J, g, f, h1⟩ := c_ri0 (d := d) (Q := Q) hr hk h haL hk4 hG e hj hg
  have r0 := hr.2.1
  have hL := hk.1
  have hat := h1.2.2.2.1
  obtain ⟨m1, m2, m3, m4⟩ := zM_F k hk4
  have hlt : sp_sk L B a < L := Classical.byContradiction fun w => by
    rw [(hr_0 hk).mpr w] at e
    rw [← e] at hj
    exact (zit_0 k hk4).1 hj
  obtain ⟨z1, z2, z3, z4, z5⟩ := zn_L (B := B) (a := sp_sk L B a + 1) (L := L) hlt
  by_cases q : (zn_r L B (sp_sk L B a + 1)).2 = sp_sk L B (sp_sk L B a + 1) ∨ sp_dd L B (zn_r L B (sp_sk L B a + 1)).2
  · rw [if_pos q] at g
    refine ⟨J, ?_, f, by rw [zn_p, if_pos q]; exact hat⟩
    rw [g]
    simp (disch := first | omega | assumption) only [s62_0, s62_1, s62_2, s62_3, s62_6, s62_7, s62_8, s62_9, s62_12, s62_13, s62_16, s62_17, s62_18, s62_21, s62_22, s62_23, s62_24, s62_27, s62_30, s62_31, s62_34, s62_35, s62_36, s62_37, s62_38, s62_41, s62_42, s62_45, s62_47, s62_49, s62_50, s62_53, s62_54, s62_55, s62_57, s62_60, s62_61, s62_62, s62_65, s62_67, s62_70, s62_71, s62_72, s62_75, s62_76, s62_79, s62_80, s62_83, s62_84, s62_85, s62_88, s62_89, s62_90, s62_91, s62_94, s62_95, s62_97, s62_98, s62_99, nI_le2, nI_lt2, nI_eq2, nI_lt0, nI_0le, nI_0lt, nI_le0, nI_eq0, nI_clamp, nI_add, bu_nI, bb_0, bb_1, rf_s, rf_n, tl_s, tl_n, am_th_some, if_true, if_false, sI_eq, uI_eq, and_self, true_and, and_true, not_false_eq_true, not_true_eq_false, Nat.reduceEqDiff, Nat.reduceLeDiff, Nat.reduceLT, Nat.reduceAdd, Nat.reduceMul, Nat.reduceSub, Nat.zero_add]
  · rw [if_neg q] at g
    have hlo := sx_2 h1.2.2.1 (i := zF k + j) (by omega)
    have hhi := sx_3 h1.2.2.1 (i := zF k + j) (by omega)
    obtain ⟨o1, o2, o3⟩ := zV_ok (zF k + j) (by omega)
    have hb : zF k + j < 14 := by omega
    have hm : ¬ nI (zn_r L B (sp_sk L B a + 1)).1 = -nI 1 := m1_ne (by omega)
    have q1 : ¬ (zn_r L B (sp_sk L B a + 1)).2 = sp_sk L B (sp_sk L B a + 1) := fun w => q (Or.inl w)
    have hs1 := sk_L (B := B) (a := sp_sk L B a + 1) (L := L) hlt
    have em : nI (zn_r L B (sp_sk L B a + 1)).2 - nI 1 = nI ((zn_r L B (sp_sk L B a + 1)).2 - 1) := nI_sub (by omega)
    have f2 : am_fr zi_S J (am_sI J 10 0 (am_uI (J 10 0) 2 (nI ((zn_r L B (sp_sk L B a + 1)).2 - 1)))) := fr_s fr_rf (Or.inl ⟨rfl, rfl⟩)
    refine ⟨_, ?_, fr_tr f f2, by rw [zn_p, if_neg q, sI_eq, uI_eq]⟩
    rw [g]
    by_cases r1 : (zn_r L B (sp_sk L B a + 1)).1 < zLo (zF k + j)
    · simp (disch := first | omega | assumption) only [s62_0, s62_1, s62_2, s62_3, s62_6, s62_7, s62_8, s62_9, s62_12, s62_13, s62_16, s62_17, s62_18, s62_21, s62_22, s62_23, s62_24, s62_27, s62_30, s62_31, s62_34, s62_35, s62_36, s62_37, s62_38, s62_41, s62_42, s62_45, s62_47, s62_49, s62_50, s62_53, s62_54, s62_55, s62_57, s62_60, s62_61, s62_62, s62_65, s62_67, s62_70, s62_71, s62_72, s62_75, s62_76, s62_79, s62_80, s62_83, s62_84, s62_85, s62_88, s62_89, s62_90, s62_91, s62_94, s62_95, s62_97, s62_98, s62_99, nI_le2, nI_lt2, nI_eq2, nI_lt0, nI_0le, nI_0lt, nI_le0, nI_eq0, nI_clamp, nI_add, bu_nI, bb_0, bb_1, rf_s, rf_n, tl_s, tl_n, am_th_some, if_true, if_false, sI_eq, uI_eq, and_self, true_and, and_true, not_false_eq_true, not_true_eq_false, Nat.reduceEqDiff, Nat.reduceLeDiff, Nat.reduceLT, Nat.reduceAdd, Nat.reduceMul, Nat.reduceSub, Nat.zero_add, hm, hlo, hb, r1, r0, hat, em]
    · have r2 : ¬ (zn_r L B (sp_sk L B a + 1)).1 ≤ zHi (zF k + j) := fun w => hn ⟨q1, fun v => q (Or.inr v), by omega, w⟩
      simp (disch := first | omega | assumption) only [s62_0, s62_1, s62_2, s62_3, s62_6, s62_7, s62_8, s62_9, s62_12, s62_13, s62_16, s62_17, s62_18, s62_21, s62_22, s62_23, s62_24, s62_27, s62_30, s62_31, s62_34, s62_35, s62_36, s62_37, s62_38, s62_41, s62_42, s62_45, s62_47, s62_49, s62_50, s62_53, s62_54, s62_55, s62_57, s62_60, s62_61, s62_62, s62_65, s62_67, s62_70, s62_71, s62_72, s62_75, s62_76, s62_79, s62_80, s62_83, s62_84, s62_85, s62_88, s62_89, s62_90, s62_91, s62_94, s62_95, s62_97, s62_98, s62_99, nI_le2, nI_lt2, nI_eq2, nI_lt0, nI_0le, nI_0lt, nI_le0, nI_eq0, nI_clamp, nI_add, bu_nI, bb_0, bb_1, rf_s, rf_n, tl_s, tl_n, am_th_some, if_true, if_false, sI_eq, uI_eq, and_self, true_and, and_true, not_false_eq_true, not_true_eq_false, Nat.reduceEqDiff, Nat.reduceLeDiff, Nat.reduceLT, Nat.reduceAdd, Nat.reduceMul, Nat.reduceSub, Nat.zero_add, hm, hlo, hhi, hb, r1, r2, r0, hat, em]
theorem c_riOk (hr : ze_R R u) (hk : tp_ok L B) (h : zi_at I L B a k G V) (haL : a ≤ L) (hk4 : k < 4) (hG : G < 64) (e : zit k (sp_hr L B (sp_sk L B a)) = j) (hj : j < zM k) (hg : G.testBit j = false) (hn : zn_ok L B (sp_sk L B a + 1) (zLo (zF k + j)) (zHi (zF k + j))) : ∃ J, am_cal (d + 4) 62 [.ref (am_mk 7 0), .int (nI (zF k)), .int (nI (zF k + zM k))] I R Q = some (some (.int (nI 1)), J, R, Q) ∧ am_fr zi_S I J ∧ zi_at J L B (zn_r L B (sp_sk L B a + 1)).2 k (G ||| 2 ^ j) (zi_up V j (zn_r L B (sp_sk L B a + 1)).1) := by
  obtain ⟨J, g, f, h1⟩ := c_ri0 (d := d) (Q := Q) hr hk h haL hk4 hG e hj hg
  have r3 := hr.2.2.2.2.1
  have hL := hk.1
  obtain ⟨m1, m2, m3, m4⟩ := zM_F k hk4
  have hlt : sp_sk L B a < L := Classical.byContradiction fun w => by
    rw [(hr_0 hk).mpr w] at e
    rw [← e] at hj
    exact (zit_0 k hk4).1 hj
  obtain ⟨z1, z2, z3, z4, z5⟩ := zn_L (B := B) (a := sp_sk L B a + 1) (L := L) hlt
  obtain ⟨q1, q2, q3, q4⟩ := hn
  rw [if_neg (fun w => w.elim q1 q2)] at g
  have hlo := sx_2 h1.2.2.1 (i := zF k + j) (by omega)
  have hhi := sx_3 h1.2.2.1 (i := zF k + j) (by omega)
  obtain ⟨o1, o2, o3⟩ := zV_ok (zF k + j) (by omega)
  have hb : zF k + j < 14 := by omega
  have hm : ¬ nI (zn_r L B (sp_sk L B a + 1)).1 = -nI 1 := m1_ne (by omega)
  have r1 : ¬ (zn_r L B (sp_sk L B a + 1)).1 < zLo (zF k + j) := by omega
  obtain ⟨X3, x3, f3, v3⟩ : ∃ X, am_sI J 24 0 (am_uI (J 24 0) (zF k + j) (nI (zn_r L B (sp_sk L B a + 1)).1)) = X ∧ am_fr (fun a _ i => a = 24 ∧ i = zF k + j) J X ∧ X 24 0 (zF k + j) = nI (zn_r L B (sp_sk L B a + 1)).1 := ⟨_, rfl, fr_s fr_rf ⟨rfl, rfl⟩, by rw [sI_eq, uI_eq]⟩
  refine ⟨X3, ?_, fr_tr f (fr_mo f3 fun a b j w => Or.inr (Or.inl w.1)), tc_fr h1.1 f3 (fun w => by omega) (fun j w => by omega), st_fr h1.2.1 f3 (fun a b w => by omega), sx_fr h1.2.2.1 f3 (fun a j _ _ w => by omega), (f3 _ _ _ (fun w => by omega)).trans h1.2.2.2.1, fun i hi => ⟨?_, (f3 _ _ _ (fun w => by omega)).trans (h1.2.2.2.2 i hi).2⟩⟩
  · rw [g]
    simp (disch := first | omega | assumption) only [s62_0, s62_1, s62_2, s62_3, s62_6, s62_7, s62_8, s62_9, s62_12, s62_13, s62_16, s62_17, s62_18, s62_21, s62_22, s62_23, s62_24, s62_27, s62_30, s62_31, s62_34, s62_35, s62_36, s62_37, s62_38, s62_41, s62_42, s62_45, s62_47, s62_49, s62_50, s62_53, s62_54, s62_55, s62_57, s62_60, s62_61, s62_62, s62_65, s62_67, s62_70, s62_71, s62_72, s62_75, s62_76, s62_79, s62_80, s62_83, s62_84, s62_85, s62_88, s62_89, s62_90, s62_91, s62_94, s62_95, s62_97, s62_98, s62_99, nI_le2, nI_lt2, nI_eq2, nI_lt0, nI_0le, nI_0lt, nI_le0, nI_eq0, nI_clamp, nI_add, bu_nI, bb_0, bb_1, rf_s, rf_n, tl_s, tl_n, am_th_some, if_true, if_false, sI_eq, uI_eq, and_self, true_and, and_true, not_false_eq_true, not_true_eq_false, Nat.reduceEqDiff, Nat.reduceLeDiff, Nat.reduceLT, Nat.reduceAdd, Nat.reduceMul, Nat.reduceSub, Nat.zero_add, hm, hlo, hhi, hb, r1, q4, r3, x3]
  · unfold zi_up
    by_cases q : i = j
    · rw [q, if_pos rfl, v3]
    · rw [if_neg q, f3 _ _ _ (fun w => by omega)]; exact (h1.2.2.2.2 i hi).1
end
