/-! The TAPE: the model. -/
def sp_hm (L : Nat) (B : Nat → Nat) (a : Nat) : Int32 := if a < L then nI (B a) else -nI 1
/-- a digit? -/
abbrev sp_dd (L : Nat) (B : Nat → Nat) (a : Nat) : Prop := 48 ≤ sp_hr L B a ∧ sp_hr L B a ≤ 57
/-- what is wrong first -/
def sp_bad (w : Int32) (a : Nat) : Int32 := if w = -nI 1 then nI a else w
def tw_S : Nat → Nat → Nat → Prop := fun a _ j => a = 12 ∧ (j = 3 ∨ j = 4)
section
variable {d L a : Nat} {I : am_I} {R : am_R} {Q : am_Q} {B : Nat → Nat} {x : Int32}
theorem m_here (hr : mm_R R) (hk : tp_ok L B) (h : tm_at I L B) (ha : I 12 0 3 = nI a) (haL : a ≤ L) : am_cal d 163 [.ref (am_mk 12 0)] I R Q = some (some (.int (sp_hm L B a)), I, R, Q) := by
  obtain ⟨h1, h2⟩ := h
  have hL := hk.1
  rw [s163, sp_hm]
  by_cases e : a < L
  · have e1 : ¬ L ≤ a := by omega
    have e2 : ¬ 240 ≤ a := by omega
    have e3 := h2 a e
    rw [if_pos e]
    simp (disch := first | omega | assumption) only [s163_0, s163_1, s163_4, s163_5, s163_8, s163_11, s163_12, s163_15, s163_16, s163_19, s163_20, s163_23, s163_24, nI_le2, nI_lt2, nI_eq2, nI_lt0, nI_0le, nI_0lt, nI_le0, nI_eq0, nI_clamp, nI_add, bu_nI, bb_0, bb_1, rf_s, rf_n, tl_s, tl_n, am_th_some, if_true, if_false, sI_eq, uI_eq, and_self, true_and, and_true, not_false_eq_true, not_true_eq_false, Nat.reduceEqDiff, Nat.reduceLeDiff, Nat.reduceLT, Nat.reduceAdd, Nat.reduceMul, Nat.reduceSub, Nat.zero_add, mr1 hr, ha, h1, e1, e2, e3]
  · have e1 : L ≤ a := by omega
    rw [if_neg e]
    simp (disch := first | omega | assumption) only [s163_0, s163_1, s163_4, s163_5, s163_8, s163_11, s163_12, s163_15, s163_16, s163_19, s163_20, s163_23, s163_24, nI_le2, nI_lt2, nI_eq2, nI_lt0, nI_0le, nI_0lt, nI_le0, nI_eq0, nI_clamp, nI_add, bu_nI, bb_0, bb_1, rf_s, rf_n, tl_s, tl_n, am_th_some, if_true, if_false, sI_eq, uI_eq, and_self, true_and, and_true, not_false_eq_true, not_true_eq_false, Nat.reduceEqDiff, Nat.reduceLeDiff, Nat.reduceLT, Nat.reduceAdd, Nat.reduceMul, Nat.reduceSub, Nat.zero_add, ha, h1, e1]
theorem hm_32 (hk : tp_ok L B) : (sp_hm L B a = nI 32) = (a < L ∧ B a = 32) := by
  rw [sp_hm]
  by_cases e : a < L
  · rw [if_pos e, nI_eq2 (by have := (hk.2 a e).2; omega) (by decide)]
    exact propext ⟨fun w => ⟨e, w⟩, fun w => w.2⟩
  · rw [if_neg e]
    exact propext ⟨fun w => absurd w.symm (m1_ne (by decide)), fun w => absurd w.1 e⟩
theorem m_look (hr : mm_R R) (hk : tp_ok L B) (h : tm_at I L B) (ha : I 12 0 3 = nI a) (haL : a ≤ L) : ∃ J, am_cal (d + 1) 164 [.ref (am_mk 12 0)] I R Q = some (some (.int (sp_hm L B (sp_sk L B a))), J, R, Q) ∧ am_fr tm_S I J ∧ J 12 0 3 = nI (sp_sk L B a) := by
  have hL := hk.1
  have key : ∀ (m : Nat) (a : Nat) (I : am_I), L - a ≤ m → tm_at I L B → I 12 0 3 = nI a → a ≤ L → ∃ J, am_ev (d + 1) 164 0 [.ref (am_mk 12 0)] [] I R Q = some (some (.int (sp_hm L B (sp_sk L B a))), J, R, Q) ∧ am_fr tm_S I J ∧ J 12 0 3 = nI (sp_sk L B a) := by
    intro m
    induction m with
    | zero =>
      intro a I hm h ha haL
      have e : ¬ (a < L ∧ B a = 32) := by omega
      have hh := m_here (d := d) (Q := Q) hr hk h ha haL
      have h32 := (hm_32 (a := a) hk).trans (eq_false e)
      rw [sk_e e]
      refine ⟨I, ?_, fr_rf, ha⟩
      rw [s164_0]
      simp (disch := first | omega | assumption) only [s164_1, s164_4, s164_6, s164_9, s164_10, s164_11, s164_14, s164_15, s164_16, s164_19, s164_22, s164_23, s164_26, nI_le2, nI_lt2, nI_eq2, nI_lt0, nI_0le, nI_0lt, nI_le0, nI_eq0, nI_clamp, nI_add, bu_nI, bb_0, bb_1, rf_s, rf_n, tl_s, tl_n, am_th_some, if_true, if_false, sI_eq, uI_eq, and_self, true_and, and_true, not_false_eq_true, not_true_eq_false, Nat.reduceEqDiff, Nat.reduceLeDiff, Nat.reduceLT, Nat.reduceAdd, Nat.reduceMul, Nat.reduceSub, Nat.zero_add, ha, hh, h32]
    | succ m ih =>
      intro a I hm h ha haL
      have hh := m_here (d := d) (Q := Q) hr hk h ha haL
      by_cases e : a < L ∧ B a = 32
      · have h32 := (hm_32 (a := a) hk).trans (eq_true e)
        have hf : am_fr tm_S I (am_sI I 12 0 (am_uI (I 12 0) 3 (nI (a + 1)))) := fr_s fr_rf ⟨rfl, rfl⟩
        obtain ⟨J, g1, g2, g3⟩ := ih (a + 1) _ (by omega) (tm_fr h hf (fun w => by unfold tm_S at w; omega) (fun j w => by unfold tm_S at w; omega)) (by rw [sI_eq, uI_eq]) (by omega)
        rw [sk_s e.1 e.2]
        refine ⟨J, ?_, fr_tr hf g2, g3⟩
        rw [← g1]
        rw [s164_0]
        simp (disch := first | omega | assumption) only [s164_1, s164_4, s164_6, s164_9, s164_10, s164_11, s164_14, s164_15, s164_16, s164_19, s164_22, s164_23, s164_26, nI_le2, nI_lt2, nI_eq2, nI_lt0, nI_0le, nI_0lt, nI_le0, nI_eq0, nI_clamp, nI_add, bu_nI, bb_0, bb_1, rf_s, rf_n, tl_s, tl_n, am_th_some, if_true, if_false, sI_eq, uI_eq, and_self, true_and, and_true, not_false_eq_true, not_true_eq_false, Nat.reduceEqDiff, Nat.reduceLeDiff, Nat.reduceLT, Nat.reduceAdd, Nat.reduceMul, Nat.reduceSub, Nat.zero_add, ha, hh, h32]
      · have h32 := (hm_32 (a := a) hk).trans (eq_false e)
        rw [sk_e e]
        refine ⟨I, ?_, fr_rf, ha⟩
        rw [s164_0]
        simp (disch := first | omega | assumption) only [s164_1, s164_4, s164_6, s164_9, s164_10, s164_11, s164_14, s164_15, s164_16, s164_19, s164_22, s164_23, s164_26, nI_le2, nI_lt2, nI_eq2, nI_lt0, nI_0le, nI_0lt, nI_le0, nI_eq0, nI_clamp, nI_add, bu_nI, bb_0, bb_1, rf_s, rf_n, tl_s, tl_n, am_th_some, if_true, if_false, sI_eq, uI_eq, and_self, true_and, and_true, not_false_eq_true, not_true_eq_false, Nat.reduceEqDiff, Nat.reduceLeDiff, Nat.reduceLT, Nat.reduceAdd, Nat.reduceMul, Nat.reduceSub, Nat.zero_add, ha, hh, h32]
  obtain ⟨J, g1, g2⟩ := key _ a I (Nat.le_refl _) h ha haL
  refine ⟨J, ?_, g2⟩
  rw [s164]
  exact g1
theorem m_bad (ha : I 12 0 3 = nI a) (hw : I 12 0 4 = x) : ∃ J, am_cal d 165 [.ref (am_mk 12 0)] I R Q = some (none, J, R, Q) ∧ am_fr (fun a _ j => a = 12 ∧ j = 4) I J ∧ J 12 0 4 = sp_bad x a := by
  refine ⟨am_sI I 12 0 (am_uI (I 12 0) 4 (sp_bad x a)), ?_, fr_s fr_rf ⟨rfl, rfl⟩, by rw [sI_eq, uI_eq]⟩
  rw [s165, sp_bad]
  by_cases e : x = -nI 1
  · rw [if_pos e]
    simp (disch := first | omega | assumption) only [s165_0, s165_1, s165_2, s165_5, s165_6, s165_9, s165_10, s165_13, s165_16, s165_17, s165_20, s165_23, nI_le2, nI_lt2, nI_eq2, nI_lt0, nI_0le, nI_0lt, nI_le0, nI_eq0, nI_clamp, nI_add, bu_nI, bb_0, bb_1, rf_s, rf_n, tl_s, tl_n, am_th_some, if_true, if_false, sI_eq, uI_eq, and_self, true_and, and_true, not_false_eq_true, not_true_eq_false, Nat.reduceEqDiff, Nat.reduceLeDiff, Nat.reduceLT, Nat.reduceAdd, Nat.reduceMul, Nat.reduceSub, Nat.zero_add, ha, hw, e]
  · rw [if_neg e]
    simp (disch := first | omega | assumption) only [s165_0, s165_1, s165_2, s165_5, s165_6, s165_9, s165_10, s165_13, s165_16, s165_17, s165_20, s165_23, nI_le2, nI_lt2, nI_eq2, nI_lt0, nI_0le, nI_0lt, nI_le0, nI_eq0, nI_clamp, nI_add, bu_nI, bb_0, bb_1, rf_s, rf_n, tl_s, tl_n, am_th_some, if_true, if_false, sI_eq, uI_eq, and_self, true_and, and_true, not_false_eq_true, not_true_eq_false, Nat.reduceEqDiff, Nat.reduceLeDiff, Nat.reduceLT, Nat.reduceAdd, Nat.reduceMul, Nat.reduceSub, Nat.zero_add, ha, hw, e]
theorem m_isDigit (hk : tp_ok L B) : am_cal d 166 [.int (sp_hm L B a)] I R Q = some (some (.int (if sp_dd L B a then nI 1 else nI 0)), I, R, Q) := by
  rw [s166, sp_hm]
  have e3 := hr_le (a := a) hk
  by_cases e : a < L
  · have hh : sp_hr L B a = B a := if_pos e
    rw [if_pos e]
    unfold sp_dd
    rw [hh] at e3 ⊢
    by_cases q1 : 48 ≤ B a
    · have e0 : ¬ B a < 48 := by omega
      by_cases q2 : B a ≤ 57
      · have e2 : ¬ 57 < B a := by omega
        rw [if_pos ⟨q1, q2⟩]
        simp (disch := first | omega | assumption) only [s166_0, s166_1, s166_3, s166_6, s166_7, s166_9, s166_12, s166_13, s166_16, s166_17, nI_le2, nI_lt2, nI_eq2, nI_lt0, nI_0le, nI_0lt, nI_le0, nI_eq0, nI_clamp, nI_add, bu_nI, bb_0, bb_1, rf_s, rf_n, tl_s, tl_n, am_th_some, if_true, if_false, sI_eq, uI_eq, and_self, true_and, and_true, not_false_eq_true, not_true_eq_false, Nat.reduceEqDiff, Nat.reduceLeDiff, Nat.reduceLT, Nat.reduceAdd, Nat.reduceMul, Nat.reduceSub, Nat.zero_add, e0, e2]
      · have e2 : 57 < B a := by omega
        rw [if_neg (fun w => q2 w.2)]
        simp (disch := first | omega | assumption) only [s166_0, s166_1, s166_3, s166_6, s166_7, s166_9, s166_12, s166_13, s166_16, s166_17, nI_le2, nI_lt2, nI_eq2, nI_lt0, nI_0le, nI_0lt, nI_le0, nI_eq0, nI_clamp, nI_add, bu_nI, bb_0, bb_1, rf_s, rf_n, tl_s, tl_n, am_th_some, if_true, if_false, sI_eq, uI_eq, and_self, true_and, and_true, not_false_eq_true, not_true_eq_false, Nat.reduceEqDiff, Nat.reduceLeDiff, Nat.reduceLT, Nat.reduceAdd, Nat.reduceMul, Nat.reduceSub, Nat.zero_add, e0, e2]
    · have e0 : B a < 48 := by omega
      rw [if_neg (fun w => q1 w.1)]
      simp (disch := first | omega | assumption) only [s166_0, s166_1, s166_3, s166_6, s166_7, s166_9, s166_12, s166_13, s166_16, s166_17, nI_le2, nI_lt2, nI_eq2, nI_lt0, nI_0le, nI_0lt, nI_le0, nI_eq0, nI_clamp, nI_add, bu_nI, bb_0, bb_1, rf_s, rf_n, tl_s, tl_n, am_th_some, if_true, if_false, sI_eq, uI_eq, and_self, true_and, and_true, not_false_eq_true, not_true_eq_false, Nat.reduceEqDiff, Nat.reduceLeDiff, Nat.reduceLT, Nat.reduceAdd, Nat.reduceMul, Nat.reduceSub, Nat.zero_add, e0]
  · have hh : sp_hr L B a = 0 := if_neg e
    have hm : (-nI 1 : Int32) < nI 48 := by decide
    rw [if_neg e, if_neg (fun w => by have := w.1; rw [hh] at this; omega)]
    simp (disch := first | omega | assumption) only [s166_0, s166_1, s166_3, s166_6, s166_7, s166_9, s166_12, s166_13, s166_16, s166_17, nI_le2, nI_lt2, nI_eq2, nI_lt0, nI_0le, nI_0lt, nI_le0, nI_eq0, nI_clamp, nI_add, bu_nI, bb_0, bb_1, rf_s, rf_n, tl_s, tl_n, am_th_some, if_true, if_false, sI_eq, uI_eq, and_self, true_and, and_true, not_false_eq_true, not_true_eq_false, Nat.reduceEqDiff, Nat.reduceLeDiff, Nat.reduceLT, Nat.reduceAdd, Nat.reduceMul, Nat.reduceSub, Nat.zero_add, hm]
theorem dd_hm {B : Nat → Nat} (e : sp_dd L B a) : sp_hm L B a = nI (sp_hr L B a) ∧ a < L := by
  have := hr_lt e.1
  exact ⟨by rw [sp_hm, if_pos this, sp_hr, if_pos this], this⟩
theorem m_plain (hr : mm_R R) (hk : tp_ok L B) (h : tm_at I L B) (ha : I 12 0 3 = nI a) (hw : I 12 0 4 = x) (haL : a ≤ L) : ∃ J, am_cal (d + 1) 171 [.ref (am_mk 12 0)] I R Q = some (some (.int (nI (sp_dg L B 4 0 a).1)), J, R, Q) ∧ am_fr tw_S I J ∧ J 12 0 3 = nI (sp_dg L B 4 0 a).2 ∧ J 12 0 4 = (if sp_dd L B (sp_dg L B 4 0 a).2 then sp_bad x (sp_dg L B 4 0 a).2 else x) ∧ (sp_dg L B 4 0 a).2 ≤ L ∧ a ≤ (sp_dg L B 4 0 a).2 ∧ (sp_dg L B 4 0 a).1 < 100000 := by
  have hL := hk.1
  have hneq : ((nI 1 : Int32) = 0) = False := by decide
  let Post : Option am_X → Prop := fun y => ∃ J, y = some (some (.int (nI (sp_dg L B 4 0 a).1)), J, R, Q) ∧ am_fr tw_S I J ∧ J 12 0 3 = nI (sp_dg L B 4 0 a).2 ∧ J 12 0 4 = (if sp_dd L B (sp_dg L B 4 0 a).2 then sp_bad x (sp_dg L B 4 0 a).2 else x) ∧ (sp_dg L B 4 0 a).2 ≤ L ∧ a ≤ (sp_dg L B 4 0 a).2 ∧ (sp_dg L B 4 0 a).1 < 100000
  have p5 : ∀ c, c ≤ 4 → 10 ^ c ≤ 10000 := by decide
  have fin : ∀ (J : am_I) (v c : Nat), am_fr tm_S I J → J 12 0 3 = nI (a + c) → a + c ≤ L → c ≤ 4 → v < 10 ^ c → (¬ c < 4 ∨ ¬ sp_dd L B (a + c)) → sp_dg L B 4 0 a = (v, a + c) → Post (am_ev (d + 1) 171 4 [.ref (am_mk 12 0), .int (nI v), .int (nI c)] [] J R Q) := by
    intro J v c f1 f2 f3 f4 f5 f6 hv
    have hT := tm_fr h f1 (fun w => by unfold tm_S at w; omega) (fun j w => by unfold tm_S at w; omega)
    have hh := m_here (d := d) (Q := Q) hr hk hT f2 f3
    have hd := m_isDigit (d := d) (a := a + c) (I := J) (R := R) (Q := Q) hk
    have hw' : J 12 0 4 = x := (f1 _ _ _ (fun w => by unfold tm_S at w; omega)).trans hw
    have hp := p5 c f4
    by_cases e : sp_dd L B (a + c)
    · rw [if_pos e] at hd
      have e1 : 4 ≤ c := by have := f6.resolve_right (fun w => w e); omega
      obtain ⟨K, b1, b2, b3⟩ := m_bad (d := d) (R := R) (Q := Q) f2 hw'
      refine ⟨K, ?_, fr_tr (fr_mo f1 fun a b j w => by unfold tm_S at w; unfold tw_S; omega) (fr_mo b2 fun a b j w => by unfold tw_S; omega), ?_, ?_, by rw [hv]; exact f3, by rw [hv]; exact Nat.le_add_right _ _, by rw [hv]; show v < 100000; omega⟩
      · rw [hv, s171_4]
        simp (disch := first | omega | assumption) only [s171_0, s171_1, s171_2, s171_3, s171_5, s171_6, s171_9, s171_10, s171_13, s171_16, s171_19, s171_21, s171_22, s171_23, s171_24, s171_27, s171_28, s171_30, s171_31, s171_32, s171_33, s171_34, s171_37, s171_38, s171_39, s171_42, s171_45, s171_48, s171_49, s171_52, s171_55, s171_58, s171_59, s171_62, s171_63, nI_le2, nI_lt2, nI_eq2, nI_lt0, nI_0le, nI_0lt, nI_le0, nI_eq0, nI_clamp, nI_add, bu_nI, bb_0, bb_1, rf_s, rf_n, tl_s, tl_n, am_th_some, if_true, if_false, sI_eq, uI_eq, and_self, true_and, and_true, not_false_eq_true, not_true_eq_false, Nat.reduceEqDiff, Nat.reduceLeDiff, Nat.reduceLT, Nat.reduceAdd, Nat.reduceMul, Nat.reduceSub, Nat.zero_add, e1, hh, hd, b1]
      · rw [hv, b2 _ _ _ (fun w => by omega)]; exact f2
      · rw [hv, if_pos e]; exact b3
    · rw [if_neg e] at hd
      refine ⟨J, ?_, fr_mo f1 fun a b j w => by unfold tm_S at w; unfold tw_S; omega, by rw [hv]; exact f2, by rw [hv, if_neg e]; exact hw', by rw [hv]; exact f3, by rw [hv]; exact Nat.le_add_right _ _, by rw [hv]; show v < 100000; omega⟩
      rw [hv, s171_4]
      by_cases e1 : 4 ≤ c
      · simp (disch := first | omega | assumption) only [s171_0, s171_1, s171_2, s171_3, s171_5, s171_6, s171_9, s171_10, s171_13, s171_16, s171_19, s171_21, s171_22, s171_23, s171_24, s171_27, s171_28, s171_30, s171_31, s171_32, s171_33, s171_34, s171_37, s171_38, s171_39, s171_42, s171_45, s171_48, s171_49, s171_52, s171_55, s171_58, s171_59, s171_62, s171_63, nI_le2, nI_lt2, nI_eq2, nI_lt0, nI_0le, nI_0lt, nI_le0, nI_eq0, nI_clamp, nI_add, bu_nI, bb_0, bb_1, rf_s, rf_n, tl_s, tl_n, am_th_some, if_true, if_false, sI_eq, uI_eq, and_self, true_and, and_true, not_false_eq_true, not_true_eq_false, Nat.reduceEqDiff, Nat.reduceLeDiff, Nat.reduceLT, Nat.reduceAdd, Nat.reduceMul, Nat.reduceSub, Nat.zero_add, e1, hh, hd]
      · simp (disch := first | omega | assumption) only [s171_0, s171_1, s171_2, s171_3, s171_5, s171_6, s171_9, s171_10, s171_13, s171_16, s171_19, s171_21, s171_22, s171_23, s171_24, s171_27, s171_28, s171_30, s171_31, s171_32, s171_33, s171_34, s171_37, s171_38, s171_39, s171_42, s171_45, s171_48, s171_49, s171_52, s171_55, s171_58, s171_59, s171_62, s171_63, nI_le2, nI_lt2, nI_eq2, nI_lt0, nI_0le, nI_0lt, nI_le0, nI_eq0, nI_clamp, nI_add, bu_nI, bb_0, bb_1, rf_s, rf_n, tl_s, tl_n, am_th_some, if_true, if_false, sI_eq, uI_eq, and_self, true_and, and_true, not_false_eq_true, not_true_eq_false, Nat.reduceEqDiff, Nat.reduceLeDiff, Nat.reduceLT, Nat.reduceAdd, Nat.reduceMul, Nat.reduceSub, Nat.zero_add, e1, hh, hd]
  have loop : Post (am_ev (d + 1) 171 4 [.ref (am_mk 12 0), .int (nI 0), .int (nI 0)] [] I R Q) := by
    refine loop_inv (f := fun (b : am_I × Nat) c => am_ev (d + 1) 171 4 [.ref (am_mk 12 0), .int (nI b.2), .int (nI c)] [] b.1 R Q) (Inv := fun c b => am_fr tm_S I b.1 ∧ b.1 12 0 3 = nI (a + c) ∧ a + c ≤ L ∧ b.2 < 10 ^ c ∧ sp_dg L B 4 0 a = sp_dg L B (4 - c) b.2 (a + c)) (Post := Post) (n := 4) ?_ ?_ (Nat.zero_le _) (a := (I, 0)) ⟨fr_rf, ha, haL, by show 0 < 1; decide, rfl⟩
    · intro c ⟨J, v⟩ hc ⟨f1, f2, f3, f4, f5⟩
      have f1 : am_fr tm_S I J := f1
      have f2 : J 12 0 3 = nI (a + c) := f2
      have f4 : v < 10 ^ c := f4
      have f5 : sp_dg L B 4 0 a = sp_dg L B (4 - c) v (a + c) := f5
      by_cases e : sp_dd L B (a + c)
      · left
        have hT := tm_fr h f1 (fun w => by unfold tm_S at w; omega) (fun j w => by unfold tm_S at w; omega)
        have hh := m_here (d := d) (Q := Q) hr hk hT f2 f3
        have hd := m_isDigit (d := d) (a := a + c) (I := J) (R := R) (Q := Q) hk
        rw [if_pos e] at hd
        obtain ⟨eh, hlt⟩ := dd_hm e
        rw [eh] at hh hd
        have hp := p5 c (by omega)
        have h1 : ¬ 4 ≤ c := by omega
        have he := e.1
        have e1 : nI (10 * v + sp_hr L B (a + c)) - nI 48 = nI (v * 10 + sp_hr L B (a + c) - 48) := by rw [nI_sub (by omega), Nat.mul_comm]
        refine ⟨(am_sI J 12 0 (am_uI (J 12 0) 3 (nI (a + c + 1))), v * 10 + sp_hr L B (a + c) - 48), ?_, fr_s f1 ⟨rfl, rfl⟩, by dsimp only; rw [sI_eq, uI_eq]; rfl, by omega, ?_, ?_⟩
        · rw [s171_4]
          simp (disch := first | omega | assumption) only [s171_0, s171_1, s171_2, s171_3, s171_5, s171_6, s171_9, s171_10, s171_13, s171_16, s171_19, s171_21, s171_22, s171_23, s171_24, s171_27, s171_28, s171_30, s171_31, s171_32, s171_33, s171_34, s171_37, s171_38, s171_39, s171_42, s171_45, s171_48, s171_49, s171_52, s171_55, s171_58, s171_59, s171_62, s171_63, nI_le2, nI_lt2, nI_eq2, nI_lt0, nI_0le, nI_0lt, nI_le0, nI_eq0, nI_clamp, nI_add, bu_nI, bb_0, bb_1, rf_s, rf_n, tl_s, tl_n, am_th_some, if_true, if_false, sI_eq, uI_eq, and_self, true_and, and_true, not_false_eq_true, not_true_eq_false, Nat.reduceEqDiff, Nat.reduceLeDiff, Nat.reduceLT, Nat.reduceAdd, Nat.reduceMul, Nat.reduceSub, Nat.zero_add, h1, hd, hh, nI_mul, nI_add, e1, f2]
        · show v * 10 + sp_hr L B (a + c) - 48 < 10 ^ (c + 1)
          rw [Nat.pow_succ]
          have := e.2
          omega
        · show sp_dg L B 4 0 a = sp_dg L B (4 - (c + 1)) (v * 10 + sp_hr L B (a + c) - 48) (a + c + 1)
          rw [f5, show 4 - c = 4 - (c + 1) + 1 by omega, sp_dg, if_pos e]
      · right
        exact fin J v c f1 f2 f3 (by omega) f4 (Or.inr e) (by rw [f5, show 4 - c = 4 - (c + 1) + 1 by omega, sp_dg, if_neg e])
    · intro ⟨J, v⟩ ⟨f1, f2, f3, f4, f5⟩
      exact fin J v 4 f1 f2 f3 (Nat.le_refl _) f4 (Or.inl (Nat.lt_irrefl _)) f5
  obtain ⟨J, k1, k2⟩ := loop
  refine ⟨J, ?_, k2⟩
  rw [s171]
  simp (disch := first | omega | assumption) only [s171_0, s171_1, s171_2, s171_3, s171_5, s171_6, s171_9, s171_10, s171_13, s171_16, s171_19, s171_21, s171_22, s171_23, s171_24, s171_27, s171_28, s171_30, s171_31, s171_32, s171_33, s171_34, s171_37, s171_38, s171_39, s171_42, s171_45, s171_48, s171_49, s171_52, s171_55, s171_58, s171_59, s171_62, s171_63, nI_le2, nI_lt2, nI_eq2, nI_lt0, nI_0le, nI_0lt, nI_le0, nI_eq0, nI_clamp, nI_add, bu_nI, bb_0, bb_1, rf_s, rf_n, tl_s, tl_n, am_th_some, if_true, if_false, sI_eq, uI_eq, and_self, true_and, and_true, not_false_eq_true, not_true_eq_false, Nat.reduceEqDiff, Nat.reduceLeDiff, Nat.reduceLT, Nat.reduceAdd, Nat.reduceMul, Nat.reduceSub, Nat.zero_add]
  exact k1
end
