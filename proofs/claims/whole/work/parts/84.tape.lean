/-! The TAPE: the class. -/
/-- L bytes, none of them 0 -/
def tp_ok (L : Nat) (B : Nat → Nat) : Prop := L ≤ 240 ∧ ∀ i, i < L → 1 ≤ B i ∧ B i ≤ 255
def tc_at (I : am_I) (L : Nat) (B : Nat → Nat) : Prop := I 10 0 1 = nI L ∧ ∀ i, i < L → I 13 0 i = nI (B i)
def tm_at (I : am_I) (L : Nat) (B : Nat → Nat) : Prop := I 12 0 2 = nI L ∧ ∀ i, i < L → I 42 0 i = nI (B i)
def tc_R (R : am_R) : Prop := R 10 0 0 = some (am_mk 13 0)
def tc_S : Nat → Nat → Nat → Prop := fun a _ j => a = 10 ∧ j = 2
def tm_S : Nat → Nat → Nat → Prop := fun a _ j => a = 12 ∧ j = 3
theorem tc_fr {S : Nat → Nat → Nat → Prop} {I J : am_I} {L : Nat} {B : Nat → Nat} (h : tc_at I L B) (hf : am_fr S I J) (h1 : ¬ S 10 0 1) (h2 : ∀ j, ¬ S 13 0 j) : tc_at J L B := ⟨(hf _ _ _ h1).trans h.1, fun i hi => (hf _ _ _ (h2 _)).trans (h.2 i hi)⟩
theorem tm_fr {S : Nat → Nat → Nat → Prop} {I J : am_I} {L : Nat} {B : Nat → Nat} (h : tm_at I L B) (hf : am_fr S I J) (h1 : ¬ S 12 0 2) (h2 : ∀ j, ¬ S 42 0 j) : tm_at J L B := ⟨(hf _ _ _ h1).trans h.1, fun i hi => (hf _ _ _ (h2 _)).trans (h.2 i hi)⟩
/-- the byte at a; 0 behind the last -/
def sp_hr (L : Nat) (B : Nat → Nat) (a : Nat) : Nat := if a < L then B a else 0
def sp_skf (L : Nat) (B : Nat → Nat) : Nat → Nat → Nat
  | 0, a => a
  | f + 1, a => if a < L ∧ B a = 32 then sp_skf L B f (a + 1) else a
/-- behind the blanks from a on -/
def sp_sk (L : Nat) (B : Nat → Nat) (a : Nat) : Nat := sp_skf L B (L - a) a
theorem sk_s {L a : Nat} {B : Nat → Nat} (h : a < L) (e : B a = 32) : sp_sk L B a = sp_sk L B (a + 1) := by
  rw [sp_sk, sp_sk, show L - a = L - (a + 1) + 1 by omega, sp_skf, if_pos ⟨h, e⟩]
theorem sk_e {L a : Nat} {B : Nat → Nat} (h : ¬ (a < L ∧ B a = 32)) : sp_sk L B a = a := by
  rw [sp_sk]
  cases L - a with
  | zero => rfl
  | succ f => rw [sp_skf, if_neg h]
theorem sk_ge {L : Nat} {B : Nat → Nat} : ∀ m a, L - a ≤ m → a ≤ sp_sk L B a := by
  intro m
  induction m with
  | zero => intro a h; rw [sk_e (by omega)]; exact Nat.le_refl _
  | succ m ih =>
    intro a h
    by_cases e : a < L ∧ B a = 32
    · rw [sk_s e.1 e.2]; have := ih (a + 1) (by omega); omega
    · rw [sk_e e]; exact Nat.le_refl _
theorem sk_le {L : Nat} {B : Nat → Nat} : ∀ m a, L - a ≤ m → a ≤ L → sp_sk L B a ≤ L := by
  intro m
  induction m with
  | zero => intro a h1 h2; rw [sk_e (by omega)]; exact h2
  | succ m ih =>
    intro a h h2
    by_cases e : a < L ∧ B a = 32
    · rw [sk_s e.1 e.2]; exact ih (a + 1) (by omega) (by omega)
    · rw [sk_e e]; exact h2
theorem sk_L {L a : Nat} {B : Nat → Nat} (h : a ≤ L) : a ≤ sp_sk L B a ∧ sp_sk L B a ≤ L := ⟨sk_ge _ a (Nat.le_refl _), sk_le _ a (Nat.le_refl _) h⟩
theorem hr_le {L a : Nat} {B : Nat → Nat} (hk : tp_ok L B) : sp_hr L B a ≤ 255 := by
  unfold sp_hr
  by_cases e : a < L
  · rw [if_pos e]; exact (hk.2 a e).2
  · rw [if_neg e]; omega
theorem hr_0 {L a : Nat} {B : Nat → Nat} (hk : tp_ok L B) : sp_hr L B a = 0 ↔ ¬ a < L := by
  unfold sp_hr
  by_cases e : a < L
  · rw [if_pos e]; have := (hk.2 a e).1; exact ⟨fun w => by omega, fun w => absurd e w⟩
  · rw [if_neg e]; exact ⟨fun _ => e, fun _ => rfl⟩
section
variable {d L a : Nat} {I : am_I} {R : am_R} {Q : am_Q} {B : Nat → Nat}
theorem c_here (hr : tc_R R) (hk : tp_ok L B) (h : tc_at I L B) (ha : I 10 0 2 = nI a) (haL : a ≤ L) : am_cal d 89 [.ref (am_mk 10 0)] I R Q = some (some (.int (nI (sp_hr L B a))), I, R, Q) := by
  obtain ⟨h1, h2⟩ := h
  have hL := hk.1
  have hr : R 10 0 0 = some (am_mk 13 0) := hr
  rw [s89, sp_hr]
  by_cases e : a < L
  · have e1 : ¬ L ≤ a := by omega
    have e2 : ¬ 240 ≤ a := by omega
    have e3 := h2 a e
    rw [if_pos e]
    simp (disch := first | omega | assumption) only [s89_0, s89_1, s89_4, s89_7, s89_8, s89_11, s89_12, s89_15, s89_18, s89_19, s89_22, s89_23, s89_26, s89_27, s89_30, s89_31, s89_34, s89_35, s89_38, s89_39, s89_42, s89_43, nI_le2, nI_lt2, nI_eq2, nI_lt0, nI_0le, nI_0lt, nI_le0, nI_eq0, nI_clamp, nI_add, bu_nI, bb_0, bb_1, rf_s, rf_n, tl_s, tl_n, am_th_some, if_true, if_false, sI_eq, uI_eq, and_self, true_and, and_true, not_false_eq_true, not_true_eq_false, Nat.reduceEqDiff, Nat.reduceLeDiff, Nat.reduceLT, Nat.reduceAdd, Nat.reduceMul, Nat.reduceSub, Nat.zero_add, hr, ha, h1, e1, e2, e3]
  · have e1 : L ≤ a := by omega
    rw [if_neg e]
    simp (disch := first | omega | assumption) only [s89_0, s89_1, s89_4, s89_7, s89_8, s89_11, s89_12, s89_15, s89_18, s89_19, s89_22, s89_23, s89_26, s89_27, s89_30, s89_31, s89_34, s89_35, s89_38, s89_39, s89_42, s89_43, nI_le2, nI_lt2, nI_eq2, nI_lt0, nI_0le, nI_0lt, nI_le0, nI_eq0, nI_clamp, nI_add, bu_nI, bb_0, bb_1, rf_s, rf_n, tl_s, tl_n, am_th_some, if_true, if_false, sI_eq, uI_eq, and_self, true_and, and_true, not_false_eq_true, not_true_eq_false, Nat.reduceEqDiff, Nat.reduceLeDiff, Nat.reduceLT, Nat.reduceAdd, Nat.reduceMul, Nat.reduceSub, Nat.zero_add, hr, ha, h1, e1]
theorem c_sign (hr : tc_R R) (hk : tp_ok L B) (h : tc_at I L B) (ha : I 10 0 2 = nI a) (haL : a ≤ L) : ∃ J, am_cal (d + 1) 90 [.ref (am_mk 10 0)] I R Q = some (some (.int (nI (sp_hr L B (sp_sk L B a)))), J, R, Q) ∧ am_fr tc_S I J ∧ J 10 0 2 = nI (sp_sk L B a) := by
  have hL := hk.1
  have key : ∀ (m : Nat) (a : Nat) (I : am_I), L - a ≤ m → tc_at I L B → I 10 0 2 = nI a → a ≤ L → ∃ J, am_ev (d + 1) 90 0 [.ref (am_mk 10 0)] [] I R Q = some (some (.int (nI (sp_hr L B (sp_sk L B a)))), J, R, Q) ∧ am_fr tc_S I J ∧ J 10 0 2 = nI (sp_sk L B a) := by
    intro m
    induction m with
    | zero =>
      intro a I hm h ha haL
      have e : ¬ (a < L ∧ B a = 32) := by omega
      have e1 : L ≤ a := by omega
      have hh := c_here (d := d) (Q := Q) hr hk h ha haL
      have h1 := h.1
      rw [sk_e e]
      refine ⟨I, ?_, fr_rf, ha⟩
      rw [s90_0]
      simp (disch := first | omega | assumption) only [s90_1, s90_4, s90_5, s90_8, s90_11, s90_12, s90_15, s90_17, s90_20, s90_21, s90_22, s90_25, s90_26, s90_27, s90_30, s90_33, s90_34, s90_37, nI_le2, nI_lt2, nI_eq2, nI_lt0, nI_0le, nI_0lt, nI_le0, nI_eq0, nI_clamp, nI_add, bu_nI, bb_0, bb_1, rf_s, rf_n, tl_s, tl_n, am_th_some, if_true, if_false, sI_eq, uI_eq, and_self, true_and, and_true, not_false_eq_true, not_true_eq_false, Nat.reduceEqDiff, Nat.reduceLeDiff, Nat.reduceLT, Nat.reduceAdd, Nat.reduceMul, Nat.reduceSub, Nat.zero_add, ha, h1, e1, hh]
    | succ m ih =>
      intro a I hm h ha haL
      have hh := c_here (d := d) (Q := Q) hr hk h ha haL
      have h1 := h.1
      by_cases e : a < L ∧ B a = 32
      · have e1 : ¬ L ≤ a := by omega
        have e2 : sp_hr L B a = 32 := by rw [sp_hr, if_pos e.1]; exact e.2
        have hf : am_fr tc_S I (am_sI I 10 0 (am_uI (I 10 0) 2 (nI (a + 1)))) := fr_s fr_rf ⟨rfl, rfl⟩
        obtain ⟨J, g1, g2, g3⟩ := ih (a + 1) _ (by omega) (tc_fr h hf (fun w => by unfold tc_S at w; omega) (fun j w => by unfold tc_S at w; omega)) (by rw [sI_eq, uI_eq]) (by omega)
        rw [sk_s e.1 e.2]
        refine ⟨J, ?_, fr_tr hf g2, g3⟩
        rw [e2] at hh
        rw [← g1]
        rw [s90_0]
        simp (disch := first | omega | assumption) only [s90_1, s90_4, s90_5, s90_8, s90_11, s90_12, s90_15, s90_17, s90_20, s90_21, s90_22, s90_25, s90_26, s90_27, s90_30, s90_33, s90_34, s90_37, nI_le2, nI_lt2, nI_eq2, nI_lt0, nI_0le, nI_0lt, nI_le0, nI_eq0, nI_clamp, nI_add, bu_nI, bb_0, bb_1, rf_s, rf_n, tl_s, tl_n, am_th_some, if_true, if_false, sI_eq, uI_eq, and_self, true_and, and_true, not_false_eq_true, not_true_eq_false, Nat.reduceEqDiff, Nat.reduceLeDiff, Nat.reduceLT, Nat.reduceAdd, Nat.reduceMul, Nat.reduceSub, Nat.zero_add, ha, h1, e1, hh]
      · rw [sk_e e]
        refine ⟨I, ?_, fr_rf, ha⟩
        by_cases e0 : a < L
        · have e1 : ¬ L ≤ a := by omega
          have e2 : ¬ sp_hr L B a = 32 := by rw [sp_hr, if_pos e0]; exact fun w => e ⟨e0, w⟩
          have e3 := hr_le (a := a) hk
          rw [s90_0]
          simp (disch := first | omega | assumption) only [s90_1, s90_4, s90_5, s90_8, s90_11, s90_12, s90_15, s90_17, s90_20, s90_21, s90_22, s90_25, s90_26, s90_27, s90_30, s90_33, s90_34, s90_37, nI_le2, nI_lt2, nI_eq2, nI_lt0, nI_0le, nI_0lt, nI_le0, nI_eq0, nI_clamp, nI_add, bu_nI, bb_0, bb_1, rf_s, rf_n, tl_s, tl_n, am_th_some, if_true, if_false, sI_eq, uI_eq, and_self, true_and, and_true, not_false_eq_true, not_true_eq_false, Nat.reduceEqDiff, Nat.reduceLeDiff, Nat.reduceLT, Nat.reduceAdd, Nat.reduceMul, Nat.reduceSub, Nat.zero_add, ha, h1, e1, hh, e2]
        · have e1 : L ≤ a := by omega
          rw [s90_0]
          simp (disch := first | omega | assumption) only [s90_1, s90_4, s90_5, s90_8, s90_11, s90_12, s90_15, s90_17, s90_20, s90_21, s90_22, s90_25, s90_26, s90_27, s90_30, s90_33, s90_34, s90_37, nI_le2, nI_lt2, nI_eq2, nI_lt0, nI_0le, nI_0lt, nI_le0, nI_eq0, nI_clamp, nI_add, bu_nI, bb_0, bb_1, rf_s, rf_n, tl_s, tl_n, am_th_some, if_true, if_false, sI_eq, uI_eq, and_self, true_and, and_true, not_false_eq_true, not_true_eq_false, Nat.reduceEqDiff, Nat.reduceLeDiff, Nat.reduceLT, Nat.reduceAdd, Nat.reduceMul, Nat.reduceSub, Nat.zero_add, ha, h1, e1, hh]
  obtain ⟨J, g1, g2⟩ := key _ a I (Nat.le_refl _) h ha haL
  refine ⟨J, ?_, g2⟩
  rw [s90]
  exact g1
theorem c_tpass (h : tc_at I L B) (hL : L ≤ 240) (ha : I 10 0 2 = nI a) (haL : a ≤ L) : ∃ J, am_cal d 92 [.ref (am_mk 10 0)] I R Q = some (none, J, R, Q) ∧ am_fr tc_S I J ∧ J 10 0 2 = nI (if a < L then a + 1 else a) := by
  have h1 := h.1
  by_cases e : a < L
  · have e1 : ¬ L ≤ a := by omega
    refine ⟨am_sI I 10 0 (am_uI (I 10 0) 2 (nI (a + 1))), ?_, fr_s fr_rf ⟨rfl, rfl⟩, by rw [sI_eq, uI_eq, if_pos e]⟩
    rw [s92]
    simp (disch := first | omega | assumption) only [s92_0, s92_1, s92_4, s92_5, s92_8, s92_11, s92_12, s92_13, s92_16, s92_17, s92_18, s92_21, nI_le2, nI_lt2, nI_eq2, nI_lt0, nI_0le, nI_0lt, nI_le0, nI_eq0, nI_clamp, nI_add, bu_nI, bb_0, bb_1, rf_s, rf_n, tl_s, tl_n, am_th_some, if_true, if_false, sI_eq, uI_eq, and_self, true_and, and_true, not_false_eq_true, not_true_eq_false, Nat.reduceEqDiff, Nat.reduceLeDiff, Nat.reduceLT, Nat.reduceAdd, Nat.reduceMul, Nat.reduceSub, Nat.zero_add, ha, h1, e1]
  · have e1 : L ≤ a := by omega
    refine ⟨I, ?_, fr_rf, by rw [if_neg e]; exact ha⟩
    rw [s92]
    simp (disch := first | omega | assumption) only [s92_0, s92_1, s92_4, s92_5, s92_8, s92_11, s92_12, s92_13, s92_16, s92_17, s92_18, s92_21, nI_le2, nI_lt2, nI_eq2, nI_lt0, nI_0le, nI_0lt, nI_le0, nI_eq0, nI_clamp, nI_add, bu_nI, bb_0, bb_1, rf_s, rf_n, tl_s, tl_n, am_th_some, if_true, if_false, sI_eq, uI_eq, and_self, true_and, and_true, not_false_eq_true, not_true_eq_false, Nat.reduceEqDiff, Nat.reduceLeDiff, Nat.reduceLT, Nat.reduceAdd, Nat.reduceMul, Nat.reduceSub, Nat.zero_add, ha, h1, e1]
theorem c_passes (hr : tc_R R) (hk : tp_ok L B) (h : tc_at I L B) (ha : I 10 0 2 = nI a) (haL : a ≤ L) {x : Nat} (hx : x < 2 ^ 31) : ∃ J, am_cal (d + 2) 93 [.ref (am_mk 10 0), .int (nI x)] I R Q = some (some (.int (if sp_hr L B (sp_sk L B a) = x then nI 1 else nI 0)), J, R, Q) ∧ am_fr tc_S I J ∧ J 10 0 2 = nI (if sp_hr L B (sp_sk L B a) = x then sp_sk L B a + 1 else sp_sk L B a) := by
  obtain ⟨J, g1, g2, g3⟩ := c_sign (d := d) (Q := Q) hr hk h ha haL
  have e3 := hr_le (a := sp_sk L B a) hk
  have hL := hk.1
  have hs := sk_L (B := B) haL
  have hne : ((nI 1 : Int32) = 0) = False := by decide
  by_cases e : sp_hr L B (sp_sk L B a) = x
  · refine ⟨am_sI J 10 0 (am_uI (J 10 0) 2 (nI (sp_sk L B a + 1))), ?_, fr_s g2 ⟨rfl, rfl⟩, by rw [sI_eq, uI_eq, if_pos e]⟩
    rw [if_pos e, s93]
    simp (disch := first | omega | assumption) only [s93_0, s93_1, s93_4, s93_5, s93_8, s93_9, s93_12, s93_13, s93_14, s93_15, s93_18, s93_19, s93_20, s93_23, s93_24, s93_25, s93_28, s93_29, nI_le2, nI_lt2, nI_eq2, nI_lt0, nI_0le, nI_0lt, nI_le0, nI_eq0, nI_clamp, nI_add, bu_nI, bb_0, bb_1, rf_s, rf_n, tl_s, tl_n, am_th_some, if_true, if_false, sI_eq, uI_eq, and_self, true_and, and_true, not_false_eq_true, not_true_eq_false, Nat.reduceEqDiff, Nat.reduceLeDiff, Nat.reduceLT, Nat.reduceAdd, Nat.reduceMul, Nat.reduceSub, Nat.zero_add, g1, g3, e, hne]
  · refine ⟨J, ?_, g2, by rw [if_neg e]; exact g3⟩
    rw [if_neg e, s93]
    simp (disch := first | omega | assumption) only [s93_0, s93_1, s93_4, s93_5, s93_8, s93_9, s93_12, s93_13, s93_14, s93_15, s93_18, s93_19, s93_20, s93_23, s93_24, s93_25, s93_28, s93_29, nI_le2, nI_lt2, nI_eq2, nI_lt0, nI_0le, nI_0lt, nI_le0, nI_eq0, nI_clamp, nI_add, bu_nI, bb_0, bb_1, rf_s, rf_n, tl_s, tl_n, am_th_some, if_true, if_false, sI_eq, uI_eq, and_self, true_and, and_true, not_false_eq_true, not_true_eq_false, Nat.reduceEqDiff, Nat.reduceLeDiff, Nat.reduceLT, Nat.reduceAdd, Nat.reduceMul, Nat.reduceSub, Nat.zero_add, g1, g3, e, hne]
theorem c_digit (hr : tc_R R) (hk : tp_ok L B) (h : tc_at I L B) (ha : I 10 0 2 = nI a) (haL : a ≤ L) : am_cal (d + 1) 94 [.ref (am_mk 10 0)] I R Q = some (some (.int (if 48 ≤ sp_hr L B a ∧ sp_hr L B a ≤ 57 then nI 1 else nI 0)), I, R, Q) := by
  have hh := c_here (d := d) (Q := Q) hr hk h ha haL
  have e3 := hr_le (a := a) hk
  rw [s94]
  by_cases e : 48 ≤ sp_hr L B a
  · have e0 : ¬ sp_hr L B a < 48 := by omega
    by_cases e1 : sp_hr L B a ≤ 57
    · have e2 : ¬ 57 < sp_hr L B a := by omega
      rw [if_pos ⟨e, e1⟩]
      simp (disch := first | omega | assumption) only [s94_0, s94_1, s94_4, s94_6, s94_9, s94_10, s94_13, s94_15, s94_18, s94_19, s94_22, s94_23, nI_le2, nI_lt2, nI_eq2, nI_lt0, nI_0le, nI_0lt, nI_le0, nI_eq0, nI_clamp, nI_add, bu_nI, bb_0, bb_1, rf_s, rf_n, tl_s, tl_n, am_th_some, if_true, if_false, sI_eq, uI_eq, and_self, true_and, and_true, not_false_eq_true, not_true_eq_false, Nat.reduceEqDiff, Nat.reduceLeDiff, Nat.reduceLT, Nat.reduceAdd, Nat.reduceMul, Nat.reduceSub, Nat.zero_add, hh, e0, e2]
    · have e2 : 57 < sp_hr L B a := by omega
      rw [if_neg (fun w => e1 w.2)]
      simp (disch := first | omega | assumption) only [s94_0, s94_1, s94_4, s94_6, s94_9, s94_10, s94_13, s94_15, s94_18, s94_19, s94_22, s94_23, nI_le2, nI_lt2, nI_eq2, nI_lt0, nI_0le, nI_0lt, nI_le0, nI_eq0, nI_clamp, nI_add, bu_nI, bb_0, bb_1, rf_s, rf_n, tl_s, tl_n, am_th_some, if_true, if_false, sI_eq, uI_eq, and_self, true_and, and_true, not_false_eq_true, not_true_eq_false, Nat.reduceEqDiff, Nat.reduceLeDiff, Nat.reduceLT, Nat.reduceAdd, Nat.reduceMul, Nat.reduceSub, Nat.zero_add, hh, e0, e2]
  · have e0 : sp_hr L B a < 48 := by omega
    rw [if_neg (fun w => e w.1)]
    simp (disch := first | omega | assumption) only [s94_0, s94_1, s94_4, s94_6, s94_9, s94_10, s94_13, s94_15, s94_18, s94_19, s94_22, s94_23, nI_le2, nI_lt2, nI_eq2, nI_lt0, nI_0le, nI_0lt, nI_le0, nI_eq0, nI_clamp, nI_add, bu_nI, bb_0, bb_1, rf_s, rf_n, tl_s, tl_n, am_th_some, if_true, if_false, sI_eq, uI_eq, and_self, true_and, and_true, not_false_eq_true, not_true_eq_false, Nat.reduceEqDiff, Nat.reduceLeDiff, Nat.reduceLT, Nat.reduceAdd, Nat.reduceMul, Nat.reduceSub, Nat.zero_add, hh, e0]
end
