/-! LAW texts: compare, UNIT, TRUTH, CONDITION; the model. -/
def zm_T (L : Nat) (B : Nat → Nat) (N M dp a : Nat) (ok : Bool) (a' : Nat) (C : List Nat) : Prop := ∀ (d : Nat) (I : am_I) (R : am_R) (Q : am_Q) (n : Nat) (C0 : List Nat), N ≤ d → mm_R R → n < 5 → zm_at I L B n a dp C0 → C0.length ≤ a → ∃ (J1 J : am_I) (C1 : List Nat), am_cal d M [.ref (am_mk 12 0)] I R Q = some (none, J1, R, Q) ∧ am_cal d 178 [.ref (am_mk 12 0)] J1 R Q = some (none, J, R, Q) ∧ zm_P L B n dp a C0 ok a' C I J C1
section
variable {L a dp N a1 a2 a' : Nat} {B : Nat → Nat} {C1 C2 C' : List Nat} {ok1 ok2 ok' : Bool}
theorem zm_pNo (hk : tp_ok L B) (haL : a ≤ L) (e : ¬ sp_in 2 (sp_hr L B (sp_sk L B a))) : zm_K L B 4 176 dp a false (sp_sk L B a) [] := by
  intro d I R Q n C0 hN' hr hn h hl
  obtain ⟨d, rfl⟩ : ∃ q, d = q + 4 := ⟨d - 4, by omega⟩
  have hs := sk_L (B := B) haL
  have hL := hk.1
  have hx := hr_le (a := sp_sk L B a) hk
  have hw0 := h.2.2.1
  obtain ⟨J1, g1, f1, h1⟩ := zm_look (d := d + 2) (Q := Q) hr hk h haL
  have h12 := h1.2.1
  have hw1 := h1.2.2.1
  have gs := m_isSign (d := d + 3) (a := sp_sk L B a) (I := J1) (R := R) (Q := Q) hk
  rw [if_neg e] at gs
  obtain ⟨J2, g2, f2, h2, w2⟩ := zm_bad (d := d + 3) (R := R) (Q := Q) h1
  refine ⟨J2, C0, ?_, fr_tr f1 f2, fa_f, fun _ => ⟨h2, w2, by omega⟩⟩
  rw [s176]
  simp (disch := first | omega | assumption) only [s176_0, s176_1, s176_4, s176_5, s176_8, s176_9, s176_12, s176_15, s176_16, s176_17, s176_18, s176_21, s176_24, s176_25, s176_28, s176_29, s176_30, s176_31, s176_34, s176_35, s176_36, s176_39, s176_40, s176_43, s176_44, s176_45, s176_47, s176_50, s176_52, s176_55, s176_56, s176_58, s176_61, s176_63, s176_66, s176_68, s176_69, s176_72, nI_le2, nI_lt2, nI_eq2, nI_lt0, nI_0le, nI_0lt, nI_le0, nI_eq0, nI_clamp, nI_add, bu_nI, bb_0, bb_1, rf_s, rf_n, tl_s, tl_n, am_th_some, if_true, if_false, sI_eq, uI_eq, and_self, true_and, and_true, not_false_eq_true, not_true_eq_false, Nat.reduceEqDiff, Nat.reduceLeDiff, Nat.reduceLT, Nat.reduceAdd, Nat.reduceMul, Nat.reduceSub, Nat.zero_add, hw0, g1, gs, g2]
theorem zm_pAllf (hk : tp_ok L B) (haL : a ≤ L) (ha1 : a1 ≤ L) (hc : sp_sk L B a + 1 ≤ a1) (e : sp_in 2 (sp_hr L B (sp_sk L B a))) (hN : 4 ≤ N) (hi : zm_K L B N 174 dp (sp_sk L B a + 1) false a1 C1) : zm_K L B (N + 1) 176 dp a false a1 (C1 ++ [10000 + sp_hr L B (sp_sk L B a)]) := by
  intro d I R Q n C0 hN' hr hn h hl
  obtain ⟨d, rfl⟩ : ∃ q, d = q + 4 := ⟨d - 4, by omega⟩
  have hs := sk_L (B := B) haL
  have hL := hk.1
  have hx := hr_le (a := sp_sk L B a) hk
  have hw0 := h.2.2.1
  obtain ⟨J1, g1, f1, h1⟩ := zm_look (d := d + 2) (Q := Q) hr hk h haL
  have h12 := h1.2.1
  have hw1 := h1.2.2.1
  have gs := m_isSign (d := d + 3) (a := sp_sk L B a) (I := J1) (R := R) (Q := Q) hk
  rw [if_pos e] at gs
  have hne : ((nI 1 : Int32) = 0) = False := by decide
  obtain ⟨f2, h2⟩ := zm_3 (a' := sp_sk L B a + 1) h1
  obtain ⟨J3, C3, g3, f3, k3, m3⟩ := hi (d + 3) _ R Q n C0 (by omega) hr hn h2 (by omega)
  obtain ⟨h3, w3, l3⟩ := m3 rfl
  obtain ⟨J4, g4, f4, h4, w4⟩ := zw_put (d := d + 3) (Q := Q) hr hn h3 (by omega) (10000 + sp_hr L B (sp_sk L B a))
  refine ⟨J4, C3 ++ [10000 + sp_hr L B (sp_sk L B a)], ?_, fr_tr (fr_tr (fr_tr f1 f2) f3) f4, fa_f, fun _ => ⟨h4, w4.trans w3, by rw [List.length_append, List.length_singleton]; omega⟩⟩
  rcases zi_2.mp e with e1 | e1 | e1
  · have q1 := (hm_eq (a := sp_sk L B a) (x := 61) hk (by decide) (by decide)).trans (eq_true e1)
    rw [e1, show zl_k (10000 + 61) = 6 from rfl, show zl_v (10000 + 61) = 0 from rfl] at g4
    rw [s176]
    simp (disch := first | omega | assumption) only [s176_0, s176_1, s176_4, s176_5, s176_8, s176_9, s176_12, s176_15, s176_16, s176_17, s176_18, s176_21, s176_24, s176_25, s176_28, s176_29, s176_30, s176_31, s176_34, s176_35, s176_36, s176_39, s176_40, s176_43, s176_44, s176_45, s176_47, s176_50, s176_52, s176_55, s176_56, s176_58, s176_61, s176_63, s176_66, s176_68, s176_69, s176_72, nI_le2, nI_lt2, nI_eq2, nI_lt0, nI_0le, nI_0lt, nI_le0, nI_eq0, nI_clamp, nI_add, bu_nI, bb_0, bb_1, rf_s, rf_n, tl_s, tl_n, am_th_some, if_true, if_false, sI_eq, uI_eq, and_self, true_and, and_true, not_false_eq_true, not_true_eq_false, Nat.reduceEqDiff, Nat.reduceLeDiff, Nat.reduceLT, Nat.reduceAdd, Nat.reduceMul, Nat.reduceSub, Nat.zero_add, hw0, g1, gs, hne, h12, g3, q1, g4]
  · have q1 := (hm_eq (a := sp_sk L B a) (x := 61) hk (by decide) (by decide)).trans (eq_false (by rw [e1]; decide))
    have q2 := (hm_eq (a := sp_sk L B a) (x := 60) hk (by decide) (by decide)).trans (eq_true e1)
    rw [e1, show zl_k (10000 + 60) = 7 from rfl, show zl_v (10000 + 60) = 0 from rfl] at g4
    rw [s176]
    simp (disch := first | omega | assumption) only [s176_0, s176_1, s176_4, s176_5, s176_8, s176_9, s176_12, s176_15, s176_16, s176_17, s176_18, s176_21, s176_24, s176_25, s176_28, s176_29, s176_30, s176_31, s176_34, s176_35, s176_36, s176_39, s176_40, s176_43, s176_44, s176_45, s176_47, s176_50, s176_52, s176_55, s176_56, s176_58, s176_61, s176_63, s176_66, s176_68, s176_69, s176_72, nI_le2, nI_lt2, nI_eq2, nI_lt0, nI_0le, nI_0lt, nI_le0, nI_eq0, nI_clamp, nI_add, bu_nI, bb_0, bb_1, rf_s, rf_n, tl_s, tl_n, am_th_some, if_true, if_false, sI_eq, uI_eq, and_self, true_and, and_true, not_false_eq_true, not_true_eq_false, Nat.reduceEqDiff, Nat.reduceLeDiff, Nat.reduceLT, Nat.reduceAdd, Nat.reduceMul, Nat.reduceSub, Nat.zero_add, hw0, g1, gs, hne, h12, g3, q1, q2, g4]
  · have q1 := (hm_eq (a := sp_sk L B a) (x := 61) hk (by decide) (by decide)).trans (eq_false (by rw [e1]; decide))
    have q2 := (hm_eq (a := sp_sk L B a) (x := 60) hk (by decide) (by decide)).trans (eq_false (by rw [e1]; decide))
    rw [e1, show zl_k (10000 + 62) = 8 from rfl, show zl_v (10000 + 62) = 0 from rfl] at g4
    rw [s176]
    simp (disch := first | omega | assumption) only [s176_0, s176_1, s176_4, s176_5, s176_8, s176_9, s176_12, s176_15, s176_16, s176_17, s176_18, s176_21, s176_24, s176_25, s176_28, s176_29, s176_30, s176_31, s176_34, s176_35, s176_36, s176_39, s176_40, s176_43, s176_44, s176_45, s176_47, s176_50, s176_52, s176_55, s176_56, s176_58, s176_61, s176_63, s176_66, s176_68, s176_69, s176_72, nI_le2, nI_lt2, nI_eq2, nI_lt0, nI_0le, nI_0lt, nI_le0, nI_eq0, nI_clamp, nI_add, bu_nI, bb_0, bb_1, rf_s, rf_n, tl_s, tl_n, am_th_some, if_true, if_false, sI_eq, uI_eq, and_self, true_and, and_true, not_false_eq_true, not_true_eq_false, Nat.reduceEqDiff, Nat.reduceLeDiff, Nat.reduceLT, Nat.reduceAdd, Nat.reduceMul, Nat.reduceSub, Nat.zero_add, hw0, g1, gs, hne, h12, g3, q1, q2, g4]
theorem zm_pAllt (hk : tp_ok L B) (haL : a ≤ L) (ha1 : a1 ≤ L) (hc : sp_sk L B a + 1 ≤ a1) (hlC : C1.length + (sp_sk L B a + 1) ≤ a1) (e : sp_in 2 (sp_hr L B (sp_sk L B a))) (hN : 4 ≤ N) (hi : zm_K L B N 174 dp (sp_sk L B a + 1) true a1 C1) : zm_K L B (N + 1) 176 dp a true a1 (C1 ++ [10000 + sp_hr L B (sp_sk L B a)]) := by
  intro d I R Q n C0 hN' hr hn h hl
  obtain ⟨d, rfl⟩ : ∃ q, d = q + 4 := ⟨d - 4, by omega⟩
  have hs := sk_L (B := B) haL
  have hL := hk.1
  have hx := hr_le (a := sp_sk L B a) hk
  have hw0 := h.2.2.1
  obtain ⟨J1, g1, f1, h1⟩ := zm_look (d := d + 2) (Q := Q) hr hk h haL
  have h12 := h1.2.1
  have hw1 := h1.2.2.1
  have gs := m_isSign (d := d + 3) (a := sp_sk L B a) (I := J1) (R := R) (Q := Q) hk
  rw [if_pos e] at gs
  have hne : ((nI 1 : Int32) = 0) = False := by decide
  obtain ⟨f2, h2⟩ := zm_3 (a' := sp_sk L B a + 1) h1
  obtain ⟨J3, C3, g3, f3, k3, m3⟩ := hi (d + 3) _ R Q n C0 (by omega) hr hn h2 (by omega)
  have h3 := k3 rfl
  obtain ⟨J4, g4, f4, h4⟩ := zm_put (d := d + 3) (Q := Q) hr hn h3 (by rw [List.length_append]; omega) (10000 + sp_hr L B (sp_sk L B a))
  refine ⟨J4, C0, ?_, fr_tr (fr_tr (fr_tr f1 f2) f3) f4, fun _ => by rw [List.append_assoc] at h4; exact h4, fa_t⟩
  rcases zi_2.mp e with e1 | e1 | e1
  · have q1 := (hm_eq (a := sp_sk L B a) (x := 61) hk (by decide) (by decide)).trans (eq_true e1)
    rw [e1, show zl_k (10000 + 61) = 6 from rfl, show zl_v (10000 + 61) = 0 from rfl] at g4
    rw [s176]
    simp (disch := first | omega | assumption) only [s176_0, s176_1, s176_4, s176_5, s176_8, s176_9, s176_12, s176_15, s176_16, s176_17, s176_18, s176_21, s176_24, s176_25, s176_28, s176_29, s176_30, s176_31, s176_34, s176_35, s176_36, s176_39, s176_40, s176_43, s176_44, s176_45, s176_47, s176_50, s176_52, s176_55, s176_56, s176_58, s176_61, s176_63, s176_66, s176_68, s176_69, s176_72, nI_le2, nI_lt2, nI_eq2, nI_lt0, nI_0le, nI_0lt, nI_le0, nI_eq0, nI_clamp, nI_add, bu_nI, bb_0, bb_1, rf_s, rf_n, tl_s, tl_n, am_th_some, if_true, if_false, sI_eq, uI_eq, and_self, true_and, and_true, not_false_eq_true, not_true_eq_false, Nat.reduceEqDiff, Nat.reduceLeDiff, Nat.reduceLT, Nat.reduceAdd, Nat.reduceMul, Nat.reduceSub, Nat.zero_add, hw0, g1, gs, hne, h12, g3, q1, g4]
  · have q1 := (hm_eq (a := sp_sk L B a) (x := 61) hk (by decide) (by decide)).trans (eq_false (by rw [e1]; decide))
    have q2 := (hm_eq (a := sp_sk L B a) (x := 60) hk (by decide) (by decide)).trans (eq_true e1)
    rw [e1, show zl_k (10000 + 60) = 7 from rfl, show zl_v (10000 + 60) = 0 from rfl] at g4
    rw [s176]
    simp (disch := first | omega | assumption) only [s176_0, s176_1, s176_4, s176_5, s176_8, s176_9, s176_12, s176_15, s176_16, s176_17, s176_18, s176_21, s176_24, s176_25, s176_28, s176_29, s176_30, s176_31, s176_34, s176_35, s176_36, s176_39, s176_40, s176_43, s176_44, s176_45, s176_47, s176_50, s176_52, s176_55, s176_56, s176_58, s176_61, s176_63, s176_66, s176_68, s176_69, s176_72, nI_le2, nI_lt2, nI_eq2, nI_lt0, nI_0le, nI_0lt, nI_le0, nI_eq0, nI_clamp, nI_add, bu_nI, bb_0, bb_1, rf_s, rf_n, tl_s, tl_n, am_th_some, if_true, if_false, sI_eq, uI_eq, and_self, true_and, and_true, not_false_eq_true, not_true_eq_false, Nat.reduceEqDiff, Nat.reduceLeDiff, Nat.reduceLT, Nat.reduceAdd, Nat.reduceMul, Nat.reduceSub, Nat.zero_add, hw0, g1, gs, hne, h12, g3, q1, q2, g4]
  · have q1 := (hm_eq (a := sp_sk L B a) (x := 61) hk (by decide) (by decide)).trans (eq_false (by rw [e1]; decide))
    have q2 := (hm_eq (a := sp_sk L B a) (x := 60) hk (by decide) (by decide)).trans (eq_false (by rw [e1]; decide))
    rw [e1, show zl_k (10000 + 62) = 8 from rfl, show zl_v (10000 + 62) = 0 from rfl] at g4
    rw [s176]
    simp (disch := first | omega | assumption) only [s176_0, s176_1, s176_4, s176_5, s176_8, s176_9, s176_12, s176_15, s176_16, s176_17, s176_18, s176_21, s176_24, s176_25, s176_28, s176_29, s176_30, s176_31, s176_34, s176_35, s176_36, s176_39, s176_40, s176_43, s176_44, s176_45, s176_47, s176_50, s176_52, s176_55, s176_56, s176_58, s176_61, s176_63, s176_66, s176_68, s176_69, s176_72, nI_le2, nI_lt2, nI_eq2, nI_lt0, nI_0le, nI_0lt, nI_le0, nI_eq0, nI_clamp, nI_add, bu_nI, bb_0, bb_1, rf_s, rf_n, tl_s, tl_n, am_th_some, if_true, if_false, sI_eq, uI_eq, and_self, true_and, and_true, not_false_eq_true, not_true_eq_false, Nat.reduceEqDiff, Nat.reduceLeDiff, Nat.reduceLT, Nat.reduceAdd, Nat.reduceMul, Nat.reduceSub, Nat.zero_add, hw0, g1, gs, hne, h12, g3, q1, q2, g4]
theorem zm_uDeepN (hk : tp_ok L B) (haL : a ≤ L) (e : sp_hr L B (sp_sk L B a) = 33) : zm_K L B 4 177 6 a false (sp_sk L B a) [] := by
  intro d I R Q n C0 hN' hr hn h hl
  obtain ⟨d, rfl⟩ : ∃ q, d = q + 4 := ⟨d - 4, by omega⟩
  have hs := sk_L (B := B) haL
  have hL := hk.1
  have hx := hr_le (a := sp_sk L B a) hk
  have hw0 := h.2.2.1
  obtain ⟨J1, g1, f1, h1⟩ := zm_look (d := d + 2) (Q := Q) hr hk h haL
  have h12 := h1.2.1
  have hw1 := h1.2.2.1
  have q := (hm_eq (a := sp_sk L B a) (x := 33) hk (by decide) (by decide)).trans (eq_true e)
  obtain ⟨J2, g2, f2, h2, w2⟩ := zm_opensBad (d := d + 2) (R := R) (Q := Q) h1
  have hne : ¬ nI (sp_sk L B a) = -nI 1 := m1_ne (by omega)
  refine ⟨J2, C0, ?_, fr_tr f1 f2, fa_f, fun _ => ⟨h2, w2, by omega⟩⟩
  rw [s177]
  simp (disch := first | omega | assumption) only [s177_0, s177_1, s177_4, s177_5, s177_6, s177_8, s177_11, s177_12, s177_15, s177_16, s177_19, s177_20, s177_23, s177_24, s177_27, s177_28, s177_30, s177_31, s177_34, s177_35, s177_36, s177_39, s177_40, s177_41, s177_44, s177_47, s177_48, s177_50, s177_53, s177_54, s177_57, s177_58, s177_61, s177_62, s177_65, s177_66, s177_69, s177_70, s177_72, s177_75, s177_78, s177_79, s177_82, s177_83, s177_86, s177_87, s177_90, s177_91, s177_94, nI_le2, nI_lt2, nI_eq2, nI_lt0, nI_0le, nI_0lt, nI_le0, nI_eq0, nI_clamp, nI_add, bu_nI, bb_0, bb_1, rf_s, rf_n, tl_s, tl_n, am_th_some, if_true, if_false, sI_eq, uI_eq, and_self, true_and, and_true, not_false_eq_true, not_true_eq_false, Nat.reduceEqDiff, Nat.reduceLeDiff, Nat.reduceLT, Nat.reduceAdd, Nat.reduceMul, Nat.reduceSub, Nat.zero_add, g1, q,  g2, w2, hne]
theorem zm_uDeepP (hk : tp_ok L B) (haL : a ≤ L) (e : sp_hr L B (sp_sk L B a) = 40) : zm_K L B 4 177 6 a false (sp_sk L B a) [] := by
  intro d I R Q n C0 hN' hr hn h hl
  obtain ⟨d, rfl⟩ : ∃ q, d = q + 4 := ⟨d - 4, by omega⟩
  have hs := sk_L (B := B) haL
  have hL := hk.1
  have hx := hr_le (a := sp_sk L B a) hk
  have hw0 := h.2.2.1
  obtain ⟨J1, g1, f1, h1⟩ := zm_look (d := d + 2) (Q := Q) hr hk h haL
  have h12 := h1.2.1
  have hw1 := h1.2.2.1
  have q3 := (hm_eq (a := sp_sk L B a) (x := 33) hk (by decide) (by decide)).trans (eq_false (by rw [e]; decide))
  have q := (hm_eq (a := sp_sk L B a) (x := 40) hk (by decide) (by decide)).trans (eq_true e)
  obtain ⟨J2, g2, f2, h2, w2⟩ := zm_opensBad (d := d + 2) (R := R) (Q := Q) h1
  have hne : ¬ nI (sp_sk L B a) = -nI 1 := m1_ne (by omega)
  refine ⟨J2, C0, ?_, fr_tr f1 f2, fa_f, fun _ => ⟨h2, w2, by omega⟩⟩
  rw [s177]
  simp (disch := first | omega | assumption) only [s177_0, s177_1, s177_4, s177_5, s177_6, s177_8, s177_11, s177_12, s177_15, s177_16, s177_19, s177_20, s177_23, s177_24, s177_27, s177_28, s177_30, s177_31, s177_34, s177_35, s177_36, s177_39, s177_40, s177_41, s177_44, s177_47, s177_48, s177_50, s177_53, s177_54, s177_57, s177_58, s177_61, s177_62, s177_65, s177_66, s177_69, s177_70, s177_72, s177_75, s177_78, s177_79, s177_82, s177_83, s177_86, s177_87, s177_90, s177_91, s177_94, nI_le2, nI_lt2, nI_eq2, nI_lt0, nI_0le, nI_0lt, nI_le0, nI_eq0, nI_clamp, nI_add, bu_nI, bb_0, bb_1, rf_s, rf_n, tl_s, tl_n, am_th_some, if_true, if_false, sI_eq, uI_eq, and_self, true_and, and_true, not_false_eq_true, not_true_eq_false, Nat.reduceEqDiff, Nat.reduceLeDiff, Nat.reduceLT, Nat.reduceAdd, Nat.reduceMul, Nat.reduceSub, Nat.zero_add, g1, q, q3, g2, w2, hne]
theorem zm_uNotf (hk : tp_ok L B) (haL : a ≤ L) (ha1 : a1 ≤ L) (hc : sp_sk L B a + 1 ≤ a1) (e : sp_hr L B (sp_sk L B a) = 33) (hd : dp < 6) (hN : 4 ≤ N) (hi : zm_K L B N 177 (dp + 1) (sp_sk L B a + 1) false a1 C1) : zm_K L B (N + 1) 177 dp a false a1 (C1 ++ [10033]) := by
  intro d I R Q n C0 hN' hr hn h hl
  obtain ⟨d, rfl⟩ : ∃ q, d = q + 4 := ⟨d - 4, by omega⟩
  have hs := sk_L (B := B) haL
  have hL := hk.1
  have hx := hr_le (a := sp_sk L B a) hk
  have hw0 := h.2.2.1
  obtain ⟨J1, g1, f1, h1⟩ := zm_look (d := d + 2) (Q := Q) hr hk h haL
  have h12 := h1.2.1
  have hw1 := h1.2.2.1
  have q := (hm_eq (a := sp_sk L B a) (x := 33) hk (by decide) (by decide)).trans (eq_true e)
  obtain ⟨J2, g2, f2, h2⟩ := zm_opens (d := d + 2) (R := R) (Q := Q) h1 hd
  have hw2 := h2.2.2.1
  obtain ⟨J3, C3, g3, f3, k3, m3⟩ := hi (d + 3) _ R Q n C0 (by omega) hr hn h2 (by omega)
  obtain ⟨h3, w3, l3⟩ := m3 rfl
  obtain ⟨J4, g4, f4, h4, w4⟩ := zw_put (d := d + 3) (Q := Q) hr hn h3 (by omega) 10033
  rw [show zl_k 10033 = 9 from rfl, show zl_v 10033 = 0 from rfl] at g4
  obtain ⟨f5, h5, w5⟩ := zf_5 (x := J4 12 0 5 - nI 1) h4
  refine ⟨_, C3 ++ [10033], ?_, fr_tr (fr_tr (fr_tr (fr_tr f1 f2) f3) f4) f5, fa_f, fun _ => ⟨h5, w5.trans (w4.trans w3), by rw [List.length_append, List.length_singleton]; omega⟩⟩
  rw [s177]
  simp (disch := first | omega | assumption) only [s177_0, s177_1, s177_4, s177_5, s177_6, s177_8, s177_11, s177_12, s177_15, s177_16, s177_19, s177_20, s177_23, s177_24, s177_27, s177_28, s177_30, s177_31, s177_34, s177_35, s177_36, s177_39, s177_40, s177_41, s177_44, s177_47, s177_48, s177_50, s177_53, s177_54, s177_57, s177_58, s177_61, s177_62, s177_65, s177_66, s177_69, s177_70, s177_72, s177_75, s177_78, s177_79, s177_82, s177_83, s177_86, s177_87, s177_90, s177_91, s177_94, nI_le2, nI_lt2, nI_eq2, nI_lt0, nI_0le, nI_0lt, nI_le0, nI_eq0, nI_clamp, nI_add, bu_nI, bb_0, bb_1, rf_s, rf_n, tl_s, tl_n, am_th_some, if_true, if_false, sI_eq, uI_eq, and_self, true_and, and_true, not_false_eq_true, not_true_eq_false, Nat.reduceEqDiff, Nat.reduceLeDiff, Nat.reduceLT, Nat.reduceAdd, Nat.reduceMul, Nat.reduceSub, Nat.zero_add, g1, q, g2, hw2, g3, g4]
theorem zm_uNott (hk : tp_ok L B) (haL : a ≤ L) (ha1 : a1 ≤ L) (hc : sp_sk L B a + 1 ≤ a1) (hlC : C1.length + (sp_sk L B a + 1) ≤ a1) (e : sp_hr L B (sp_sk L B a) = 33) (hd : dp < 6) (hN : 4 ≤ N) (hi : zm_K L B N 177 (dp + 1) (sp_sk L B a + 1) true a1 C1) : zm_K L B (N + 1) 177 dp a true a1 (C1 ++ [10033]) := by
  intro d I R Q n C0 hN' hr hn h hl
  obtain ⟨d, rfl⟩ : ∃ q, d = q + 4 := ⟨d - 4, by omega⟩
  have hs := sk_L (B := B) haL
  have hL := hk.1
  have hx := hr_le (a := sp_sk L B a) hk
  have hw0 := h.2.2.1
  obtain ⟨J1, g1, f1, h1⟩ := zm_look (d := d + 2) (Q := Q) hr hk h haL
  have h12 := h1.2.1
  have hw1 := h1.2.2.1
  have q := (hm_eq (a := sp_sk L B a) (x := 33) hk (by decide) (by decide)).trans (eq_true e)
  obtain ⟨J2, g2, f2, h2⟩ := zm_opens (d := d + 2) (R := R) (Q := Q) h1 hd
  have hw2 := h2.2.2.1
  obtain ⟨J3, C3, g3, f3, k3, m3⟩ := hi (d + 3) _ R Q n C0 (by omega) hr hn h2 (by omega)
  have h3 := k3 rfl
  obtain ⟨J4, g4, f4, h4⟩ := zm_put (d := d + 3) (Q := Q) hr hn h3 (by rw [List.length_append]; omega) 10033
  rw [show zl_k 10033 = 9 from rfl, show zl_v 10033 = 0 from rfl] at g4
  have h45 := h4.2.2.2.1
  have e1 : nI (dp + 1) - nI 1 = nI dp := nI_sub (by omega)
  obtain ⟨f5, h5⟩ := zm_5 (a' := dp) h4
  refine ⟨_, C0, ?_, fr_tr (fr_tr (fr_tr (fr_tr f1 f2) f3) f4) f5, fun _ => by rw [List.append_assoc] at h5; exact h5, fa_t⟩
  rw [s177]
  simp (disch := first | omega | assumption) only [s177_0, s177_1, s177_4, s177_5, s177_6, s177_8, s177_11, s177_12, s177_15, s177_16, s177_19, s177_20, s177_23, s177_24, s177_27, s177_28, s177_30, s177_31, s177_34, s177_35, s177_36, s177_39, s177_40, s177_41, s177_44, s177_47, s177_48, s177_50, s177_53, s177_54, s177_57, s177_58, s177_61, s177_62, s177_65, s177_66, s177_69, s177_70, s177_72, s177_75, s177_78, s177_79, s177_82, s177_83, s177_86, s177_87, s177_90, s177_91, s177_94, nI_le2, nI_lt2, nI_eq2, nI_lt0, nI_0le, nI_0lt, nI_le0, nI_eq0, nI_clamp, nI_add, bu_nI, bb_0, bb_1, rf_s, rf_n, tl_s, tl_n, am_th_some, if_true, if_false, sI_eq, uI_eq, and_self, true_and, and_true, not_false_eq_true, not_true_eq_false, Nat.reduceEqDiff, Nat.reduceLeDiff, Nat.reduceLT, Nat.reduceAdd, Nat.reduceMul, Nat.reduceSub, Nat.zero_add, g1, q, g2, hw2, g3, g4, h45, e1]
theorem zm_uFail (hk : tp_ok L B) (haL : a ≤ L) (ha1 : a1 ≤ L) (hc : sp_sk L B a + 1 ≤ a1) (e : sp_hr L B (sp_sk L B a) = 40) (hd : dp < 6) (hN : 4 ≤ N) (hi : zm_K L B N 180 (dp + 1) (sp_sk L B a + 1) false a1 C1) : zm_K L B (N + 1) 177 dp a false a1 [] := by
  intro d I R Q n C0 hN' hr hn h hl
  obtain ⟨d, rfl⟩ : ∃ q, d = q + 4 := ⟨d - 4, by omega⟩
  have hs := sk_L (B := B) haL
  have hL := hk.1
  have hx := hr_le (a := sp_sk L B a) hk
  have hw0 := h.2.2.1
  obtain ⟨J1, g1, f1, h1⟩ := zm_look (d := d + 2) (Q := Q) hr hk h haL
  have h12 := h1.2.1
  have hw1 := h1.2.2.1
  have q3 := (hm_eq (a := sp_sk L B a) (x := 33) hk (by decide) (by decide)).trans (eq_false (by rw [e]; decide))
  have q := (hm_eq (a := sp_sk L B a) (x := 40) hk (by decide) (by decide)).trans (eq_true e)
  have hs1 := sk_L (B := B) ha1
  obtain ⟨J2, g2, f2, h2⟩ := zm_opens (d := d + 2) (R := R) (Q := Q) h1 hd
  have hw2 := h2.2.2.1
  obtain ⟨J3, C3, g3, f3, k3, m3⟩ := hi (d + 3) J2 R Q n C0 (by omega) hr hn h2 (by omega)
  obtain ⟨h3, w3, l3⟩ := m3 rfl
  obtain ⟨J4, g4, f4, h4, w4⟩ := zw_closes (d := d + 3) (R := R) (Q := Q) (c := nI 41) h3 w3 (by omega)
  refine ⟨J4, C3, ?_, fr_tr (fr_tr (fr_tr f1 f2) f3) f4, fa_f, fun _ => ⟨h4, w4, by omega⟩⟩
  rw [s177]
  simp (disch := first | omega | assumption) only [s177_0, s177_1, s177_4, s177_5, s177_6, s177_8, s177_11, s177_12, s177_15, s177_16, s177_19, s177_20, s177_23, s177_24, s177_27, s177_28, s177_30, s177_31, s177_34, s177_35, s177_36, s177_39, s177_40, s177_41, s177_44, s177_47, s177_48, s177_50, s177_53, s177_54, s177_57, s177_58, s177_61, s177_62, s177_65, s177_66, s177_69, s177_70, s177_72, s177_75, s177_78, s177_79, s177_82, s177_83, s177_86, s177_87, s177_90, s177_91, s177_94, nI_le2, nI_lt2, nI_eq2, nI_lt0, nI_0le, nI_0lt, nI_le0, nI_eq0, nI_clamp, nI_add, bu_nI, bb_0, bb_1, rf_s, rf_n, tl_s, tl_n, am_th_some, if_true, if_false, sI_eq, uI_eq, and_self, true_and, and_true, not_false_eq_true, not_true_eq_false, Nat.reduceEqDiff, Nat.reduceLeDiff, Nat.reduceLT, Nat.reduceAdd, Nat.reduceMul, Nat.reduceSub, Nat.zero_add, g1, q3, q, g2, hw2, g3, g4]
theorem zm_uClose (hk : tp_ok L B) (haL : a ≤ L) (ha1 : a1 ≤ L) (hc : sp_sk L B a + 1 ≤ a1) (e : sp_hr L B (sp_sk L B a) = 40) (hd : dp < 6) (hN : 4 ≤ N) (hi : zm_K L B N 180 (dp + 1) (sp_sk L B a + 1) true a1 C1) (e2 : sp_hr L B (sp_sk L B a1) = 41) : zm_K L B (N + 1) 177 dp a true (sp_sk L B a1 + 1) C1 := by
  intro d I R Q n C0 hN' hr hn h hl
  obtain ⟨d, rfl⟩ : ∃ q, d = q + 4 := ⟨d - 4, by omega⟩
  have hs := sk_L (B := B) haL
  have hL := hk.1
  have hx := hr_le (a := sp_sk L B a) hk
  have hw0 := h.2.2.1
  obtain ⟨J1, g1, f1, h1⟩ := zm_look (d := d + 2) (Q := Q) hr hk h haL
  have h12 := h1.2.1
  have hw1 := h1.2.2.1
  have q3 := (hm_eq (a := sp_sk L B a) (x := 33) hk (by decide) (by decide)).trans (eq_false (by rw [e]; decide))
  have q := (hm_eq (a := sp_sk L B a) (x := 40) hk (by decide) (by decide)).trans (eq_true e)
  have hs1 := sk_L (B := B) ha1
  obtain ⟨J2, g2, f2, h2⟩ := zm_opens (d := d + 2) (R := R) (Q := Q) h1 hd
  have hw2 := h2.2.2.1
  obtain ⟨J3, C3, g3, f3, k3, m3⟩ := hi (d + 3) J2 R Q n C0 (by omega) hr hn h2 (by omega)
  have h3 := k3 rfl
  obtain ⟨J4, g4, f4, h4⟩ := zm_closes (d := d + 1) (Q := Q) (c := 41) hr hk h3 ha1 (by decide) (by decide) e2
  refine ⟨J4, C3, ?_, fr_tr (fr_tr (fr_tr f1 f2) f3) f4, fun _ => h4, fa_t⟩
  rw [s177]
  simp (disch := first | omega | assumption) only [s177_0, s177_1, s177_4, s177_5, s177_6, s177_8, s177_11, s177_12, s177_15, s177_16, s177_19, s177_20, s177_23, s177_24, s177_27, s177_28, s177_30, s177_31, s177_34, s177_35, s177_36, s177_39, s177_40, s177_41, s177_44, s177_47, s177_48, s177_50, s177_53, s177_54, s177_57, s177_58, s177_61, s177_62, s177_65, s177_66, s177_69, s177_70, s177_72, s177_75, s177_78, s177_79, s177_82, s177_83, s177_86, s177_87, s177_90, s177_91, s177_94, nI_le2, nI_lt2, nI_eq2, nI_lt0, nI_0le, nI_0lt, nI_le0, nI_eq0, nI_clamp, nI_add, bu_nI, bb_0, bb_1, rf_s, rf_n, tl_s, tl_n, am_th_some, if_true, if_false, sI_eq, uI_eq, and_self, true_and, and_true, not_false_eq_true, not_true_eq_false, Nat.reduceEqDiff, Nat.reduceLeDiff, Nat.reduceLT, Nat.reduceAdd, Nat.reduceMul, Nat.reduceSub, Nat.zero_add, g1, q3, q, g2, hw2, g3, g4]
theorem zm_uOpen (hk : tp_ok L B) (haL : a ≤ L) (ha1 : a1 ≤ L) (hc : sp_sk L B a + 1 ≤ a1) (e : sp_hr L B (sp_sk L B a) = 40) (hd : dp < 6) (hN : 4 ≤ N) (hi : zm_K L B N 180 (dp + 1) (sp_sk L B a + 1) true a1 C1) (hlC : C1.length + (sp_sk L B a + 1) ≤ a1) (e2 : ¬ sp_hr L B (sp_sk L B a1) = 41) : zm_K L B (N + 1) 177 dp a false (sp_sk L B a1) [] := by
  intro d I R Q n C0 hN' hr hn h hl
  obtain ⟨d, rfl⟩ : ∃ q, d = q + 4 := ⟨d - 4, by omega⟩
  have hs := sk_L (B := B) haL
  have hL := hk.1
  have hx := hr_le (a := sp_sk L B a) hk
  have hw0 := h.2.2.1
  obtain ⟨J1, g1, f1, h1⟩ := zm_look (d := d + 2) (Q := Q) hr hk h haL
  have h12 := h1.2.1
  have hw1 := h1.2.2.1
  have q3 := (hm_eq (a := sp_sk L B a) (x := 33) hk (by decide) (by decide)).trans (eq_false (by rw [e]; decide))
  have q := (hm_eq (a := sp_sk L B a) (x := 40) hk (by decide) (by decide)).trans (eq_true e)
  have hs1 := sk_L (B := B) ha1
  obtain ⟨J2, g2, f2, h2⟩ := zm_opens (d := d + 2) (R := R) (Q := Q) h1 hd
  have hw2 := h2.2.2.1
  obtain ⟨J3, C3, g3, f3, k3, m3⟩ := hi (d + 3) J2 R Q n C0 (by omega) hr hn h2 (by omega)
  have h3 := k3 rfl
  obtain ⟨J4, g4, f4, h4, w4⟩ := zm_closesNo (d := d + 1) (Q := Q) (c := 41) hr hk h3 ha1 (by decide) (by decide) e2
  refine ⟨J4, C0 ++ C1, ?_, fr_tr (fr_tr (fr_tr f1 f2) f3) f4, fa_f, fun _ => ⟨h4, w4, by rw [List.length_append]; omega⟩⟩
  rw [s177]
  simp (disch := first | omega | assumption) only [s177_0, s177_1, s177_4, s177_5, s177_6, s177_8, s177_11, s177_12, s177_15, s177_16, s177_19, s177_20, s177_23, s177_24, s177_27, s177_28, s177_30, s177_31, s177_34, s177_35, s177_36, s177_39, s177_40, s177_41, s177_44, s177_47, s177_48, s177_50, s177_53, s177_54, s177_57, s177_58, s177_61, s177_62, s177_65, s177_66, s177_69, s177_70, s177_72, s177_75, s177_78, s177_79, s177_82, s177_83, s177_86, s177_87, s177_90, s177_91, s177_94, nI_le2, nI_lt2, nI_eq2, nI_lt0, nI_0le, nI_0lt, nI_le0, nI_eq0, nI_clamp, nI_add, bu_nI, bb_0, bb_1, rf_s, rf_n, tl_s, tl_n, am_th_some, if_true, if_false, sI_eq, uI_eq, and_self, true_and, and_true, not_false_eq_true, not_true_eq_false, Nat.reduceEqDiff, Nat.reduceLeDiff, Nat.reduceLT, Nat.reduceAdd, Nat.reduceMul, Nat.reduceSub, Nat.zero_add, g1, q3, q, g2, hw2, g3, g4]
theorem zm_uSumBad (hk : tp_ok L B) (haL : a ≤ L) (ha1 : a1 ≤ L) (e3 : ¬ sp_hr L B (sp_sk L B a) = 33) (e4 : ¬ sp_hr L B (sp_sk L B a) = 40) (hN : 4 ≤ N) (hi : zm_K L B N 174 dp (sp_sk L B a) false a1 C1) : zm_K L B (N + 1) 177 dp a false a1 [] := by
  intro d I R Q n C0 hN' hr hn h hl
  obtain ⟨d, rfl⟩ : ∃ q, d = q + 4 := ⟨d - 4, by omega⟩
  have hs := sk_L (B := B) haL
  have hL := hk.1
  have hx := hr_le (a := sp_sk L B a) hk
  have hw0 := h.2.2.1
  obtain ⟨J1, g1, f1, h1⟩ := zm_look (d := d + 2) (Q := Q) hr hk h haL
  have h12 := h1.2.1
  have hw1 := h1.2.2.1
  have q3 := (hm_eq (a := sp_sk L B a) (x := 33) hk (by decide) (by decide)).trans (eq_false e3)
  have q4 := (hm_eq (a := sp_sk L B a) (x := 40) hk (by decide) (by decide)).trans (eq_false e4)
  obtain ⟨J3, C3, g3, f3, -, m3⟩ := hi (d + 3) _ R Q n C0 (by omega) hr hn h1 (by omega)
  obtain ⟨h3, w3, l3⟩ := m3 rfl
  have hne : ¬ nI a1 = -nI 1 := m1_ne (by omega)
  refine ⟨J3, C3, ?_, fr_tr f1 f3, fa_f, fun _ => ⟨h3, w3, by omega⟩⟩
  rw [s177]
  simp (disch := first | omega | assumption) only [s177_0, s177_1, s177_4, s177_5, s177_6, s177_8, s177_11, s177_12, s177_15, s177_16, s177_19, s177_20, s177_23, s177_24, s177_27, s177_28, s177_30, s177_31, s177_34, s177_35, s177_36, s177_39, s177_40, s177_41, s177_44, s177_47, s177_48, s177_50, s177_53, s177_54, s177_57, s177_58, s177_61, s177_62, s177_65, s177_66, s177_69, s177_70, s177_72, s177_75, s177_78, s177_79, s177_82, s177_83, s177_86, s177_87, s177_90, s177_91, s177_94, nI_le2, nI_lt2, nI_eq2, nI_lt0, nI_0le, nI_0lt, nI_le0, nI_eq0, nI_clamp, nI_add, bu_nI, bb_0, bb_1, rf_s, rf_n, tl_s, tl_n, am_th_some, if_true, if_false, sI_eq, uI_eq, and_self, true_and, and_true, not_false_eq_true, not_true_eq_false, Nat.reduceEqDiff, Nat.reduceLeDiff, Nat.reduceLT, Nat.reduceAdd, Nat.reduceMul, Nat.reduceSub, Nat.zero_add, g1, q3, q4, g3, w3, hne]
theorem zm_uCmp (hk : tp_ok L B) (haL : a ≤ L) (ha1 : a1 ≤ L) (hlC : C1.length + sp_sk L B a ≤ a1) (e3 : ¬ sp_hr L B (sp_sk L B a) = 33) (e4 : ¬ sp_hr L B (sp_sk L B a) = 40) (hN : 4 ≤ N) (hi : zm_K L B N 174 dp (sp_sk L B a) true a1 C1) (hp : zm_K L B N 176 dp a1 ok2 a2 C2) : zm_K L B (N + 1) 177 dp a ok2 a2 (C1 ++ C2) := by
  intro d I R Q n C0 hN' hr hn h hl
  obtain ⟨d, rfl⟩ : ∃ q, d = q + 4 := ⟨d - 4, by omega⟩
  have hs := sk_L (B := B) haL
  have hL := hk.1
  have hx := hr_le (a := sp_sk L B a) hk
  have hw0 := h.2.2.1
  obtain ⟨J1, g1, f1, h1⟩ := zm_look (d := d + 2) (Q := Q) hr hk h haL
  have h12 := h1.2.1
  have hw1 := h1.2.2.1
  have q3 := (hm_eq (a := sp_sk L B a) (x := 33) hk (by decide) (by decide)).trans (eq_false e3)
  have q4 := (hm_eq (a := sp_sk L B a) (x := 40) hk (by decide) (by decide)).trans (eq_false e4)
  obtain ⟨J3, C3, g3, f3, k3, -⟩ := hi (d + 3) _ R Q n C0 (by omega) hr hn h1 (by omega)
  have h3 := k3 rfl
  have hw3 := h3.2.2.1
  obtain ⟨J4, C4, g4, f4, k4, m4⟩ := hp (d + 3) _ R Q n _ (by omega) hr hn h3 (by rw [List.length_append]; omega)
  refine ⟨J4, C4, ?_, fr_tr (fr_tr f1 f3) f4, fun w => by rw [← List.append_assoc]; exact k4 w, fun w => ?_⟩
  · rw [s177]
    simp (disch := first | omega | assumption) only [s177_0, s177_1, s177_4, s177_5, s177_6, s177_8, s177_11, s177_12, s177_15, s177_16, s177_19, s177_20, s177_23, s177_24, s177_27, s177_28, s177_30, s177_31, s177_34, s177_35, s177_36, s177_39, s177_40, s177_41, s177_44, s177_47, s177_48, s177_50, s177_53, s177_54, s177_57, s177_58, s177_61, s177_62, s177_65, s177_66, s177_69, s177_70, s177_72, s177_75, s177_78, s177_79, s177_82, s177_83, s177_86, s177_87, s177_90, s177_91, s177_94, nI_le2, nI_lt2, nI_eq2, nI_lt0, nI_0le, nI_0lt, nI_le0, nI_eq0, nI_clamp, nI_add, bu_nI, bb_0, bb_1, rf_s, rf_n, tl_s, tl_n, am_th_some, if_true, if_false, sI_eq, uI_eq, and_self, true_and, and_true, not_false_eq_true, not_true_eq_false, Nat.reduceEqDiff, Nat.reduceLeDiff, Nat.reduceLT, Nat.reduceAdd, Nat.reduceMul, Nat.reduceSub, Nat.zero_add, g1, q3, q4, g3, hw3, g4]
  · obtain ⟨z1, z2, z3⟩ := m4 w
    rw [List.length_append] at z3
    exact ⟨z1, z2, by omega⟩
theorem zm_nWrong {d : Nat} {I : am_I} {R : am_R} {Q : am_Q} {w : Nat} (hw : I 12 0 4 = nI w) (hwl : w < 2 ^ 31) : am_cal d 178 [.ref (am_mk 12 0)] I R Q = some (none, I, R, Q) := by
  have q : ¬ nI w = -nI 1 := m1_ne hwl
  rw [s178, s178_0]
  simp (disch := first | omega | assumption) only [s178_1, s178_4, s178_5, s178_8, s178_9, s178_12, s178_14, s178_17, s178_18, s178_19, s178_22, s178_23, s178_24, s178_27, s178_28, s178_31, s178_32, s178_34, s178_35, s178_38, s178_41, nI_le2, nI_lt2, nI_eq2, nI_lt0, nI_0le, nI_0lt, nI_le0, nI_eq0, nI_clamp, nI_add, bu_nI, bb_0, bb_1, rf_s, rf_n, tl_s, tl_n, am_th_some, if_true, if_false, sI_eq, uI_eq, and_self, true_and, and_true, not_false_eq_true, not_true_eq_false, Nat.reduceEqDiff, Nat.reduceLeDiff, Nat.reduceLT, Nat.reduceAdd, Nat.reduceMul, Nat.reduceSub, Nat.zero_add, hw, q]
theorem zm_oWrong {d : Nat} {I : am_I} {R : am_R} {Q : am_Q} {w : Nat} (hw : I 12 0 4 = nI w) (hwl : w < 2 ^ 31) : am_cal d 179 [.ref (am_mk 12 0)] I R Q = some (none, I, R, Q) := by
  have q : ¬ nI w = -nI 1 := m1_ne hwl
  rw [s179, s179_0]
  simp (disch := first | omega | assumption) only [s179_1, s179_4, s179_5, s179_8, s179_9, s179_12, s179_14, s179_17, s179_18, s179_19, s179_22, s179_23, s179_24, s179_27, s179_28, s179_31, s179_32, s179_35, s179_36, s179_38, s179_39, s179_42, s179_45, nI_le2, nI_lt2, nI_eq2, nI_lt0, nI_0le, nI_0lt, nI_le0, nI_eq0, nI_clamp, nI_add, bu_nI, bb_0, bb_1, rf_s, rf_n, tl_s, tl_n, am_th_some, if_true, if_false, sI_eq, uI_eq, and_self, true_and, and_true, not_false_eq_true, not_true_eq_false, Nat.reduceEqDiff, Nat.reduceLeDiff, Nat.reduceLT, Nat.reduceAdd, Nat.reduceMul, Nat.reduceSub, Nat.zero_add, hw, q]
theorem zm_nEnd (hk : tp_ok L B) (haL : a ≤ L) (e : ¬ sp_hr L B (sp_sk L B a) = 38) : zm_K L B 4 178 dp a true (sp_sk L B a) [] := by
  intro d I R Q n C0 hN' hr hn h hl
  obtain ⟨d, rfl⟩ : ∃ q, d = q + 4 := ⟨d - 4, by omega⟩
  have hs := sk_L (B := B) haL
  have hL := hk.1
  have hx := hr_le (a := sp_sk L B a) hk
  have hw0 := h.2.2.1
  obtain ⟨J1, g1, f1, h1⟩ := zm_look (d := d + 2) (Q := Q) hr hk h haL
  have h12 := h1.2.1
  have hw1 := h1.2.2.1
  have q := (hm_eq (a := sp_sk L B a) (x := 38) hk (by decide) (by decide)).trans (eq_false e)
  refine ⟨J1, C0, ?_, f1, fun _ => by rw [List.append_nil]; exact h1, fa_t⟩
  rw [s178, s178_0]
  simp (disch := first | omega | assumption) only [s178_1, s178_4, s178_5, s178_8, s178_9, s178_12, s178_14, s178_17, s178_18, s178_19, s178_22, s178_23, s178_24, s178_27, s178_28, s178_31, s178_32, s178_34, s178_35, s178_38, s178_41, nI_le2, nI_lt2, nI_eq2, nI_lt0, nI_0le, nI_0lt, nI_le0, nI_eq0, nI_clamp, nI_add, bu_nI, bb_0, bb_1, rf_s, rf_n, tl_s, tl_n, am_th_some, if_true, if_false, sI_eq, uI_eq, and_self, true_and, and_true, not_false_eq_true, not_true_eq_false, Nat.reduceEqDiff, Nat.reduceLeDiff, Nat.reduceLT, Nat.reduceAdd, Nat.reduceMul, Nat.reduceSub, Nat.zero_add, hw0, g1, q]
theorem zm_oEnd (hk : tp_ok L B) (haL : a ≤ L) (e : ¬ sp_hr L B (sp_sk L B a) = 124) : zm_K L B 4 179 dp a true (sp_sk L B a) [] := by
  intro d I R Q n C0 hN' hr hn h hl
  obtain ⟨d, rfl⟩ : ∃ q, d = q + 4 := ⟨d - 4, by omega⟩
  have hs := sk_L (B := B) haL
  have hL := hk.1
  have hx := hr_le (a := sp_sk L B a) hk
  have hw0 := h.2.2.1
  obtain ⟨J1, g1, f1, h1⟩ := zm_look (d := d + 2) (Q := Q) hr hk h haL
  have h12 := h1.2.1
  have hw1 := h1.2.2.1
  have q := (hm_eq (a := sp_sk L B a) (x := 124) hk (by decide) (by decide)).trans (eq_false e)
  refine ⟨J1, C0, ?_, f1, fun _ => by rw [List.append_nil]; exact h1, fa_t⟩
  rw [s179, s179_0]
  simp (disch := first | omega | assumption) only [s179_1, s179_4, s179_5, s179_8, s179_9, s179_12, s179_14, s179_17, s179_18, s179_19, s179_22, s179_23, s179_24, s179_27, s179_28, s179_31, s179_32, s179_35, s179_36, s179_38, s179_39, s179_42, s179_45, nI_le2, nI_lt2, nI_eq2, nI_lt0, nI_0le, nI_0lt, nI_le0, nI_eq0, nI_clamp, nI_add, bu_nI, bb_0, bb_1, rf_s, rf_n, tl_s, tl_n, am_th_some, if_true, if_false, sI_eq, uI_eq, and_self, true_and, and_true, not_false_eq_true, not_true_eq_false, Nat.reduceEqDiff, Nat.reduceLeDiff, Nat.reduceLT, Nat.reduceAdd, Nat.reduceMul, Nat.reduceSub, Nat.zero_add, hw0, g1, q]
theorem zm_nBad (hk : tp_ok L B) (haL : a ≤ L) (ha1 : a1 ≤ L) (hc : sp_sk L B a + 1 ≤ a1) (e : sp_hr L B (sp_sk L B a) = 38) (hN : 4 ≤ N) (hi : zm_K L B N 177 dp (sp_sk L B a + 1) false a1 C1) : zm_K L B (N + 1) 178 dp a false a1 [] := by
  intro d I R Q n C0 hN' hr hn h hl
  obtain ⟨d, rfl⟩ : ∃ q, d = q + 4 := ⟨d - 4, by omega⟩
  have hs := sk_L (B := B) haL
  have hL := hk.1
  have hx := hr_le (a := sp_sk L B a) hk
  have hw0 := h.2.2.1
  obtain ⟨J1, g1, f1, h1⟩ := zm_look (d := d + 2) (Q := Q) hr hk h haL
  have h12 := h1.2.1
  have hw1 := h1.2.2.1
  have q := (hm_eq (a := sp_sk L B a) (x := 38) hk (by decide) (by decide)).trans (eq_true e)
  obtain ⟨f2, h2⟩ := zm_3 (a' := sp_sk L B a + 1) h1
  obtain ⟨J3, C3, g3, f3, -, m3⟩ := hi (d + 3) _ R Q n C0 (by omega) hr hn h2 (by omega)
  obtain ⟨h3, w3, l3⟩ := m3 rfl
  obtain ⟨J4, g4, f4, h4, w4⟩ := zw_put (d := d + 3) (Q := Q) hr hn h3 (by omega) 10038
  rw [show zl_k 10038 = 10 from rfl, show zl_v 10038 = 0 from rfl] at g4
  have w4 := w4.trans w3
  have hne : ¬ nI a1 = -nI 1 := m1_ne (by omega)
  refine ⟨J4, C3 ++ [10038], ?_, fr_tr (fr_tr (fr_tr f1 f2) f3) f4, fa_f, fun _ => ⟨h4, w4, by rw [List.length_append, List.length_singleton]; omega⟩⟩
  rw [s178, s178_0]
  simp (disch := first | omega | assumption) only [s178_1, s178_4, s178_5, s178_8, s178_9, s178_12, s178_14, s178_17, s178_18, s178_19, s178_22, s178_23, s178_24, s178_27, s178_28, s178_31, s178_32, s178_34, s178_35, s178_38, s178_41, nI_le2, nI_lt2, nI_eq2, nI_lt0, nI_0le, nI_0lt, nI_le0, nI_eq0, nI_clamp, nI_add, bu_nI, bb_0, bb_1, rf_s, rf_n, tl_s, tl_n, am_th_some, if_true, if_false, sI_eq, uI_eq, and_self, true_and, and_true, not_false_eq_true, not_true_eq_false, Nat.reduceEqDiff, Nat.reduceLeDiff, Nat.reduceLT, Nat.reduceAdd, Nat.reduceMul, Nat.reduceSub, Nat.zero_add, hw0, g1, q, h12, g3, g4]
  rw [s178_0]
  simp (disch := first | omega | assumption) only [s178_1, s178_4, s178_5, s178_8, s178_9, s178_12, s178_14, s178_17, s178_18, s178_19, s178_22, s178_23, s178_24, s178_27, s178_28, s178_31, s178_32, s178_34, s178_35, s178_38, s178_41, nI_le2, nI_lt2, nI_eq2, nI_lt0, nI_0le, nI_0lt, nI_le0, nI_eq0, nI_clamp, nI_add, bu_nI, bb_0, bb_1, rf_s, rf_n, tl_s, tl_n, am_th_some, if_true, if_false, sI_eq, uI_eq, and_self, true_and, and_true, not_false_eq_true, not_true_eq_false, Nat.reduceEqDiff, Nat.reduceLeDiff, Nat.reduceLT, Nat.reduceAdd, Nat.reduceMul, Nat.reduceSub, Nat.zero_add, w4, hne]
theorem zm_nGo (hk : tp_ok L B) (haL : a ≤ L) (ha1 : a1 ≤ L) (hc : sp_sk L B a + 1 ≤ a1) (hlC : C1.length + (sp_sk L B a + 1) ≤ a1) (e : sp_hr L B (sp_sk L B a) = 38) (hN : 4 ≤ N) (hi : zm_K L B N 177 dp (sp_sk L B a + 1) true a1 C1) (hw : zm_K L B (N + 1) 178 dp a1 ok' a' C') : zm_K L B (N + 1) 178 dp a ok' a' (C1 ++ 10038 :: C') := by
  intro d I R Q n C0 hN' hr hn h hl
  obtain ⟨d, rfl⟩ : ∃ q, d = q + 4 := ⟨d - 4, by omega⟩
  have hs := sk_L (B := B) haL
  have hL := hk.1
  have hx := hr_le (a := sp_sk L B a) hk
  have hw0 := h.2.2.1
  obtain ⟨J1, g1, f1, h1⟩ := zm_look (d := d + 2) (Q := Q) hr hk h haL
  have h12 := h1.2.1
  have hw1 := h1.2.2.1
  have q := (hm_eq (a := sp_sk L B a) (x := 38) hk (by decide) (by decide)).trans (eq_true e)
  obtain ⟨f2, h2⟩ := zm_3 (a' := sp_sk L B a + 1) h1
  obtain ⟨J3, C3, g3, f3, k3, -⟩ := hi (d + 3) _ R Q n C0 (by omega) hr hn h2 (by omega)
  have h3 := k3 rfl
  obtain ⟨J4, g4, f4, h4⟩ := zm_put (d := d + 3) (Q := Q) hr hn h3 (by rw [List.length_append]; omega) 10038
  rw [show zl_k 10038 = 10 from rfl, show zl_v 10038 = 0 from rfl] at g4
  have hlen : (C0 ++ C1 ++ [10038]).length = C0.length + C1.length + 1 := by rw [List.length_append, List.length_singleton, List.length_append]
  obtain ⟨J6, C6, g6, f6, k6, m6⟩ := hw (d + 4) J4 R Q n _ hN' hr hn h4 (by rw [hlen]; omega)
  rw [s178] at g6
  refine ⟨J6, C6, ?_, fr_tr (fr_tr (fr_tr (fr_tr f1 f2) f3) f4) f6, fun w => ?_, fun w => ?_⟩
  · rw [s178, s178_0]
    simp (disch := first | omega | assumption) only [s178_1, s178_4, s178_5, s178_8, s178_9, s178_12, s178_14, s178_17, s178_18, s178_19, s178_22, s178_23, s178_24, s178_27, s178_28, s178_31, s178_32, s178_34, s178_35, s178_38, s178_41, nI_le2, nI_lt2, nI_eq2, nI_lt0, nI_0le, nI_0lt, nI_le0, nI_eq0, nI_clamp, nI_add, bu_nI, bb_0, bb_1, rf_s, rf_n, tl_s, tl_n, am_th_some, if_true, if_false, sI_eq, uI_eq, and_self, true_and, and_true, not_false_eq_true, not_true_eq_false, Nat.reduceEqDiff, Nat.reduceLeDiff, Nat.reduceLT, Nat.reduceAdd, Nat.reduceMul, Nat.reduceSub, Nat.zero_add, hw0, g1, q, h12, g3, g4]
    exact g6
  · have := k6 w
    simpa using this
  · obtain ⟨z1, z2, z3⟩ := m6 w
    exact ⟨z1, z2, by rw [hlen] at z3; omega⟩
theorem zm_TFail {M : Nat} (hk : tp_ok L B) (ha1 : a1 ≤ L) (hi : zm_K L B N M dp a false a1 C1) : zm_T L B N M dp a false a1 [] := by
  intro d I R Q n C0 hN' hr hn h hl
  have hL := hk.1
  obtain ⟨J3, C3, g3, f3, -, m3⟩ := hi d I R Q n C0 hN' hr hn h hl
  obtain ⟨h3, w3, l3⟩ := m3 rfl
  exact ⟨J3, J3, C3, g3, zm_nWrong w3 (by omega), f3, fa_f, fun _ => ⟨h3, w3, l3⟩⟩
theorem zm_TAll {M : Nat} (hlC : C1.length + a ≤ a1) (hi : zm_K L B N M dp a true a1 C1) (hw : zm_K L B N 178 dp a1 ok' a' C') : zm_T L B N M dp a ok' a' (C1 ++ C') := by
  intro d I R Q n C0 hN' hr hn h hl
  obtain ⟨J3, C3, g3, f3, k3, -⟩ := hi d I R Q n C0 hN' hr hn h hl
  have h3 := k3 rfl
  have hlen : (C0 ++ C1).length = C0.length + C1.length := List.length_append
  obtain ⟨J6, C6, g6, f6, k6, m6⟩ := hw d J3 R Q n _ hN' hr hn h3 (by rw [hlen]; omega)
  refine ⟨J3, J6, C6, g3, g6, fr_tr f3 f6, fun w => by rw [← List.append_assoc]; exact k6 w, fun w => ?_⟩
  obtain ⟨z1, z2, z3⟩ := m6 w
  exact ⟨z1, z2, by rw [hlen] at z3; omega⟩
theorem zm_oBad (hk : tp_ok L B) (haL : a ≤ L) (ha1 : a1 ≤ L) (hc : sp_sk L B a + 1 ≤ a1) (e : sp_hr L B (sp_sk L B a) = 124) (hN : 4 ≤ N) (hi : zm_T L B N 177 dp (sp_sk L B a + 1) false a1 C1) : zm_K L B (N + 1) 179 dp a false a1 [] := by
  intro d I R Q n C0 hN' hr hn h hl
  obtain ⟨d, rfl⟩ : ∃ q, d = q + 4 := ⟨d - 4, by omega⟩
  have hs := sk_L (B := B) haL
  have hL := hk.1
  have hx := hr_le (a := sp_sk L B a) hk
  have hw0 := h.2.2.1
  obtain ⟨J1, g1, f1, h1⟩ := zm_look (d := d + 2) (Q := Q) hr hk h haL
  have h12 := h1.2.1
  have hw1 := h1.2.2.1
  have q := (hm_eq (a := sp_sk L B a) (x := 124) hk (by decide) (by decide)).trans (eq_true e)
  obtain ⟨f2, h2⟩ := zm_3 (a' := sp_sk L B a + 1) h1
  obtain ⟨J2, J3, C3, g2, g3, f3, -, m3⟩ := hi (d + 3) _ R Q n C0 (by omega) hr hn h2 (by omega)
  obtain ⟨h3, w3, l3⟩ := m3 rfl
  obtain ⟨J4, g4, f4, h4, w4⟩ := zw_put (d := d + 3) (Q := Q) hr hn h3 (by omega) 10124
  rw [show zl_k 10124 = 11 from rfl, show zl_v 10124 = 0 from rfl] at g4
  have w4 := w4.trans w3
  have hne : ¬ nI a1 = -nI 1 := m1_ne (by omega)
  refine ⟨J4, C3 ++ [10124], ?_, fr_tr (fr_tr (fr_tr f1 f2) f3) f4, fa_f, fun _ => ⟨h4, w4, by rw [List.length_append, List.length_singleton]; omega⟩⟩
  rw [s179, s179_0]
  simp (disch := first | omega | assumption) only [s179_1, s179_4, s179_5, s179_8, s179_9, s179_12, s179_14, s179_17, s179_18, s179_19, s179_22, s179_23, s179_24, s179_27, s179_28, s179_31, s179_32, s179_35, s179_36, s179_38, s179_39, s179_42, s179_45, nI_le2, nI_lt2, nI_eq2, nI_lt0, nI_0le, nI_0lt, nI_le0, nI_eq0, nI_clamp, nI_add, bu_nI, bb_0, bb_1, rf_s, rf_n, tl_s, tl_n, am_th_some, if_true, if_false, sI_eq, uI_eq, and_self, true_and, and_true, not_false_eq_true, not_true_eq_false, Nat.reduceEqDiff, Nat.reduceLeDiff, Nat.reduceLT, Nat.reduceAdd, Nat.reduceMul, Nat.reduceSub, Nat.zero_add, hw0, g1, q, h12, g2, g3, g4]
  rw [s179_0]
  simp (disch := first | omega | assumption) only [s179_1, s179_4, s179_5, s179_8, s179_9, s179_12, s179_14, s179_17, s179_18, s179_19, s179_22, s179_23, s179_24, s179_27, s179_28, s179_31, s179_32, s179_35, s179_36, s179_38, s179_39, s179_42, s179_45, nI_le2, nI_lt2, nI_eq2, nI_lt0, nI_0le, nI_0lt, nI_le0, nI_eq0, nI_clamp, nI_add, bu_nI, bb_0, bb_1, rf_s, rf_n, tl_s, tl_n, am_th_some, if_true, if_false, sI_eq, uI_eq, and_self, true_and, and_true, not_false_eq_true, not_true_eq_false, Nat.reduceEqDiff, Nat.reduceLeDiff, Nat.reduceLT, Nat.reduceAdd, Nat.reduceMul, Nat.reduceSub, Nat.zero_add, w4, hne]
theorem zm_oGo (hk : tp_ok L B) (haL : a ≤ L) (ha1 : a1 ≤ L) (hc : sp_sk L B a + 1 ≤ a1) (hlC : C1.length + (sp_sk L B a + 1) ≤ a1) (e : sp_hr L B (sp_sk L B a) = 124) (hN : 4 ≤ N) (hi : zm_T L B N 177 dp (sp_sk L B a + 1) true a1 C1) (hw : zm_K L B (N + 1) 179 dp a1 ok' a' C') : zm_K L B (N + 1) 179 dp a ok' a' (C1 ++ 10124 :: C') := by
  intro d I R Q n C0 hN' hr hn h hl
  obtain ⟨d, rfl⟩ : ∃ q, d = q + 4 := ⟨d - 4, by omega⟩
  have hs := sk_L (B := B) haL
  have hL := hk.1
  have hx := hr_le (a := sp_sk L B a) hk
  have hw0 := h.2.2.1
  obtain ⟨J1, g1, f1, h1⟩ := zm_look (d := d + 2) (Q := Q) hr hk h haL
  have h12 := h1.2.1
  have hw1 := h1.2.2.1
  have q := (hm_eq (a := sp_sk L B a) (x := 124) hk (by decide) (by decide)).trans (eq_true e)
  obtain ⟨f2, h2⟩ := zm_3 (a' := sp_sk L B a + 1) h1
  obtain ⟨J2, J3, C3, g2, g3, f3, k3, -⟩ := hi (d + 3) _ R Q n C0 (by omega) hr hn h2 (by omega)
  have h3 := k3 rfl
  obtain ⟨J4, g4, f4, h4⟩ := zm_put (d := d + 3) (Q := Q) hr hn h3 (by rw [List.length_append]; omega) 10124
  rw [show zl_k 10124 = 11 from rfl, show zl_v 10124 = 0 from rfl] at g4
  have hlen : (C0 ++ C1 ++ [10124]).length = C0.length + C1.length + 1 := by rw [List.length_append, List.length_singleton, List.length_append]
  obtain ⟨J6, C6, g6, f6, k6, m6⟩ := hw (d + 4) J4 R Q n _ hN' hr hn h4 (by rw [hlen]; omega)
  rw [s179] at g6
  refine ⟨J6, C6, ?_, fr_tr (fr_tr (fr_tr (fr_tr f1 f2) f3) f4) f6, fun w => ?_, fun w => ?_⟩
  · rw [s179, s179_0]
    simp (disch := first | omega | assumption) only [s179_1, s179_4, s179_5, s179_8, s179_9, s179_12, s179_14, s179_17, s179_18, s179_19, s179_22, s179_23, s179_24, s179_27, s179_28, s179_31, s179_32, s179_35, s179_36, s179_38, s179_39, s179_42, s179_45, nI_le2, nI_lt2, nI_eq2, nI_lt0, nI_0le, nI_0lt, nI_le0, nI_eq0, nI_clamp, nI_add, bu_nI, bb_0, bb_1, rf_s, rf_n, tl_s, tl_n, am_th_some, if_true, if_false, sI_eq, uI_eq, and_self, true_and, and_true, not_false_eq_true, not_true_eq_false, Nat.reduceEqDiff, Nat.reduceLeDiff, Nat.reduceLT, Nat.reduceAdd, Nat.reduceMul, Nat.reduceSub, Nat.zero_add, hw0, g1, q, h12, g2, g3, g4]
    exact g6
  · have := k6 w
    simpa using this
  · obtain ⟨z1, z2, z3⟩ := m6 w
    exact ⟨z1, z2, by rw [hlen] at z3; omega⟩
theorem zm_dFail (hk : tp_ok L B) (ha1 : a1 ≤ L) (hN : 4 ≤ N) (hi : zm_T L B N 177 dp a false a1 C1) : zm_K L B (N + 1) 180 dp a false a1 [] := by
  intro d I R Q n C0 hN' hr hn h hl
  obtain ⟨d, rfl⟩ : ∃ q, d = q + 4 := ⟨d - 4, by omega⟩
  have hL := hk.1
  obtain ⟨J2, J3, C3, g2, g3, f3, -, m3⟩ := hi (d + 3) I R Q n C0 (by omega) hr hn h hl
  obtain ⟨h3, w3, l3⟩ := m3 rfl
  have g4 := zm_oWrong (d := d + 3) (R := R) (Q := Q) w3 (by omega)
  refine ⟨J3, C3, ?_, f3, fa_f, fun _ => ⟨h3, w3, l3⟩⟩
  rw [s180]
  simp (disch := first | omega | assumption) only [s180_0, s180_1, s180_4, s180_5, s180_8, s180_9, s180_12, nI_le2, nI_lt2, nI_eq2, nI_lt0, nI_0le, nI_0lt, nI_le0, nI_eq0, nI_clamp, nI_add, bu_nI, bb_0, bb_1, rf_s, rf_n, tl_s, tl_n, am_th_some, if_true, if_false, sI_eq, uI_eq, and_self, true_and, and_true, not_false_eq_true, not_true_eq_false, Nat.reduceEqDiff, Nat.reduceLeDiff, Nat.reduceLT, Nat.reduceAdd, Nat.reduceMul, Nat.reduceSub, Nat.zero_add, g2, g3, g4]
theorem zm_dAll (hN : 4 ≤ N) (hlC : C1.length + a ≤ a1) (hi : zm_T L B N 177 dp a true a1 C1) (hw : zm_K L B N 179 dp a1 ok' a' C') : zm_K L B (N + 1) 180 dp a ok' a' (C1 ++ C') := by
  intro d I R Q n C0 hN' hr hn h hl
  obtain ⟨d, rfl⟩ : ∃ q, d = q + 4 := ⟨d - 4, by omega⟩
  obtain ⟨J2, J3, C3, g2, g3, f3, k3, -⟩ := hi (d + 3) I R Q n C0 (by omega) hr hn h hl
  have h3 := k3 rfl
  have hlen : (C0 ++ C1).length = C0.length + C1.length := List.length_append
  obtain ⟨J6, C6, g6, f6, k6, m6⟩ := hw (d + 3) J3 R Q n _ (by omega) hr hn h3 (by rw [hlen]; omega)
  refine ⟨J6, C6, ?_, fr_tr f3 f6, fun w => by rw [← List.append_assoc]; exact k6 w, fun w => ?_⟩
  · rw [s180]
    simp (disch := first | omega | assumption) only [s180_0, s180_1, s180_4, s180_5, s180_8, s180_9, s180_12, nI_le2, nI_lt2, nI_eq2, nI_lt0, nI_0le, nI_0lt, nI_le0, nI_eq0, nI_clamp, nI_add, bu_nI, bb_0, bb_1, rf_s, rf_n, tl_s, tl_n, am_th_some, if_true, if_false, sI_eq, uI_eq, and_self, true_and, and_true, not_false_eq_true, not_true_eq_false, Nat.reduceEqDiff, Nat.reduceLeDiff, Nat.reduceLT, Nat.reduceAdd, Nat.reduceMul, Nat.reduceSub, Nat.zero_add, g2, g3, g6]
  · obtain ⟨z1, z2, z3⟩ := m6 w
    exact ⟨z1, z2, by rw [hlen] at z3; omega⟩
end
