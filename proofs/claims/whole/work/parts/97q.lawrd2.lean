/-! LAW texts: the readers, both sides. -/
def zR_S (n : Nat) : Nat → Nat → Nat → Prop := fun a b j => zr_S n a b j ∨ (a = 12 ∧ j = 14)
section
variable {L a a1 n : Nat} {B : Nat → Nat} {T U : List Nat} {w : Int32} {K : zl_K} {ok : Bool} {C : List Nat}
theorem zl_nil : zl_ok [] := fun p hp => by cases hp
theorem cls_cons : zl_cls ((T, U) :: K) = zl_cl T U ++ zl_cls K := by rw [zl_cls, List.flatMap_cons]; rfl
theorem fl_app {K' : zl_K} : zk_fl (K ++ K') = zk_fl K ++ zk_fl K' := by rw [zk_fl, List.flatMap_append]; rfl
theorem fl_one : zk_fl [(T, U)] = T ++ U := by simp [zk_fl]
theorem zcx_end (hk : tp_ok L B) (haL : a ≤ L) (e : ¬ sp_hr L B (sp_sk L B a) = 59) : zc_X L B a (if sp_sk L B a < L then nI (sp_sk L B a) else -nI 1) [] := by
  intro d I R Q C0 i l hN hr h hl hi
  obtain ⟨d, rfl⟩ : ∃ q, d = q + 4 := ⟨d - 4, by omega⟩
  have hs := sk_L (B := B) haL
  have hL := hk.1
  have r0 := hr.2.2.1
  obtain ⟨J1, g1, f1, h1⟩ := zc_passes (d := d + 1) (Q := Q) (x := 59) hr hk h haL (by decide)
  rw [if_neg e] at g1 h1
  obtain ⟨J2, g2, f2, h2⟩ := zc_sign (d := d + 2) (Q := Q) hr hk h1 hs.2
  rw [sk_sk] at g2 h2
  have h22 := h2.2.2.1
  have hx := hr_le (a := sp_sk L B a) hk
  refine ⟨J2, C0, ?_, fr_tr f1 f2, h2.2.2.2, by omega, fun _ => (List.append_nil C0).symm⟩
  by_cases q : sp_sk L B a < L
  · have q0 : ¬ sp_hr L B (sp_sk L B a) = 0 := fun w => by rw [hr_0 hk] at w; exact w q
    rw [if_pos q]
    simp (disch := first | omega | assumption) only [s35_0, s35_1, s35_4, s35_5, s35_8, s35_9, s35_12, s35_15, s35_16, s35_17, s35_18, s35_20, s35_23, s35_24, s35_27, s35_30, s35_31, s35_34, s35_37, s35_38, s35_41, s35_44, s35_45, s35_46, s35_49, s35_51, s35_54, s35_55, s35_58, s35_61, s35_62, s35_65, s35_68, s35_71, s35_72, s35_75, s35_76, s35_79, s35_82, nI_le2, nI_lt2, nI_eq2, nI_lt0, nI_0le, nI_0lt, nI_le0, nI_eq0, nI_clamp, nI_add, bu_nI, bb_0, bb_1, rf_s, rf_n, tl_s, tl_n, am_th_some, if_true, if_false, sI_eq, uI_eq, and_self, true_and, and_true, not_false_eq_true, not_true_eq_false, Nat.reduceEqDiff, Nat.reduceLeDiff, Nat.reduceLT, Nat.reduceAdd, Nat.reduceMul, Nat.reduceSub, Nat.zero_add, r0, g1]
    rw [s35_19]
    simp (disch := first | omega | assumption) only [s35_0, s35_1, s35_4, s35_5, s35_8, s35_9, s35_12, s35_15, s35_16, s35_17, s35_18, s35_20, s35_23, s35_24, s35_27, s35_30, s35_31, s35_34, s35_37, s35_38, s35_41, s35_44, s35_45, s35_46, s35_49, s35_51, s35_54, s35_55, s35_58, s35_61, s35_62, s35_65, s35_68, s35_71, s35_72, s35_75, s35_76, s35_79, s35_82, nI_le2, nI_lt2, nI_eq2, nI_lt0, nI_0le, nI_0lt, nI_le0, nI_eq0, nI_clamp, nI_add, bu_nI, bb_0, bb_1, rf_s, rf_n, tl_s, tl_n, am_th_some, if_true, if_false, sI_eq, uI_eq, and_self, true_and, and_true, not_false_eq_true, not_true_eq_false, Nat.reduceEqDiff, Nat.reduceLeDiff, Nat.reduceLT, Nat.reduceAdd, Nat.reduceMul, Nat.reduceSub, Nat.zero_add, r0, g2, q0, h22]
  · have q0 : sp_hr L B (sp_sk L B a) = 0 := (hr_0 hk).mpr q
    rw [if_neg q]
    simp (disch := first | omega | assumption) only [s35_0, s35_1, s35_4, s35_5, s35_8, s35_9, s35_12, s35_15, s35_16, s35_17, s35_18, s35_20, s35_23, s35_24, s35_27, s35_30, s35_31, s35_34, s35_37, s35_38, s35_41, s35_44, s35_45, s35_46, s35_49, s35_51, s35_54, s35_55, s35_58, s35_61, s35_62, s35_65, s35_68, s35_71, s35_72, s35_75, s35_76, s35_79, s35_82, nI_le2, nI_lt2, nI_eq2, nI_lt0, nI_0le, nI_0lt, nI_le0, nI_eq0, nI_clamp, nI_add, bu_nI, bb_0, bb_1, rf_s, rf_n, tl_s, tl_n, am_th_some, if_true, if_false, sI_eq, uI_eq, and_self, true_and, and_true, not_false_eq_true, not_true_eq_false, Nat.reduceEqDiff, Nat.reduceLeDiff, Nat.reduceLT, Nat.reduceAdd, Nat.reduceMul, Nat.reduceSub, Nat.zero_add, r0, g1]
    rw [s35_19]
    simp (disch := first | omega | assumption) only [s35_0, s35_1, s35_4, s35_5, s35_8, s35_9, s35_12, s35_15, s35_16, s35_17, s35_18, s35_20, s35_23, s35_24, s35_27, s35_30, s35_31, s35_34, s35_37, s35_38, s35_41, s35_44, s35_45, s35_46, s35_49, s35_51, s35_54, s35_55, s35_58, s35_61, s35_62, s35_65, s35_68, s35_71, s35_72, s35_75, s35_76, s35_79, s35_82, nI_le2, nI_lt2, nI_eq2, nI_lt0, nI_0le, nI_0lt, nI_le0, nI_eq0, nI_clamp, nI_add, bu_nI, bb_0, bb_1, rf_s, rf_n, tl_s, tl_n, am_th_some, if_true, if_false, sI_eq, uI_eq, and_self, true_and, and_true, not_false_eq_true, not_true_eq_false, Nat.reduceEqDiff, Nat.reduceLeDiff, Nat.reduceLT, Nat.reduceAdd, Nat.reduceMul, Nat.reduceSub, Nat.zero_add, r0, g2, q0]
theorem zcx_bad (hk : tp_ok L B) (haL : a ≤ L) (e : sp_hr L B (sp_sk L B a) = 59) (hc : zc_K L B 64 36 [.ref (am_mk 4 0)] (sp_sk L B a + 1) false a1 C) (ha1 : a1 ≤ L) : zc_X L B a (nI a1) [] := by
  intro d I R Q C0 i l hN hr h hl hi
  obtain ⟨d, rfl⟩ : ∃ q, d = q + 4 := ⟨d - 4, by omega⟩
  have hs := sk_L (B := B) haL
  have hlt := hr_ltx e (by decide)
  have hL := hk.1
  have r0 := hr.2.2.1
  have hne : ((nI 1 : Int32) = 0) = False := by decide
  have hi2 : ¬ 240 ≤ i + 1 := by omega
  obtain ⟨J1, g1, f1, h1⟩ := zc_passes (d := d + 1) (Q := Q) (x := 59) hr hk h haL (by decide)
  rw [if_pos e] at g1 h1
  obtain ⟨J2, C2, g2, f2, h2, l2, -⟩ := hc (d + 3) J1 R Q C0 (by omega) hr h1 (by omega)
  rw [if_neg (by decide)] at g2
  have h22 := h2.2.2.1
  refine ⟨J2, C2, ?_, fr_tr f1 f2, h2.2.2.2, by omega, fun w => absurd w (m1_ne (by omega))⟩
  simp (disch := first | omega | assumption) only [s35_0, s35_1, s35_4, s35_5, s35_8, s35_9, s35_12, s35_15, s35_16, s35_17, s35_18, s35_20, s35_23, s35_24, s35_27, s35_30, s35_31, s35_34, s35_37, s35_38, s35_41, s35_44, s35_45, s35_46, s35_49, s35_51, s35_54, s35_55, s35_58, s35_61, s35_62, s35_65, s35_68, s35_71, s35_72, s35_75, s35_76, s35_79, s35_82, nI_le2, nI_lt2, nI_eq2, nI_lt0, nI_0le, nI_0lt, nI_le0, nI_eq0, nI_clamp, nI_add, bu_nI, bb_0, bb_1, rf_s, rf_n, tl_s, tl_n, am_th_some, if_true, if_false, sI_eq, uI_eq, and_self, true_and, and_true, not_false_eq_true, not_true_eq_false, Nat.reduceEqDiff, Nat.reduceLeDiff, Nat.reduceLT, Nat.reduceAdd, Nat.reduceMul, Nat.reduceSub, Nat.zero_add, r0, g1]
  rw [s35_19]
  simp (disch := first | omega | assumption) only [s35_0, s35_1, s35_4, s35_5, s35_8, s35_9, s35_12, s35_15, s35_16, s35_17, s35_18, s35_20, s35_23, s35_24, s35_27, s35_30, s35_31, s35_34, s35_37, s35_38, s35_41, s35_44, s35_45, s35_46, s35_49, s35_51, s35_54, s35_55, s35_58, s35_61, s35_62, s35_65, s35_68, s35_71, s35_72, s35_75, s35_76, s35_79, s35_82, nI_le2, nI_lt2, nI_eq2, nI_lt0, nI_0le, nI_0lt, nI_le0, nI_eq0, nI_clamp, nI_add, bu_nI, bb_0, bb_1, rf_s, rf_n, tl_s, tl_n, am_th_some, if_true, if_false, sI_eq, uI_eq, and_self, true_and, and_true, not_false_eq_true, not_true_eq_false, Nat.reduceEqDiff, Nat.reduceLeDiff, Nat.reduceLT, Nat.reduceAdd, Nat.reduceMul, Nat.reduceSub, Nat.zero_add, r0, g2, hi2, h22, hne]
theorem zcx_go (hk : tp_ok L B) (haL : a ≤ L) (e : sp_hr L B (sp_sk L B a) = 59) (hc : zc_K L B 64 36 [.ref (am_mk 4 0)] (sp_sk L B a + 1) true a1 (zl_cl T U)) (ha1 : a1 ≤ L) (hp : sp_sk L B a + 1 + 2 ≤ a1) (hx : zc_X L B a1 w K) : zc_X L B a w ((T, U) :: K) := by
  intro d I R Q C0 i l hN hr h hl hi
  obtain ⟨d, rfl⟩ : ∃ q, d = q + 4 := ⟨d - 4, by omega⟩
  have hs := sk_L (B := B) haL
  have hlt := hr_ltx e (by decide)
  have hL := hk.1
  have r0 := hr.2.2.1
  have hne : ((nI 1 : Int32) = 0) = False := by decide
  have hi2 : ¬ 240 ≤ i + 1 := by omega
  obtain ⟨J1, g1, f1, h1⟩ := zc_passes (d := d + 1) (Q := Q) (x := 59) hr hk h haL (by decide)
  rw [if_pos e] at g1 h1
  obtain ⟨J2, C2, g2, f2, h2, l2, k2⟩ := hc (d + 3) J1 R Q C0 (by omega) hr h1 (by omega)
  rw [if_pos rfl] at g2
  obtain ⟨J3, C3, g3, f3, h3, b3, k3⟩ := hx (d + 4) J2 R Q C2 (i + 1) (.int (nI 1)) (by omega) hr h2 (by omega) (by omega)
  refine ⟨J3, C3, ?_, fr_tr (fr_tr f1 f2) f3, h3, b3, fun w => by rw [k3 w, k2 rfl, cls_cons, List.append_assoc]⟩
  simp (disch := first | omega | assumption) only [s35_0, s35_1, s35_4, s35_5, s35_8, s35_9, s35_12, s35_15, s35_16, s35_17, s35_18, s35_20, s35_23, s35_24, s35_27, s35_30, s35_31, s35_34, s35_37, s35_38, s35_41, s35_44, s35_45, s35_46, s35_49, s35_51, s35_54, s35_55, s35_58, s35_61, s35_62, s35_65, s35_68, s35_71, s35_72, s35_75, s35_76, s35_79, s35_82, nI_le2, nI_lt2, nI_eq2, nI_lt0, nI_0le, nI_0lt, nI_le0, nI_eq0, nI_clamp, nI_add, bu_nI, bb_0, bb_1, rf_s, rf_n, tl_s, tl_n, am_th_some, if_true, if_false, sI_eq, uI_eq, and_self, true_and, and_true, not_false_eq_true, not_true_eq_false, Nat.reduceEqDiff, Nat.reduceLeDiff, Nat.reduceLT, Nat.reduceAdd, Nat.reduceMul, Nat.reduceSub, Nat.zero_add, r0, g1]
  rw [s35_19]
  simp (disch := first | omega | assumption) only [s35_0, s35_1, s35_4, s35_5, s35_8, s35_9, s35_12, s35_15, s35_16, s35_17, s35_18, s35_20, s35_23, s35_24, s35_27, s35_30, s35_31, s35_34, s35_37, s35_38, s35_41, s35_44, s35_46, s35_49, s35_51, s35_54, s35_55, s35_58, s35_61, s35_62, s35_65, s35_68, s35_71, s35_72, s35_75, s35_76, s35_79, s35_82, nI_le2, nI_lt2, nI_eq2, nI_lt0, nI_0le, nI_0lt, nI_le0, nI_eq0, nI_clamp, nI_add, bu_nI, bb_0, bb_1, rf_s, rf_n, tl_s, tl_n, am_th_some, if_true, if_false, sI_eq, uI_eq, and_self, true_and, and_true, not_false_eq_true, not_true_eq_false, Nat.reduceEqDiff, Nat.reduceLeDiff, Nat.reduceLT, Nat.reduceAdd, Nat.reduceMul, Nat.reduceSub, Nat.zero_add, r0, g2, hi2, hne]
  exact g3
theorem m_atEnd {d dp : Nat} {I : am_I} {R : am_R} {Q : am_Q} {C : List Nat} (hr : mm_R R) (hk : tp_ok L B) (h : zm_at I L B n a dp C) (haL : a ≤ L) : ∃ J, am_cal (d + 2) 183 [.ref (am_mk 12 0)] I R Q = some (some (.int (if sp_sk L B a < L then nI (sp_sk L B a) else -nI 1)), J, R, Q) ∧ am_fr (zm_S n) I J ∧ zf_at J n C := by
  have hw0 := h.2.2.1
  obtain ⟨J1, g1, f1, h1⟩ := zm_look (d := d) (Q := Q) hr hk h haL
  have hw1 := h1.2.2.1
  have hm := hm_m1 (a := sp_sk L B a) hk
  by_cases q : sp_sk L B a < L
  · obtain ⟨J2, g2, f2, h2, w2⟩ := zm_bad (d := d + 1) (R := R) (Q := Q) h1
    refine ⟨J2, ?_, fr_tr f1 f2, h2⟩
    rw [if_pos q, s183]
    simp (disch := first | omega | assumption) only [s183_0, s183_1, s183_4, s183_5, s183_8, s183_9, s183_12, s183_13, s183_16, s183_17, s183_20, s183_21, s183_24, nI_le2, nI_lt2, nI_eq2, nI_lt0, nI_0le, nI_0lt, nI_le0, nI_eq0, nI_clamp, nI_add, bu_nI, bb_0, bb_1, rf_s, rf_n, tl_s, tl_n, am_th_some, if_true, if_false, sI_eq, uI_eq, and_self, true_and, and_true, not_false_eq_true, not_true_eq_false, Nat.reduceEqDiff, Nat.reduceLeDiff, Nat.reduceLT, Nat.reduceAdd, Nat.reduceMul, Nat.reduceSub, Nat.zero_add, hw0, g1, hm, q, g2, w2]
  · refine ⟨J1, ?_, f1, h1.2.2.2.2⟩
    rw [if_neg q, s183]
    simp (disch := first | omega | assumption) only [s183_0, s183_1, s183_4, s183_5, s183_8, s183_9, s183_12, s183_13, s183_16, s183_17, s183_20, s183_21, s183_24, nI_le2, nI_lt2, nI_eq2, nI_lt0, nI_0le, nI_0lt, nI_le0, nI_eq0, nI_clamp, nI_add, bu_nI, bb_0, bb_1, rf_s, rf_n, tl_s, tl_n, am_th_some, if_true, if_false, sI_eq, uI_eq, and_self, true_and, and_true, not_false_eq_true, not_true_eq_false, Nat.reduceEqDiff, Nat.reduceLeDiff, Nat.reduceLT, Nat.reduceAdd, Nat.reduceMul, Nat.reduceSub, Nat.zero_add, hw0, g1, hm, q, hw1]
theorem zmx_end (hk : tp_ok L B) (haL : a ≤ L) (e : ¬ sp_hr L B (sp_sk L B a) = 59) : zm_X L B a (if sp_sk L B a < L then nI (sp_sk L B a) else -nI 1) [] := by
  intro d I R Q n K0 hN hr hn h hz hl hi
  obtain ⟨d, rfl⟩ : ∃ q, d = q + 4 := ⟨d - 4, by omega⟩
  have hs := sk_L (B := B) haL
  have hw0 := h.2.2.1
  obtain ⟨J1, g1, f1, h1⟩ := zm_look (d := d + 2) (Q := Q) hr hk h haL
  have q := (hm_eq (a := sp_sk L B a) (x := 59) hk (by decide) (by decide)).trans (eq_false e)
  obtain ⟨J2, g2, f2, h2⟩ := m_atEnd (d := d + 1) (Q := Q) hr hk h1 hs.2
  rw [sk_sk] at g2
  refine ⟨J2, ?_, zrS_m (fr_tr f1 f2), fun _ => by rw [List.append_nil]; exact ⟨h2.2, zk_fr (zk_fr hz f1) f2⟩⟩
  rw [s184_9]
  simp (disch := first | omega | assumption) only [s184_0, s184_1, s184_2, s184_5, s184_6, s184_10, s184_13, s184_14, s184_17, s184_18, s184_21, s184_23, s184_26, s184_27, s184_28, s184_31, s184_32, s184_33, s184_36, s184_37, s184_40, s184_43, s184_44, s184_47, nI_le2, nI_lt2, nI_eq2, nI_lt0, nI_0le, nI_0lt, nI_le0, nI_eq0, nI_clamp, nI_add, bu_nI, bb_0, bb_1, rf_s, rf_n, tl_s, tl_n, am_th_some, if_true, if_false, sI_eq, uI_eq, and_self, true_and, and_true, not_false_eq_true, not_true_eq_false, Nat.reduceEqDiff, Nat.reduceLeDiff, Nat.reduceLT, Nat.reduceAdd, Nat.reduceMul, Nat.reduceSub, Nat.zero_add, hw0, g1, q, g2]
theorem zmx_bad (hk : tp_ok L B) (haL : a ≤ L) (ha1 : a1 ≤ L) (e : sp_hr L B (sp_sk L B a) = 59) (hc : zm_C L B (sp_sk L B a + 1) false a1 T U) : zm_X L B a (nI a1) [] := by
  intro d I R Q n K0 hN hr hn h hz hl hi
  obtain ⟨d, rfl⟩ : ∃ q, d = q + 4 := ⟨d - 4, by omega⟩
  have hs := sk_L (B := B) haL
  have hL := hk.1
  have hw0 := h.2.2.1
  obtain ⟨J1, g1, f1, h1⟩ := zm_look (d := d + 2) (Q := Q) hr hk h haL
  have h12 := h1.2.1
  have q := (hm_eq (a := sp_sk L B a) (x := 59) hk (by decide) (by decide)).trans (eq_true e)
  have hlt := hr_ltx e (by decide)
  obtain ⟨X2, e2, f2, h2⟩ := zs_3 h1 (sp_sk L B a + 1)
  obtain ⟨J3, g3, f3, -, m3⟩ := hc (d + 3) X2 R Q n K0.length (zk_fl K0) (by omega) hr hn (by omega) h2 (by omega) ((zm_4e (fr_tr f1 f2) 46 n (by decide)).trans hz.1)
  have w3 := m3 rfl
  have hne : ¬ nI a1 = -nI 1 := m1_ne (by omega)
  have g4 : am_cal (d + 3) 183 [.ref (am_mk 12 0)] J3 R Q = some (some (.int (nI a1)), J3, R, Q) := by
    rw [s183]
    simp (disch := first | omega | assumption) only [s183_0, s183_1, s183_4, s183_5, s183_8, s183_9, s183_12, s183_13, s183_16, s183_17, s183_20, s183_21, s183_24, nI_le2, nI_lt2, nI_eq2, nI_lt0, nI_0le, nI_0lt, nI_le0, nI_eq0, nI_clamp, nI_add, bu_nI, bb_0, bb_1, rf_s, rf_n, tl_s, tl_n, am_th_some, if_true, if_false, sI_eq, uI_eq, and_self, true_and, and_true, not_false_eq_true, not_true_eq_false, Nat.reduceEqDiff, Nat.reduceLeDiff, Nat.reduceLT, Nat.reduceAdd, Nat.reduceMul, Nat.reduceSub, Nat.zero_add, w3, hne]
  refine ⟨J3, ?_, fr_tr (zrS_m (fr_tr f1 f2)) (zrS_n (by omega) f3), fun w => absurd w hne⟩
  rw [s184_9]
  simp (disch := first | omega | assumption) only [s184_0, s184_1, s184_2, s184_5, s184_6, s184_10, s184_13, s184_14, s184_17, s184_18, s184_21, s184_23, s184_26, s184_27, s184_28, s184_31, s184_32, s184_33, s184_36, s184_37, s184_40, s184_43, s184_44, s184_47, nI_le2, nI_lt2, nI_eq2, nI_lt0, nI_0le, nI_0lt, nI_le0, nI_eq0, nI_clamp, nI_add, bu_nI, bb_0, bb_1, rf_s, rf_n, tl_s, tl_n, am_th_some, if_true, if_false, sI_eq, uI_eq, and_self, true_and, and_true, not_false_eq_true, not_true_eq_false, Nat.reduceEqDiff, Nat.reduceLeDiff, Nat.reduceLT, Nat.reduceAdd, Nat.reduceMul, Nat.reduceSub, Nat.zero_add, hw0, g1, q, h12, e2, g3]
  rw [s184_9]
  simp (disch := first | omega | assumption) only [s184_0, s184_1, s184_2, s184_5, s184_6, s184_10, s184_13, s184_14, s184_17, s184_18, s184_21, s184_23, s184_26, s184_27, s184_28, s184_31, s184_32, s184_33, s184_36, s184_37, s184_40, s184_43, s184_44, s184_47, nI_le2, nI_lt2, nI_eq2, nI_lt0, nI_0le, nI_0lt, nI_le0, nI_eq0, nI_clamp, nI_add, bu_nI, bb_0, bb_1, rf_s, rf_n, tl_s, tl_n, am_th_some, if_true, if_false, sI_eq, uI_eq, and_self, true_and, and_true, not_false_eq_true, not_true_eq_false, Nat.reduceEqDiff, Nat.reduceLeDiff, Nat.reduceLT, Nat.reduceAdd, Nat.reduceMul, Nat.reduceSub, Nat.zero_add, w3, hne, g4]
theorem zmx_go (hk : tp_ok L B) (haL : a ≤ L) (ha1 : a1 ≤ L) (e : sp_hr L B (sp_sk L B a) = 59) (hc : zm_C L B (sp_sk L B a + 1) true a1 T U) (hp : sp_sk L B a + 1 + 2 ≤ a1) (hlC : T.length + U.length + (sp_sk L B a + 1) ≤ a1) (hx : zm_X L B a1 w K) : zm_X L B a w ((T, U) :: K) := by
  intro d I R Q n K0 hN hr hn h hz hl hi
  obtain ⟨d, rfl⟩ : ∃ q, d = q + 4 := ⟨d - 4, by omega⟩
  have hs := sk_L (B := B) haL
  have hL := hk.1
  have hw0 := h.2.2.1
  obtain ⟨J1, g1, f1, h1⟩ := zm_look (d := d + 2) (Q := Q) hr hk h haL
  have h12 := h1.2.1
  have q := (hm_eq (a := sp_sk L B a) (x := 59) hk (by decide) (by decide)).trans (eq_true e)
  have hlt := hr_ltx e (by decide)
  obtain ⟨X2, e2, f2, h2⟩ := zs_3 h1 (sp_sk L B a + 1)
  obtain ⟨J3, g3, f3, k3, -⟩ := hc (d + 3) X2 R Q n K0.length (zk_fl K0) (by omega) hr hn (by omega) h2 (by omega) ((zm_4e (fr_tr f1 f2) 46 n (by decide)).trans hz.1)
  obtain ⟨p1, p2, p3, p4, p5⟩ := k3 rfl
  have hz3 : zk_at J3 n (K0 ++ [(T, U)]) := zk_app (zk_fr hz (fr_tr f1 f2)) f3 p2 p3 p4 p5
  have hfl : zk_fl (K0 ++ [(T, U)]) = zk_fl K0 ++ (T ++ U) := by rw [fl_app, fl_one]
  obtain ⟨J4, g4, f4, k4⟩ := hx (d + 4) J3 R Q n (K0 ++ [(T, U)]) (by omega) hr hn (by rw [hfl]; exact p1) hz3 (by rw [hfl, List.length_append, List.length_append]; omega) (by rw [List.length_append, List.length_singleton]; omega)
  refine ⟨J4, ?_, fr_tr (fr_tr (zrS_m (fr_tr f1 f2)) (zrS_n (by omega) f3)) f4, fun w => ?_⟩
  · rw [s184_9]
    simp (disch := first | omega | assumption) only [s184_0, s184_1, s184_2, s184_5, s184_6, s184_10, s184_13, s184_14, s184_17, s184_18, s184_21, s184_23, s184_26, s184_27, s184_28, s184_31, s184_32, s184_33, s184_36, s184_37, s184_40, s184_43, s184_44, s184_47, nI_le2, nI_lt2, nI_eq2, nI_lt0, nI_0le, nI_0lt, nI_le0, nI_eq0, nI_clamp, nI_add, bu_nI, bb_0, bb_1, rf_s, rf_n, tl_s, tl_n, am_th_some, if_true, if_false, sI_eq, uI_eq, and_self, true_and, and_true, not_false_eq_true, not_true_eq_false, Nat.reduceEqDiff, Nat.reduceLeDiff, Nat.reduceLT, Nat.reduceAdd, Nat.reduceMul, Nat.reduceSub, Nat.zero_add, hw0, g1, q, h12, e2, g3]
    exact g4
  · have := k4 w
    rw [List.append_assoc] at this
    exact this
/-- the rest behind a CLAUSE -/
theorem zj_rest (hk : tp_ok L B) : ∀ m a, L - a ≤ m → a ≤ L → ∃ (w : Int32) (K : zl_K), zc_X L B a w K ∧ zm_X L B a w K ∧ (w = -nI 1 → zl_ok K) ∧ (w = -nI 1 ∨ ∃ p, p ≤ L ∧ w = nI p) := by
  intro m
  induction m with
  | zero =>
    intro a hm haL
    have hs := sk_L (B := B) haL
    have e : ¬ sp_hr L B (sp_sk L B a) = 59 := fun w => by have := hr_ltx w (by decide); omega
    refine ⟨_, [], zcx_end hk haL e, zmx_end hk haL e, fun _ => zl_nil, ?_⟩
    by_cases q : sp_sk L B a < L
    · rw [if_pos q]; exact Or.inr ⟨_, by omega, rfl⟩
    · rw [if_neg q]; exact Or.inl rfl
  | succ m ih =>
    intro a hm haL
    have hs := sk_L (B := B) haL
    by_cases e : sp_hr L B (sp_sk L B a) = 59
    · have hlt := hr_ltx e (by decide)
      obtain ⟨ok, a1, T, U, c, mm, p1, p2, p3⟩ := zj_clause (B := B) (a := sp_sk L B a + 1) hk (by omega)
      cases ok
      · exact ⟨nI a1, [], zcx_bad hk haL e c p2, zmx_bad hk haL p2 e mm, fun _ => zl_nil, Or.inr ⟨a1, p2, rfl⟩⟩
      · obtain ⟨r1, r2, r3, r4, r5⟩ := p3 rfl
        obtain ⟨w, K, x1, x2, x3, x4⟩ := ih a1 (by omega) p2
        refine ⟨w, (T, U) :: K, zcx_go hk haL e c p2 r1 x1, zmx_go hk haL p2 e mm r1 r3 x2, fun v p hp => ?_, x4⟩
        rcases List.mem_cons.mp hp with rfl | hp
        · exact ⟨r4, r5⟩
        · exact x3 v p hp
    · refine ⟨_, [], zcx_end hk haL e, zmx_end hk haL e, fun _ => zl_nil, ?_⟩
      by_cases q : sp_sk L B a < L
      · rw [if_pos q]; exact Or.inr ⟨_, by omega, rfl⟩
      · rw [if_neg q]; exact Or.inl rfl
def zc_Rd (L : Nat) (B : Nat → Nat) (w : Int32) (K : zl_K) : Prop := ∀ (d : Nat) (I : am_I) (R : am_R) (Q : am_Q), 72 ≤ d → zc_R R → tc_at I L B → st_at I → ∃ (J : am_I) (C1 : List Nat), am_cal d 35 [.ref (am_mk 4 0)] I R Q = some (some (.int w), J, R, Q) ∧ am_fr zc_S I J ∧ lw_at J 0 (C1.map zl_c) ∧ C1.length ≤ 240 ∧ (w = -nI 1 → C1 = zl_cls K)
def zm_Rd (L : Nat) (B : Nat → Nat) (w : Int32) (K : zl_K) : Prop := ∀ (d : Nat) (I : am_I) (R : am_R) (Q : am_Q) (n : Nat), 72 ≤ d → mm_R R → n < 5 → tm_at I L B → ∃ J : am_I, am_cal d 184 [.ref (am_mk 12 0), .int (nI n)] I R Q = some (some (.int w), J, R, Q) ∧ am_fr (zR_S n) I J ∧ (w = -nI 1 → zm_ml J n (zk_fl K) ∧ zk_at J n K)
theorem c_rd0 {d : Nat} {I : am_I} {R : am_R} {Q : am_Q} (hr : zc_R R) (hk : tp_ok L B) (ht : tc_at I L B) (hs : st_at I) : ∃ J, am_cal (d + 1) 35 [.ref (am_mk 4 0)] I R Q = am_ev (d + 1) 35 19 [.ref (am_mk 4 0), .int (nI 1), .int (nI 0)] [] J R Q ∧ am_fr zc_S I J ∧ zc_at J L B 0 [] := by
  have r0 := hr.2.2.1
  have r1 := hr.2.2.2
  obtain ⟨X, e, f1, h1⟩ : ∃ X, am_sI I 10 0 (am_uI (I 10 0) 2 (nI 0)) = X ∧ am_fr tc_S I X ∧ X 10 0 2 = nI 0 := ⟨_, rfl, fr_s fr_rf ⟨rfl, rfl⟩, by rw [sI_eq, uI_eq]⟩
  obtain ⟨J2, g2, f2, h2⟩ := c_lforget (d := d) (v := 0) (I := X) (R := R) (Q := Q)
  have hz : ∀ (a b j : Nat), la_S 0 a b j → (a = 27 ∧ b = 0) ∨ (a = 3 ∧ b = 0 ∧ j = 1) := fun a b j w => w
  have ht1 := tc_fr ht f1 (fun w => by unfold tc_S at w; omega) (fun j w => by unfold tc_S at w; omega)
  have hs1 := st_fr hs f1 (fun a b w => by unfold tc_S at w; omega)
  refine ⟨J2, ?_, fr_tr (fr_mo f1 fun a b j w => Or.inl w) (fr_mo f2 fun a b j w => Or.inr w), tc_fr ht1 f2 (fun w => by have := hz _ _ _ w; omega) (fun j w => by have := hz _ _ _ w; omega), st_fr hs1 f2 (fun a b w => by have := hz _ _ _ w; omega), (f2 _ _ _ (fun w => by have := hz _ _ _ w; omega)).trans h1, h2⟩
  rw [s35]
  simp (disch := first | omega | assumption) only [s35_0, s35_1, s35_4, s35_5, s35_8, s35_9, s35_12, s35_15, s35_16, s35_17, s35_18, s35_20, s35_23, s35_24, s35_27, s35_30, s35_31, s35_34, s35_37, s35_38, s35_41, s35_44, s35_45, s35_46, s35_49, s35_51, s35_54, s35_55, s35_58, s35_61, s35_62, s35_65, s35_68, s35_71, s35_72, s35_75, s35_76, s35_79, s35_82, nI_le2, nI_lt2, nI_eq2, nI_lt0, nI_0le, nI_0lt, nI_le0, nI_eq0, nI_clamp, nI_add, bu_nI, bb_0, bb_1, rf_s, rf_n, tl_s, tl_n, am_th_some, if_true, if_false, sI_eq, uI_eq, and_self, true_and, and_true, not_false_eq_true, not_true_eq_false, Nat.reduceEqDiff, Nat.reduceLeDiff, Nat.reduceLT, Nat.reduceAdd, Nat.reduceMul, Nat.reduceSub, Nat.zero_add, r0, r1, e, g2]
theorem m_open {d : Nat} {I : am_I} {R : am_R} {Q : am_Q} (hr : mm_R R) (hn : n < 5) (ht : tm_at I L B) : ∃ J, am_cal d 182 [.ref (am_mk 12 0), .int (nI n)] I R Q = some (none, J, R, Q) ∧ am_fr (zR_S n) I J ∧ zm_at J L B n 0 0 (zk_fl []) ∧ zk_at J n [] := by
  have r8 := mr8 hr
  have r9 := mr9 hr
  have hf : am_fr (fun a _ j => (a = 12 ∧ (j = 3 ∨ j = 4 ∨ j = 5 ∨ j = 14)) ∨ ((a = 45 ∨ a = 46) ∧ j = n)) I (am_sI (am_sI (am_sI I 12 0 (am_uI (am_uI (am_uI (am_uI (I 12 0) 14 (nI n)) 3 (nI 0)) 4 (-nI 1)) 5 (nI 0))) 45 0 (am_uI (I 45 0) n (nI 0))) 46 0 (am_uI (I 46 0) n (nI 0))) := by
    refine fr_h (fr_h (fr_g fr_rf fun j q => ?_) (Or.inr ⟨Or.inl rfl, rfl⟩)) (Or.inr ⟨Or.inr rfl, rfl⟩)
    rw [uI_ne (by omega), uI_ne (by omega), uI_ne (by omega), uI_ne (by omega)]
  refine ⟨_, ?_, fr_mo hf fun a b j w => ?_, ⟨tm_fr ht hf (fun w => by omega) (fun j w => by omega), ?_, ?_, ?_, ?_, ?_, fun i hi => absurd hi (Nat.not_lt_zero _)⟩, ?_, fun i hi => absurd hi (Nat.not_lt_zero _)⟩
  · rw [s182]
    simp (disch := first | omega | assumption) only [s182_0, s182_1, s182_2, s182_5, s182_6, s182_7, s182_10, s182_11, s182_12, s182_15, s182_16, s182_17, s182_20, s182_21, s182_24, s182_25, s182_26, s182_27, s182_28, s182_31, s182_32, s182_33, s182_34, nI_le2, nI_lt2, nI_eq2, nI_lt0, nI_0le, nI_0lt, nI_le0, nI_eq0, nI_clamp, nI_add, bu_nI, bb_0, bb_1, rf_s, rf_n, tl_s, tl_n, am_th_some, if_true, if_false, sI_eq, uI_eq, and_self, true_and, and_true, not_false_eq_true, not_true_eq_false, Nat.reduceEqDiff, Nat.reduceLeDiff, Nat.reduceLT, Nat.reduceAdd, Nat.reduceMul, Nat.reduceSub, Nat.zero_add, r8, r9, sI_na, sI_sI]
  · unfold zR_S zr_S zm_S; omega
  · rw [sI_na (by decide), sI_na (by decide), sI_eq, uI_ne (by decide), uI_ne (by decide), uI_eq]
  · rw [sI_na (by decide), sI_na (by decide), sI_eq, uI_ne (by decide), uI_eq]
  · rw [sI_na (by decide), sI_na (by decide), sI_eq, uI_eq]
  · rw [sI_na (by decide), sI_na (by decide), sI_eq, uI_ne (by decide), uI_ne (by decide), uI_ne (by decide), uI_eq]
  · rw [sI_na (by decide), sI_eq, uI_eq]; rfl
  · rw [sI_eq, uI_eq]; rfl
theorem zj_read (hk : tp_ok L B) : ∃ (w : Int32) (K : zl_K), zc_Rd L B w K ∧ zm_Rd L B w K ∧ (w = -nI 1 → zl_ok K) ∧ (w = -nI 1 ∨ ∃ p, p ≤ L ∧ w = nI p) := by
  obtain ⟨ok, a1, T, U, c, mm, p1, p2, p3⟩ := zj_clause (B := B) (a := 0) hk (Nat.zero_le _)
  have hL := hk.1
  have hne1 : ((nI 1 : Int32) = 0) = False := by decide
  cases ok
  · have hne : ¬ nI a1 = -nI 1 := m1_ne (by omega)
    refine ⟨nI a1, [], ?_, ?_, fun w => absurd w hne, Or.inr ⟨a1, p2, rfl⟩⟩
    · intro d I R Q hN hr ht hs
      obtain ⟨d, rfl⟩ : ∃ q, d = q + 4 := ⟨d - 4, by omega⟩
      obtain ⟨J0, g0, f0, h0⟩ := c_rd0 (d := d + 3) (Q := Q) hr hk ht hs
      obtain ⟨J2, C2, g2, f2, h2, l2, -⟩ := c (d + 3) J0 R Q [] (by omega) hr h0 (by simp)
      rw [if_neg (by decide)] at g2
      have h22 := h2.2.2.1
      have r0 := hr.2.2.1
      refine ⟨J2, C2, ?_, fr_tr f0 f2, h2.2.2.2, by simp at l2; omega, fun w => absurd w hne⟩
      rw [g0, s35_19]
      simp (disch := first | omega | assumption) only [s35_0, s35_1, s35_4, s35_5, s35_8, s35_9, s35_12, s35_15, s35_16, s35_17, s35_18, s35_20, s35_23, s35_24, s35_27, s35_30, s35_31, s35_34, s35_37, s35_38, s35_41, s35_44, s35_46, s35_49, s35_51, s35_54, s35_55, s35_58, s35_61, s35_62, s35_65, s35_68, s35_71, s35_72, s35_75, s35_76, s35_79, s35_82, nI_le2, nI_lt2, nI_eq2, nI_lt0, nI_0le, nI_0lt, nI_le0, nI_eq0, nI_clamp, nI_add, bu_nI, bb_0, bb_1, rf_s, rf_n, tl_s, tl_n, am_th_some, if_true, if_false, sI_eq, uI_eq, and_self, true_and, and_true, not_false_eq_true, not_true_eq_false, Nat.reduceEqDiff, Nat.reduceLeDiff, Nat.reduceLT, Nat.reduceAdd, Nat.reduceMul, Nat.reduceSub, Nat.zero_add, r0, g2, h22, hne1]
    · intro d I R Q n hN hr hn ht
      obtain ⟨d, rfl⟩ : ∃ q, d = q + 4 := ⟨d - 4, by omega⟩
      obtain ⟨J0, g0, f0, h0, z0⟩ := m_open (d := d + 3) (Q := Q) hr hn ht
      obtain ⟨J3, g3, f3, -, m3⟩ := mm (d + 3) J0 R Q n 0 (zk_fl []) (by omega) hr hn (by decide) h0 (by simp [zk_fl]) z0.1
      have w3 := m3 rfl
      have g4 : am_cal (d + 3) 183 [.ref (am_mk 12 0)] J3 R Q = some (some (.int (nI a1)), J3, R, Q) := by
        rw [s183]
        simp (disch := first | omega | assumption) only [s183_0, s183_1, s183_4, s183_5, s183_8, s183_9, s183_12, s183_13, s183_16, s183_17, s183_20, s183_21, s183_24, nI_le2, nI_lt2, nI_eq2, nI_lt0, nI_0le, nI_0lt, nI_le0, nI_eq0, nI_clamp, nI_add, bu_nI, bb_0, bb_1, rf_s, rf_n, tl_s, tl_n, am_th_some, if_true, if_false, sI_eq, uI_eq, and_self, true_and, and_true, not_false_eq_true, not_true_eq_false, Nat.reduceEqDiff, Nat.reduceLeDiff, Nat.reduceLT, Nat.reduceAdd, Nat.reduceMul, Nat.reduceSub, Nat.zero_add, w3, hne]
      refine ⟨J3, ?_, fr_tr f0 (fr_mo (zrS_n (by decide) f3) fun _ _ _ w => Or.inl w), fun w => absurd w hne⟩
      rw [s184]
      simp (disch := first | omega | assumption) only [s184_0, s184_1, s184_2, s184_5, s184_6, s184_10, s184_13, s184_14, s184_17, s184_18, s184_21, s184_23, s184_26, s184_27, s184_28, s184_31, s184_32, s184_33, s184_36, s184_37, s184_40, s184_43, s184_44, s184_47, nI_le2, nI_lt2, nI_eq2, nI_lt0, nI_0le, nI_0lt, nI_le0, nI_eq0, nI_clamp, nI_add, bu_nI, bb_0, bb_1, rf_s, rf_n, tl_s, tl_n, am_th_some, if_true, if_false, sI_eq, uI_eq, and_self, true_and, and_true, not_false_eq_true, not_true_eq_false, Nat.reduceEqDiff, Nat.reduceLeDiff, Nat.reduceLT, Nat.reduceAdd, Nat.reduceMul, Nat.reduceSub, Nat.zero_add, g0, g3]
      rw [s184_9]
      simp (disch := first | omega | assumption) only [s184_0, s184_1, s184_2, s184_5, s184_6, s184_10, s184_13, s184_14, s184_17, s184_18, s184_21, s184_23, s184_26, s184_27, s184_28, s184_31, s184_32, s184_33, s184_36, s184_37, s184_40, s184_43, s184_44, s184_47, nI_le2, nI_lt2, nI_eq2, nI_lt0, nI_0le, nI_0lt, nI_le0, nI_eq0, nI_clamp, nI_add, bu_nI, bb_0, bb_1, rf_s, rf_n, tl_s, tl_n, am_th_some, if_true, if_false, sI_eq, uI_eq, and_self, true_and, and_true, not_false_eq_true, not_true_eq_false, Nat.reduceEqDiff, Nat.reduceLeDiff, Nat.reduceLT, Nat.reduceAdd, Nat.reduceMul, Nat.reduceSub, Nat.zero_add, w3, hne, g4]
  · obtain ⟨r1, r2, r3, r4, r5⟩ := p3 rfl
    obtain ⟨w, K, x1, x2, x3, x4⟩ := zj_rest hk _ a1 (Nat.le_refl _) p2
    refine ⟨w, (T, U) :: K, ?_, ?_, fun v p hp => ?_, x4⟩
    · intro d I R Q hN hr ht hs
      obtain ⟨d, rfl⟩ : ∃ q, d = q + 4 := ⟨d - 4, by omega⟩
      obtain ⟨J0, g0, f0, h0⟩ := c_rd0 (d := d + 3) (Q := Q) hr hk ht hs
      obtain ⟨J2, C2, g2, f2, h2, l2, k2⟩ := c (d + 3) J0 R Q [] (by omega) hr h0 (by simp)
      rw [if_pos rfl] at g2
      obtain ⟨J3, C3, g3, f3, h3, b3, k3⟩ := x1 (d + 4) J2 R Q C2 0 (.int (nI 1)) (by omega) hr h2 (by simp at l2; omega) (by omega)
      refine ⟨J3, C3, ?_, fr_tr (fr_tr f0 f2) f3, h3, b3, fun v => by rw [k3 v, k2 rfl, cls_cons]; rfl⟩
      rw [g0, s35_19]
      simp (disch := first | omega | assumption) only [s35_0, s35_1, s35_4, s35_5, s35_8, s35_9, s35_12, s35_15, s35_16, s35_17, s35_18, s35_20, s35_23, s35_24, s35_27, s35_30, s35_31, s35_34, s35_37, s35_38, s35_41, s35_44, s35_46, s35_49, s35_51, s35_54, s35_55, s35_58, s35_61, s35_62, s35_65, s35_68, s35_71, s35_72, s35_75, s35_76, s35_79, s35_82, nI_le2, nI_lt2, nI_eq2, nI_lt0, nI_0le, nI_0lt, nI_le0, nI_eq0, nI_clamp, nI_add, bu_nI, bb_0, bb_1, rf_s, rf_n, tl_s, tl_n, am_th_some, if_true, if_false, sI_eq, uI_eq, and_self, true_and, and_true, not_false_eq_true, not_true_eq_false, Nat.reduceEqDiff, Nat.reduceLeDiff, Nat.reduceLT, Nat.reduceAdd, Nat.reduceMul, Nat.reduceSub, Nat.zero_add, g2, hne1]
      exact g3
    · intro d I R Q n hN hr hn ht
      obtain ⟨d, rfl⟩ : ∃ q, d = q + 4 := ⟨d - 4, by omega⟩
      obtain ⟨J0, g0, f0, h0, z0⟩ := m_open (d := d + 3) (Q := Q) hr hn ht
      obtain ⟨J3, g3, f3, k3, -⟩ := mm (d + 3) J0 R Q n 0 (zk_fl []) (by omega) hr hn (by decide) h0 (by simp [zk_fl]) z0.1
      obtain ⟨p1', p2', p3', p4', p5'⟩ := k3 rfl
      have hz3 : zk_at J3 n ([] ++ [(T, U)]) := zk_app z0 f3 p2' p3' p4' p5'
      obtain ⟨J4, g4, f4, k4⟩ := x2 (d + 4) J3 R Q n [(T, U)] (by omega) hr hn (by rw [fl_one]; exact p1') hz3 (by rw [fl_one, List.length_append]; omega) (by rw [List.length_singleton]; omega)
      refine ⟨J4, ?_, fr_tr (fr_tr f0 (fr_mo (zrS_n (by decide) f3) fun _ _ _ w => Or.inl w)) (fr_mo f4 fun _ _ _ w => Or.inl w), k4⟩
      rw [s184]
      simp (disch := first | omega | assumption) only [s184_0, s184_1, s184_2, s184_5, s184_6, s184_10, s184_13, s184_14, s184_17, s184_18, s184_21, s184_23, s184_26, s184_27, s184_28, s184_31, s184_32, s184_33, s184_36, s184_37, s184_40, s184_43, s184_44, s184_47, nI_le2, nI_lt2, nI_eq2, nI_lt0, nI_0le, nI_0lt, nI_le0, nI_eq0, nI_clamp, nI_add, bu_nI, bb_0, bb_1, rf_s, rf_n, tl_s, tl_n, am_th_some, if_true, if_false, sI_eq, uI_eq, and_self, true_and, and_true, not_false_eq_true, not_true_eq_false, Nat.reduceEqDiff, Nat.reduceLeDiff, Nat.reduceLT, Nat.reduceAdd, Nat.reduceMul, Nat.reduceSub, Nat.zero_add, g0, g3]
      exact g4
    · rcases List.mem_cons.mp hp with rfl | hp
      · exact ⟨r4, r5⟩
      · exact x3 v p hp
end
