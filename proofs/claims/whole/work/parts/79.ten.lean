/-! A TEN with its row of the LOG, both sides. -/
def sp_lg (E : Nat → Nat → Int32) (t : Nat) (x y z : Int32) : Nat → Nat → Int32 := fun a w => if a = t then (if w = 0 then x else if w = 1 then y else z) else E a w
def mq_S : Nat → Nat → Nat → Prop := fun a b j => (a = 60 ∧ b = 0 ∧ 102 ≤ j ∧ j < 283)
/-- where a TEN of the class works -/
def ct_S : Nat → Nat → Nat → Prop := fun a b j => kk_S 12 a b j ∨ lo_S 0 a b j
section
variable {d n b m v lo t f k q : Nat} {I : am_I} {R : am_R} {Q : am_Q} {P : Nat → Nat → Int32} {E : Nat → Nat → Int32} {T : pl_T}
theorem mm_q {I J : am_I} (h : mm_at I P) (hf : am_fr mq_S I J) : mm_at J P := mm_fr h hf (fun j hj w => by unfold mq_S at w; omega) (fun w => by unfold mq_S at w; omega)
/-- room in the LOG -/
theorem m_room (hr : mm_R R) (l1 l2 l3 : Value) (hS : sn_at I 60 0 P t E) : ∃ (J : am_I) (l3' : Value), am_ev (d + 9) 220 6 [.ref (am_mk 12 0), l1, l2, l3] [] I R Q = am_ev (d + 9) 220 64 [.ref (am_mk 12 0), l1, l2, l3'] [] J R Q ∧ am_fr mq_S I J ∧ J 60 0 102 = nI (min t 59) ∧ ∀ j w, j < min t 59 → w < 3 → J 60 0 (103 + 3 * j + w) = E (t - min t 59 + 1 + j) w := by
  obtain ⟨h1, h2, h3, h4, h5⟩ := hS
  rw [Nat.zero_add] at h4
  by_cases ht : 60 ≤ t
  · have hm : min t 60 = 60 := Nat.min_eq_right ht
    have hm9 : min t 59 = 59 := Nat.min_eq_right (by omega)
    rw [hm] at h4 h5
    rw [hm9]
    have h5' : ∀ i, i < 180 → I 60 0 (103 + i) = E (t - 60 + 1 + i / 3) (i % 3) := fun i hi => by
      have := h5 (i / 3) (i % 3) (by omega) (Nat.mod_lt _ (by decide))
      rw [Nat.zero_add, show 103 + 3 * (i / 3) + i % 3 = 103 + i by omega] at this
      exact this
    have loop : ∃ J, am_ev (d + 9) 220 20 [.ref (am_mk 12 0), l1, l2, .int (nI 3)] [] I R Q = am_ev (d + 9) 220 53 [.ref (am_mk 12 0), l1, l2, .int (nI 180)] [] J R Q ∧ am_fr mq_S I J ∧ J 60 0 102 = nI 60 ∧ ∀ i, i < 177 → J 60 0 (103 + i) = I 60 0 (103 + (i + 3)) := by
      have key := loop_inv (f := fun J c => am_ev (d + 9) 220 20 [.ref (am_mk 12 0), l1, l2, .int (nI (3 + c))] [] J R Q) (Inv := fun c J => am_fr mq_S I J ∧ J 60 0 102 = nI 60 ∧ (∀ i, i < c → J 60 0 (103 + i) = I 60 0 (103 + (i + 3))) ∧ ∀ j, 103 + c ≤ j → J 60 0 j = I 60 0 j) (Post := fun y => ∃ J, y = am_ev (d + 9) 220 53 [.ref (am_mk 12 0), l1, l2, .int (nI 180)] [] J R Q ∧ am_fr mq_S I J ∧ J 60 0 102 = nI 60 ∧ ∀ i, i < 177 → J 60 0 (103 + i) = I 60 0 (103 + (i + 3))) (n := 177) ?_ ?_ (Nat.zero_le _) (a := I) ⟨fr_rf, h4, fun i hi => absurd hi (Nat.not_lt_zero _), fun _ _ => rfl⟩
      · exact key
      · intro c J hc ⟨f1, f2, f3, f4⟩
        left
        have h1 : ¬ 180 ≤ 3 + c := by omega
        have g1 : 103 + (3 + c) < 283 := by omega
        have g2 : 103 + c < 283 := by omega
        have e1 : nI (103 + (3 + c)) - nI 3 = nI (103 + c) := by rw [nI_sub (by omega), show 103 + (3 + c) - 3 = 103 + c by omega]
        refine ⟨am_sI J 60 0 (am_uI (J 60 0) (103 + c) (I 60 0 (103 + (3 + c)))), ?_, fr_s f1 ⟨rfl, rfl, by omega, g2⟩, by rw [sI_eq, uI_ne (by omega)]; exact f2, fun i hi => ?_, fun j hj => ?_⟩
        · have e := f4 (103 + (3 + c)) (by omega)
          rw [s220_20]
          simp (disch := first | omega | assumption) only [s220_0, s220_1, s220_2, s220_5, s220_6, s220_7, s220_10, s220_12, s220_13, s220_15, s220_18, s220_19, s220_21, s220_24, s220_27, s220_28, s220_31, s220_33, s220_34, s220_35, s220_36, s220_37, s220_38, s220_41, s220_43, s220_44, s220_45, s220_46, s220_47, s220_50, s220_54, s220_57, s220_59, s220_60, s220_61, s220_62, s220_63, s220_66, s220_67, s220_68, s220_71, s220_73, s220_74, s220_75, s220_76, s220_77, s220_78, s220_81, s220_82, s220_83, s220_84, s220_85, s220_88, s220_89, s220_90, s220_91, s220_92, s220_95, s220_96, s220_97, s220_100, s220_101, s220_102, s220_103, s220_104, s220_105, s220_106, s220_109, s220_111, s220_112, s220_113, s220_114, s220_115, s220_116, nI_le2, nI_lt2, nI_eq2, nI_lt0, nI_0le, nI_0lt, nI_le0, nI_eq0, nI_clamp, nI_add, bu_nI, bb_0, bb_1, rf_s, rf_n, tl_s, tl_n, am_th_some, if_true, if_false, sI_eq, uI_eq, and_self, true_and, and_true, not_false_eq_true, not_true_eq_false, Nat.reduceEqDiff, Nat.reduceLeDiff, Nat.reduceLT, Nat.reduceAdd, Nat.reduceMul, Nat.reduceSub, Nat.zero_add, mr31 hr, h1, g1, g2, e1, e, Nat.add_assoc]
        · rw [sI_eq]
          by_cases e : i = c
          · rw [e, uI_eq, Nat.add_comm 3 c]
          · rw [uI_ne (by omega), f3 i (by omega)]
        · rw [sI_eq, uI_ne (by omega)]; exact f4 j (by omega)
      · intro J ⟨f1, f2, f3, f4⟩
        refine ⟨J, ?_, f1, f2, f3⟩
        show am_ev (d + 9) 220 20 [.ref (am_mk 12 0), l1, l2, .int (nI 180)] [] J R Q = _
        rw [s220_20]
        simp (disch := first | omega | assumption) only [s220_0, s220_1, s220_2, s220_5, s220_6, s220_7, s220_10, s220_12, s220_13, s220_15, s220_18, s220_19, s220_21, s220_24, s220_27, s220_28, s220_31, s220_33, s220_34, s220_35, s220_36, s220_37, s220_38, s220_41, s220_43, s220_44, s220_45, s220_46, s220_47, s220_50, s220_54, s220_57, s220_59, s220_60, s220_61, s220_62, s220_63, s220_66, s220_67, s220_68, s220_71, s220_73, s220_74, s220_75, s220_76, s220_77, s220_78, s220_81, s220_82, s220_83, s220_84, s220_85, s220_88, s220_89, s220_90, s220_91, s220_92, s220_95, s220_96, s220_97, s220_100, s220_101, s220_102, s220_103, s220_104, s220_105, s220_106, s220_109, s220_111, s220_112, s220_113, s220_114, s220_115, s220_116, nI_le2, nI_lt2, nI_eq2, nI_lt0, nI_0le, nI_0lt, nI_le0, nI_eq0, nI_clamp, nI_add, bu_nI, bb_0, bb_1, rf_s, rf_n, tl_s, tl_n, am_th_some, if_true, if_false, sI_eq, uI_eq, and_self, true_and, and_true, not_false_eq_true, not_true_eq_false, Nat.reduceEqDiff, Nat.reduceLeDiff, Nat.reduceLT, Nat.reduceAdd, Nat.reduceMul, Nat.reduceSub, Nat.zero_add]
    obtain ⟨J, g1, g2, g3, g4⟩ := loop
    have e9 : nI 60 - nI 1 = nI 59 := by decide
    refine ⟨am_sI J 60 0 (am_uI (J 60 0) 102 (nI 59)), .int (nI 180), ?_, fr_s g2 ⟨rfl, rfl, by decide, by decide⟩, by rw [sI_eq, uI_eq], fun j w hj hw => ?_⟩
    · rw [s220_6]
      simp (disch := first | omega | assumption) only [s220_0, s220_1, s220_2, s220_5, s220_6, s220_7, s220_10, s220_12, s220_13, s220_15, s220_18, s220_19, s220_21, s220_24, s220_27, s220_28, s220_31, s220_33, s220_34, s220_35, s220_36, s220_37, s220_38, s220_41, s220_43, s220_44, s220_45, s220_46, s220_47, s220_50, s220_54, s220_57, s220_59, s220_60, s220_61, s220_62, s220_63, s220_66, s220_67, s220_68, s220_71, s220_73, s220_74, s220_75, s220_76, s220_77, s220_78, s220_81, s220_82, s220_83, s220_84, s220_85, s220_88, s220_89, s220_90, s220_91, s220_92, s220_95, s220_96, s220_97, s220_100, s220_101, s220_102, s220_103, s220_104, s220_105, s220_106, s220_109, s220_111, s220_112, s220_113, s220_114, s220_115, s220_116, nI_le2, nI_lt2, nI_eq2, nI_lt0, nI_0le, nI_0lt, nI_le0, nI_eq0, nI_clamp, nI_add, bu_nI, bb_0, bb_1, rf_s, rf_n, tl_s, tl_n, am_th_some, if_true, if_false, sI_eq, uI_eq, and_self, true_and, and_true, not_false_eq_true, not_true_eq_false, Nat.reduceEqDiff, Nat.reduceLeDiff, Nat.reduceLT, Nat.reduceAdd, Nat.reduceMul, Nat.reduceSub, Nat.zero_add, mr31 hr, h4]
      rw [g1]
      simp (disch := first | omega | assumption) only [s220_0, s220_1, s220_2, s220_5, s220_6, s220_7, s220_10, s220_12, s220_13, s220_15, s220_18, s220_19, s220_21, s220_24, s220_27, s220_28, s220_31, s220_33, s220_34, s220_35, s220_36, s220_37, s220_38, s220_41, s220_43, s220_44, s220_45, s220_46, s220_47, s220_50, s220_53, s220_54, s220_57, s220_59, s220_60, s220_61, s220_62, s220_63, s220_66, s220_67, s220_68, s220_71, s220_73, s220_74, s220_75, s220_76, s220_77, s220_78, s220_81, s220_82, s220_83, s220_84, s220_85, s220_88, s220_89, s220_90, s220_91, s220_92, s220_95, s220_96, s220_97, s220_100, s220_101, s220_102, s220_103, s220_104, s220_105, s220_106, s220_109, s220_111, s220_112, s220_113, s220_114, s220_115, s220_116, nI_le2, nI_lt2, nI_eq2, nI_lt0, nI_0le, nI_0lt, nI_le0, nI_eq0, nI_clamp, nI_add, bu_nI, bb_0, bb_1, rf_s, rf_n, tl_s, tl_n, am_th_some, if_true, if_false, sI_eq, uI_eq, and_self, true_and, and_true, not_false_eq_true, not_true_eq_false, Nat.reduceEqDiff, Nat.reduceLeDiff, Nat.reduceLT, Nat.reduceAdd, Nat.reduceMul, Nat.reduceSub, Nat.zero_add, mr31 hr, g3, e9]
    · rw [sI_eq, uI_ne (by omega), show 103 + 3 * j + w = 103 + (3 * j + w) by omega, g4 _ (by omega), h5' _ (by omega)]
      rw [show (3 * j + w + 3) / 3 = j + 1 by omega, show (3 * j + w + 3) % 3 = w by omega]
      congr 1
      omega
  · have hm : min t 60 = t := Nat.min_eq_left (by omega)
    have hm9 : min t 59 = t := Nat.min_eq_left (by omega)
    rw [hm] at h4 h5
    rw [hm9]
    have hne : ¬ t = 60 := by omega
    refine ⟨I, l3, ?_, fr_rf, h4, fun j w hj hw => ?_⟩
    · rw [s220_6]
      simp (disch := first | omega | assumption) only [s220_0, s220_1, s220_2, s220_5, s220_6, s220_7, s220_10, s220_12, s220_13, s220_15, s220_18, s220_19, s220_21, s220_24, s220_27, s220_28, s220_31, s220_33, s220_34, s220_35, s220_36, s220_37, s220_38, s220_41, s220_43, s220_44, s220_45, s220_46, s220_47, s220_50, s220_54, s220_57, s220_59, s220_60, s220_61, s220_62, s220_63, s220_66, s220_67, s220_68, s220_71, s220_73, s220_74, s220_75, s220_76, s220_77, s220_78, s220_81, s220_82, s220_83, s220_84, s220_85, s220_88, s220_89, s220_90, s220_91, s220_92, s220_95, s220_96, s220_97, s220_100, s220_101, s220_102, s220_103, s220_104, s220_105, s220_106, s220_109, s220_111, s220_112, s220_113, s220_114, s220_115, s220_116, nI_le2, nI_lt2, nI_eq2, nI_lt0, nI_0le, nI_0lt, nI_le0, nI_eq0, nI_clamp, nI_add, bu_nI, bb_0, bb_1, rf_s, rf_n, tl_s, tl_n, am_th_some, if_true, if_false, sI_eq, uI_eq, and_self, true_and, and_true, not_false_eq_true, not_true_eq_false, Nat.reduceEqDiff, Nat.reduceLeDiff, Nat.reduceLT, Nat.reduceAdd, Nat.reduceMul, Nat.reduceSub, Nat.zero_add, mr31 hr, h4, hne]
    · have := h5 j w hj hw
      rw [Nat.zero_add] at this
      exact this
theorem m_passTen (hr : mm_R R) (hT : mT T n b R Q I) (hk : kT T n b) (hb : 1 ≤ b ∧ b ≤ 99) (hn2 : n ≤ 25) (hI : pt_I n b m P) (hm : m < 2 ^ 28) (hq : q ≤ 9) (hS : sn_at I 60 0 P t E) (hc : I 12 0 30 = P 4 0) : ∃ J, am_cal (d + 9) 220 [.ref (am_mk 12 0), .int (nI q)] I R Q = some (none, J, R, Q) ∧ am_fr mw_S I J ∧ sn_at J 60 0 (T (nI q) P).1 (t + 1) (sp_lg E (t + 1) (nI q) (sp_least (T (nI q) P).1) (T (nI q) P).2) := by
  obtain ⟨J, w1, w2, w3⟩ := hT d I m q P fr_rf (sn_mm hS hc) hI (by omega) hq
  have hI' := (hk m q P hI).1
  generalize hP' : (T (nI q) P).1 = P' at w3 hI'
  generalize hu : (T (nI q) P).2 = u at w1
  have hS' : sn_at J 60 0 P' t E := sn_of hS w3 (fun j h1 h2 => w2 _ _ _ (fun w => by unfold mk_S at w; omega))
  obtain ⟨K, l3, g1, g2, g3, g4⟩ := m_room (d := d) (Q := Q) hr (.int (nI q)) (.int u) am_J hS'
  have hK := mm_q w3 g2
  have h59 : min t 59 ≤ 59 := Nat.min_le_right _ _
  generalize hc9 : min t 59 = c at g3 g4 h59
  have b1 : 103 + 3 * c < 283 := by omega
  have b2 : 103 + 3 * c + 1 < 283 := by omega
  have b3 : 103 + 3 * c + 2 < 283 := by omega
  have hK1 : mm_at (am_sI K 60 0 (am_uI (K 60 0) (103 + 3 * c) (nI q))) P' := mm_q hK (fr_s fr_rf ⟨rfl, rfl, by omega, by omega⟩)
  have hl := m_least (d := d + 4) (Q := Q) hb hr hK1 hn2 hI'
  let F : Nat → Int32 := am_uI (am_uI (am_uI (am_uI (K 60 0) (103 + 3 * c) (nI q)) (103 + 3 * c + 1) (sp_least P')) (103 + 3 * c + 2) u) 102 (nI (c + 1))
  have fin : am_cal (d + 9) 220 [.ref (am_mk 12 0), .int (nI q)] I R Q = some (none, am_sI K 60 0 F, R, Q) := by
    rw [s220]
    simp (disch := first | omega | assumption) only [s220_0, s220_1, s220_2, s220_5, s220_7, s220_10, s220_12, s220_13, s220_15, s220_18, s220_19, s220_21, s220_24, s220_27, s220_28, s220_31, s220_33, s220_34, s220_35, s220_36, s220_37, s220_38, s220_41, s220_43, s220_44, s220_45, s220_46, s220_47, s220_50, s220_54, s220_57, s220_59, s220_60, s220_61, s220_62, s220_63, s220_66, s220_67, s220_68, s220_71, s220_73, s220_74, s220_75, s220_76, s220_77, s220_78, s220_81, s220_82, s220_83, s220_84, s220_85, s220_88, s220_89, s220_90, s220_91, s220_92, s220_95, s220_96, s220_97, s220_100, s220_101, s220_102, s220_103, s220_104, s220_105, s220_106, s220_109, s220_111, s220_112, s220_113, s220_114, s220_115, s220_116, nI_le2, nI_lt2, nI_eq2, nI_lt0, nI_0le, nI_0lt, nI_le0, nI_eq0, nI_clamp, nI_add, bu_nI, bb_0, bb_1, rf_s, rf_n, tl_s, tl_n, am_th_some, if_true, if_false, sI_eq, uI_eq, and_self, true_and, and_true, not_false_eq_true, not_true_eq_false, Nat.reduceEqDiff, Nat.reduceLeDiff, Nat.reduceLT, Nat.reduceAdd, Nat.reduceMul, Nat.reduceSub, Nat.zero_add, w1]
    rw [g1, s220_64]
    simp (disch := first | omega | assumption) only [s220_0, s220_1, s220_2, s220_5, s220_6, s220_7, s220_10, s220_12, s220_13, s220_15, s220_18, s220_19, s220_21, s220_24, s220_27, s220_28, s220_31, s220_33, s220_34, s220_35, s220_36, s220_37, s220_38, s220_41, s220_43, s220_44, s220_45, s220_46, s220_47, s220_50, s220_54, s220_57, s220_59, s220_60, s220_61, s220_62, s220_63, s220_64, s220_66, s220_67, s220_68, s220_71, s220_73, s220_74, s220_75, s220_76, s220_77, s220_78, s220_81, s220_82, s220_83, s220_84, s220_85, s220_88, s220_89, s220_90, s220_91, s220_92, s220_95, s220_96, s220_97, s220_100, s220_101, s220_102, s220_103, s220_104, s220_105, s220_106, s220_109, s220_111, s220_112, s220_113, s220_114, s220_115, s220_116, nI_le2, nI_lt2, nI_eq2, nI_lt0, nI_0le, nI_0lt, nI_le0, nI_eq0, nI_clamp, nI_add, bu_nI, bb_0, bb_1, rf_s, rf_n, tl_s, tl_n, am_th_some, if_true, if_false, sI_eq, uI_eq, and_self, true_and, and_true, not_false_eq_true, not_true_eq_false, Nat.reduceEqDiff, Nat.reduceLeDiff, Nat.reduceLT, Nat.reduceAdd, Nat.reduceMul, Nat.reduceSub, Nat.zero_add, mr31 hr, g3, nI_mul, nI_add, b1, b2, b3, hl, sI_eq, sI_sI, uI_ne]
    rfl
  have frF : am_fr mq_S K (am_sI K 60 0 F) := fr_g fr_rf fun j hj => by
    show am_uI (am_uI (am_uI (am_uI (K 60 0) (103 + 3 * c) (nI q)) (103 + 3 * c + 1) (sp_least P')) (103 + 3 * c + 2) u) 102 (nI (c + 1)) j = _
    have : ¬ (102 ≤ j ∧ j < 283) := fun w => hj ⟨rfl, rfl, w.1, w.2⟩
    rw [uI_ne (by omega), uI_ne (by omega), uI_ne (by omega), uI_ne (by omega)]
  have hFm := mm_q hK frF
  refine ⟨_, fin, ?_, ?_⟩
  · exact fr_tr (fr_tr (fr_mo w2 fun a b j w => by unfold mk_S at w; unfold mw_S; omega) (fr_mo g2 fun a b j w => by unfold mq_S at w; unfold mw_S; omega)) (fr_mo frF fun a b j w => by unfold mq_S at w; unfold mw_S; omega)
  · have hm60 : min (t + 1) 60 = c + 1 := by omega
    obtain ⟨m1, m2, m3, m4⟩ := hFm
    refine ⟨fun c hc => ?_, by rw [Nat.zero_add]; exact m3, by rw [Nat.zero_add]; exact m4, ?_, fun j w hj hw => ?_⟩
    · rw [Nat.zero_add, Nat.zero_add, Nat.zero_add, Nat.zero_add]; exact m1 c hc
    · rw [Nat.zero_add, sI_eq, hm60]
      show am_uI _ 102 _ 102 = _
      rw [uI_eq]
    · rw [hm60] at hj ⊢
      rw [Nat.zero_add, sI_eq]
      show am_uI (am_uI (am_uI (am_uI (K 60 0) (103 + 3 * c) (nI q)) (103 + 3 * c + 1) (sp_least P')) (103 + 3 * c + 2) u) 102 (nI (c + 1)) (103 + 3 * j + w) = _
      rw [uI_ne (by omega)]
      by_cases e : j = c
      · have ex : t + 1 - (c + 1) + 1 + j = t + 1 := by omega
        rw [ex, e, sp_lg, if_pos rfl]
        rcases (show w = 0 ∨ w = 1 ∨ w = 2 by omega) with rfl | rfl | rfl
        · rw [uI_ne (by omega), uI_ne (by omega), Nat.add_zero, uI_eq, if_pos rfl]
        · rw [uI_ne (by omega), uI_eq]; rfl
        · rw [uI_eq]; rfl
      · rw [uI_ne (by omega), uI_ne (by omega), uI_ne (by omega), g4 j w (by omega) hw, sp_lg, if_neg (by omega)]
        congr 1
        omega
theorem c_least {p : Nat} (hp : pp_R R p) (hP : pp_at I p P) : am_cal d 84 [.ref (am_mk 9 p)] I R Q = some (some (.int (sp_least P)), I, R, Q) := by
  obtain ⟨p0, p1, p2, p3⟩ := hp
  rw [c_leastDegrees p0 p2]
  have e : am_fold (fun a c => if I 19 p c ≤ 0 then a else if I 21 p c < a then I 21 p c else a) (nI 1000000000) 25 = sp_least P := fold_congr fun a c hc => by
    obtain ⟨a0, a1, a2, a3⟩ := hP.1 c hc
    rw [a0, a2]
  rw [e]
theorem c_pass (hr8 : R 11 0 8 = some (am_mk 2 0)) (hr10 : R 11 0 10 = some (am_mk 9 12)) (hr12 : R 11 0 12 = some (am_mk 5 0)) (hrp : ∀ p, p < 54 → pp_R R p) (hrl : lo_R R 0) (hT : cT T n b R Q I) (hk : kT T n b) (hb : 1 ≤ b ∧ b ≤ 99) (hn2 : n ≤ 25) (hI : pt_I n b m P) (hm : m < 2 ^ 28) (hq : q ≤ 9) (hP : pp_at I 12 P) (ht : (T (nI q) P).1 4 1 = nI (t + 1)) (htm : t < 2 ^ 28) (hL : lo_at I 0 lo t E) : ∃ J, am_cal (d + 9) 114 [.ref (am_mk 11 0), .int (nI q)] I R Q = some (none, J, R, Q) ∧ am_fr ct_S I J ∧ pp_at J 12 (T (nI q) P).1 ∧ lo_at J 0 (max lo (t + 1 - 100)) (t + 1) (sp_lg E (t + 1) (nI q) (sp_least (T (nI q) P).1) (T (nI q) P).2) := by
  obtain ⟨J, w1, w2, w3⟩ := hT d I 12 m q P fr_rf (by decide) hP hI (by omega) hq
  have hI' := (hk m q P hI).1
  have hl := c_least (d := d + 8) (Q := Q) (hrp 12 (by decide)) w3
  have hL' : lo_at J 0 lo t E := fun x h1 h2 w hw => (w2 _ _ _ (fun v => by unfold kk_S at v; omega)).trans (hL x h1 h2 w hw)
  have ht' : J 9 12 5 = nI (t + 1) := w3.2.2.1.trans ht
  obtain ⟨K, g1, g2, g3, g4, g5, g6⟩ := c_write (d := d + 7) (Q := Q) (I := J) (t := t + 1) hrl (x := nI q) (y := sp_least (T (nI q) P).1) (z := (T (nI q) P).2) (by omega)
  refine ⟨K, ?_, fr_tr (fr_mo w2 fun a b j w => Or.inl w) (fr_mo g2 fun a b j w => Or.inr w), pl_fr w3 g2 (fun a j ha w => by unfold lo_S at w; omega), fun x h1 h2 w hw => ?_⟩
  · rw [s114]
    simp (disch := first | omega | assumption) only [s114_0, s114_1, s114_4, s114_5, s114_8, s114_9, s114_12, s114_13, s114_14, s114_17, s114_18, s114_21, s114_24, s114_25, s114_26, s114_29, s114_32, s114_33, s114_36, nI_le2, nI_lt2, nI_eq2, nI_lt0, nI_0le, nI_0lt, nI_le0, nI_eq0, nI_clamp, nI_add, bu_nI, bb_0, bb_1, rf_s, rf_n, tl_s, tl_n, am_th_some, if_true, if_false, sI_eq, uI_eq, and_self, true_and, and_true, not_false_eq_true, not_true_eq_false, Nat.reduceEqDiff, Nat.reduceLeDiff, Nat.reduceLT, Nat.reduceAdd, Nat.reduceMul, Nat.reduceSub, Nat.zero_add, hr8, hr10, hr12, w1, ht', hl, g1]
  · by_cases e : x = t + 1
    · rw [e, sp_lg, if_pos rfl]
      rcases (show w = 0 ∨ w = 1 ∨ w = 2 by omega) with rfl | rfl | rfl
      · exact g4
      · exact g5
      · exact g6
    · rw [sp_lg, if_neg e, g3 w _ hw (by omega)]
      exact hL' x (by omega) (by omega) w hw
end
