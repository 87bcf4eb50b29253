/-! The model: means, STIRRED, the least, SAFE. -/
section
variable {d n b m w h : Nat} {I : am_I} {R : am_R} {Q : am_Q} {P : Nat → Nat → Int32}
theorem pt_n (h : pt_I n b m P) : 1 ≤ n := by
  obtain ⟨-, -, -, h4, c, hc, hf⟩ := h
  have := ce_food (h4 c hc) hf
  omega
theorem m_allOf1 (hr : mm_R R) (hP : mm_at I P) (hn2 : n ≤ 25) (hI : pt_I n b m P) : am_cal (d + 3) 209 [.ref (am_mk 12 0), .int (nI 25)] I R Q = some (some (.int (sp_ice P)), I, R, Q) := by
  rw [m_allOf hr hP hI.1 hn2 (by decide)]
  have e : am_fold (fun a c => a + if P 0 c ≤ 0 then nI 0 else I 60 0 (25 + c)) (nI 0) n = am_fold (fun a c => a + if P 0 c ≤ 0 then nI 0 else P 1 c) (nI 0) n := fold_congr fun x c hc => by rw [(hP.1 c (by omega)).2.1]
  rw [e, allOf_n hn2 hI.2.2.2.1 fun c hc q => (ce_no (hI.2.2.2.1 c hc) q).2.1]
  rfl
theorem m_allOf2 (hr : mm_R R) (hP : mm_at I P) (hn2 : n ≤ 25) (hI : pt_I n b m P) : am_cal (d + 3) 209 [.ref (am_mk 12 0), .int (nI 50)] I R Q = some (some (.int (sp_deg P)), I, R, Q) := by
  rw [m_allOf hr hP hI.1 hn2 (by decide)]
  have e : am_fold (fun a c => a + if P 0 c ≤ 0 then nI 0 else I 60 0 (50 + c)) (nI 0) n = am_fold (fun a c => a + if P 0 c ≤ 0 then nI 0 else P 2 c) (nI 0) n := fold_congr fun x c hc => by rw [(hP.1 c (by omega)).2.2.1]
  rw [e, allOf_n hn2 hI.2.2.2.1 fun c hc q => (ce_no (hI.2.2.2.1 c hc) q).2.2.1]
  rfl
theorem m_allOf3 (hr : mm_R R) (hP : mm_at I P) (hn2 : n ≤ 25) (hI : pt_I n b m P) : am_cal (d + 3) 209 [.ref (am_mk 12 0), .int (nI 75)] I R Q = some (some (.int (am_fold (fun a c => a + P 3 c) (nI 0) 25)), I, R, Q) := by
  rw [m_allOf hr hP hI.1 hn2 (by decide)]
  have e : am_fold (fun a c => a + if P 0 c ≤ 0 then nI 0 else I 60 0 (75 + c)) (nI 0) n = am_fold (fun a c => a + if P 0 c ≤ 0 then nI 0 else P 3 c) (nI 0) n := fold_congr fun x c hc => by rw [(hP.1 c (by omega)).2.2.2]
  rw [e, allOf_n hn2 hI.2.2.2.1 fun c hc q => (ce_no (hI.2.2.2.1 c hc) q).2.2.2]
theorem m_foods1 (hr : mm_R R) (hP : mm_at I P) (hn2 : n ≤ 25) (hI : pt_I n b m P) : am_cal (d + 3) 208 [.ref (am_mk 12 0)] I R Q = some (some (.int (sp_foods P)), I, R, Q) := by
  rw [m_foods hr hP hI.1 hn2, foods_n hn2 hI.2.2.2.1]
theorem m_meanOf1 (hb : 1 ≤ b ∧ b ≤ 99) (hr : mm_R R) (hP : mm_at I P) (hn2 : n ≤ 25) (hI : pt_I n b m P) : am_cal (d + 4) 222 [.ref (am_mk 12 0), .int (nI 25)] I R Q = some (some (.int (sp_dv (sp_ice P) (sp_foods P))), I, R, Q) := by
  obtain ⟨k, S, T, U, -, -, -, -, -, -, -, -, -, -, -, -, -, -, e⟩ := means_nat hb hI
  rw [s222]
  simp (disch := first | omega | assumption) only [s222_0, s222_1, s222_2, s222_5, s222_6, s222_9, s222_10, nI_le2, nI_lt2, nI_eq2, nI_lt0, nI_0le, nI_0lt, nI_le0, nI_eq0, nI_clamp, nI_add, bu_nI, bb_0, bb_1, rf_s, rf_n, tl_s, tl_n, am_th_some, if_true, if_false, sI_eq, uI_eq, and_self, true_and, and_true, not_false_eq_true, not_true_eq_false, Nat.reduceEqDiff, Nat.reduceLeDiff, Nat.reduceLT, Nat.reduceAdd, Nat.reduceMul, Nat.reduceSub, Nat.zero_add, m_allOf1 (d := d) hr hP hn2 hI, m_foods1 (d := d) hr hP hn2 hI, e]
  rw [sp_dv, if_neg e]
theorem m_meanOf2 (hb : 1 ≤ b ∧ b ≤ 99) (hr : mm_R R) (hP : mm_at I P) (hn2 : n ≤ 25) (hI : pt_I n b m P) : am_cal (d + 4) 222 [.ref (am_mk 12 0), .int (nI 50)] I R Q = some (some (.int (sp_dv (sp_deg P) (sp_foods P))), I, R, Q) := by
  obtain ⟨k, S, T, U, -, -, -, -, -, -, -, -, -, -, -, -, -, -, e⟩ := means_nat hb hI
  rw [s222]
  simp (disch := first | omega | assumption) only [s222_0, s222_1, s222_2, s222_5, s222_6, s222_9, s222_10, nI_le2, nI_lt2, nI_eq2, nI_lt0, nI_0le, nI_0lt, nI_le0, nI_eq0, nI_clamp, nI_add, bu_nI, bb_0, bb_1, rf_s, rf_n, tl_s, tl_n, am_th_some, if_true, if_false, sI_eq, uI_eq, and_self, true_and, and_true, not_false_eq_true, not_true_eq_false, Nat.reduceEqDiff, Nat.reduceLeDiff, Nat.reduceLT, Nat.reduceAdd, Nat.reduceMul, Nat.reduceSub, Nat.zero_add, m_allOf2 (d := d) hr hP hn2 hI, m_foods1 (d := d) hr hP hn2 hI, e]
  rw [sp_dv, if_neg e]
theorem m_stirNow (hb : 1 ≤ b ∧ b ≤ 99) (hr : mm_R R) (hP : mm_at I P) (hn2 : n ≤ 25) (hI : pt_I n b m P) : ∃ J, am_cal (d + 5) 223 [.ref (am_mk 12 0)] I R Q = some (none, J, R, Q) ∧ am_fr mm_S I J ∧ mm_at J (sp_mix P) := by
  have hn := hI.1
  have h4 := hI.2.2.2.1
  have mx4 : ∀ j, sp_mix P 4 j = P 4 j := fun j => by
    rw [sp_mix]
    split
    · rfl
    · rw [if_neg (by decide), if_neg (by decide)]
  have loop : ∃ K, am_ev (d + 5) 223 16 [.ref (am_mk 12 0), .int (sp_dv (sp_ice P) (sp_foods P)), .int (sp_dv (sp_deg P) (sp_foods P)), .int (nI 0)] [] I R Q = some (none, K, R, Q) ∧ am_fr mm_S I K ∧ mm_at K (sp_mix P) := by
    refine loop_inv (f := fun K c => am_ev (d + 5) 223 16 [.ref (am_mk 12 0), .int (sp_dv (sp_ice P) (sp_foods P)), .int (sp_dv (sp_deg P) (sp_foods P)), .int (nI c)] [] K R Q) (Inv := fun c K => am_fr mm_S I K ∧ mm_at K (fun a j => if j < c ∧ a < 4 then sp_mix P a j else P a j)) (Post := fun y => ∃ K, y = some (none, K, R, Q) ∧ am_fr mm_S I K ∧ mm_at K (sp_mix P)) (n := n) ?_ ?_ (Nat.zero_le _) ⟨fr_rf, mm_congr hP (fun a j _ => by rw [if_neg (fun q => absurd q.1 (Nat.not_lt_zero _))])⟩
    · intro c K hc ⟨f1, f3⟩
      left
      have h1 : ¬ n ≤ c := by omega
      have nc : (fun a j => if j < c ∧ a < 4 then sp_mix P a j else P a j) 4 0 = nI n := (if_neg (fun q => absurd q.2 (by decide))).trans hn
      have hc4 : K 12 0 30 = nI n := f3.2.1.trans nc
      have hfo : pp_f (fun a j => if j < c ∧ a < 4 then sp_mix P a j else P a j) (nI c) ↔ c < n ∧ ¬ P 0 c ≤ 0 := by
        rw [pp_f_k nc hn2 (by omega)]
        simp only [Nat.lt_irrefl, false_and, if_false]
      have hf := m_isFood (d := d + 2) (Q := Q) (x := nI c) hr f3 nc hn2
      have fin : ∀ x y, (x = sp_mix P 1 c) → (y = sp_mix P 2 c) → mm_at (am_sI K 60 0 (am_uI (am_uI (K 60 0) (25 + c) x) (50 + c) y)) (fun a j => if j < c + 1 ∧ a < 4 then sp_mix P a j else P a j) := by
        intro x y hx hy
        have m2 := mm_u2 (mm_u1 f3 x (show c < 25 by omega)) y (show c < 25 by omega)
        rw [sI_eq, sI_sI] at m2
        refine mm_congr m2 fun a j hj => ?_
        by_cases e4 : a < 4
        · by_cases e1 : j = c
          · subst e1
            rw [if_pos ⟨Nat.lt_succ_self _, e4⟩]
            by_cases e2 : a = 2
            · subst e2; rw [up_eq, hy]
            · rw [up_na e2]
              by_cases e3 : a = 1
              · subst e3; rw [up_eq, hx]
              · rw [up_na e3, if_neg (fun q => absurd q.1 (Nat.lt_irrefl _)), sp_mix]
                by_cases b9 : P 0 j ≤ 0
                · rw [if_pos b9]
                · rw [if_neg b9, if_neg e3, if_neg e2]
          · rw [up_nc e1, up_nc e1]
            by_cases e2 : j < c
            · rw [if_pos ⟨e2, e4⟩, if_pos ⟨by omega, e4⟩]
            · rw [if_neg (fun q => e2 q.1), if_neg (fun q => absurd q.1 (by omega))]
        · rw [up_na (by omega), up_na (by omega), if_neg (fun q => e4 q.2), if_neg (fun q => e4 q.2)]
      have frm : ∀ x y, am_fr mm_S I (am_sI K 60 0 (am_uI (am_uI (K 60 0) (25 + c) x) (50 + c) y)) := by
        intro x y
        have := fr_s (fr_s f1 (a := 60) (b := 0) (k := 25 + c) (x := x) ⟨rfl, by omega⟩) (a := 60) (b := 0) (k := 50 + c) (x := y) ⟨rfl, by omega⟩
        rw [sI_eq, sI_sI] at this
        exact this
      have hf2 : ∀ x, am_cal (d + 4) 204 [.ref (am_mk 12 0), .int (nI c)] (am_sI K 60 0 (am_uI (K 60 0) (25 + c) x)) R Q = some (some (.int (if pp_f (fun a j => if j < c ∧ a < 4 then sp_mix P a j else P a j) (nI c) then nI 1 else nI 0)), am_sI K 60 0 (am_uI (K 60 0) (25 + c) x), R, Q) := fun x => by
        rw [m_isFood (d := d + 2) (Q := Q) (x := nI c) hr (mm_u1 f3 x (show c < 25 by omega)) ((up_na (by decide)).trans nc) hn2]
        have e : pp_f (sp_up (fun a j => if j < c ∧ a < 4 then sp_mix P a j else P a j) 1 c x) (nI c) ↔ pp_f (fun a j => if j < c ∧ a < 4 then sp_mix P a j else P a j) (nI c) := pp_f_congr (fun j => up_na (by decide)) (up_na (by decide)) _
        by_cases q : pp_f (fun a j => if j < c ∧ a < 4 then sp_mix P a j else P a j) (nI c)
        · rw [if_pos q, if_pos (e.mpr q)]
        · rw [if_neg q, if_neg (fun v => q (e.mp v))]
      rw [s223_16]
      by_cases b0 : P 0 c ≤ 0
      · have q : ¬ pp_f (fun a j => if j < c ∧ a < 4 then sp_mix P a j else P a j) (nI c) := fun q => (hfo.mp q).2 b0
        rw [if_neg q] at hf
        have z := ce_no (h4 c (by omega)) b0
        exact ⟨_, by simp (disch := first | omega | assumption) only [s223_0, s223_1, s223_3, s223_6, s223_7, s223_8, s223_10, s223_13, s223_14, s223_15, s223_17, s223_18, s223_21, s223_24, s223_25, s223_28, s223_30, s223_31, s223_32, s223_33, s223_34, s223_37, s223_40, s223_41, s223_44, s223_45, s223_46, s223_47, s223_50, s223_52, s223_53, s223_54, s223_55, s223_56, s223_59, s223_62, s223_63, s223_66, s223_67, s223_68, s223_71, s223_74, nI_le2, nI_lt2, nI_eq2, nI_lt0, nI_0le, nI_0lt, nI_le0, nI_eq0, nI_clamp, nI_add, bu_nI, bb_0, bb_1, rf_s, rf_n, tl_s, tl_n, am_th_some, if_true, if_false, sI_eq, uI_eq, and_self, true_and, and_true, not_false_eq_true, not_true_eq_false, Nat.reduceEqDiff, Nat.reduceLeDiff, Nat.reduceLT, Nat.reduceAdd, Nat.reduceMul, Nat.reduceSub, Nat.zero_add, hc4, h1, hf, hf2, if_neg q, mr31 hr, sI_sI] <;> rfl, frm _ _, fin _ _ (by rw [sp_mix, if_pos b0, z.2.1]) (by rw [sp_mix, if_pos b0, z.2.2.1])⟩
      · have q := hfo.mpr ⟨hc, b0⟩
        rw [if_pos q] at hf
        exact ⟨_, by simp (disch := first | omega | assumption) only [s223_0, s223_1, s223_3, s223_6, s223_7, s223_8, s223_10, s223_13, s223_14, s223_15, s223_17, s223_18, s223_21, s223_24, s223_25, s223_28, s223_30, s223_31, s223_32, s223_33, s223_34, s223_37, s223_40, s223_41, s223_44, s223_45, s223_46, s223_47, s223_50, s223_52, s223_53, s223_54, s223_55, s223_56, s223_59, s223_62, s223_63, s223_66, s223_67, s223_68, s223_71, s223_74, nI_le2, nI_lt2, nI_eq2, nI_lt0, nI_0le, nI_0lt, nI_le0, nI_eq0, nI_clamp, nI_add, bu_nI, bb_0, bb_1, rf_s, rf_n, tl_s, tl_n, am_th_some, if_true, if_false, sI_eq, uI_eq, and_self, true_and, and_true, not_false_eq_true, not_true_eq_false, Nat.reduceEqDiff, Nat.reduceLeDiff, Nat.reduceLT, Nat.reduceAdd, Nat.reduceMul, Nat.reduceSub, Nat.zero_add, hc4, h1, hf, hf2, if_pos q, mr31 hr, sI_sI] <;> rfl, frm _ _, fin _ _ (by rw [sp_mix, if_neg b0, if_pos rfl]) (by rw [sp_mix, if_neg b0, if_neg (by decide), if_pos rfl])⟩
    · intro K ⟨f1, f3⟩
      have hc4 : K 12 0 30 = nI n := f3.2.1.trans ((if_neg (fun q => absurd q.2 (by decide))).trans hn)
      refine ⟨K, ?_, f1, mm_congr f3 fun a j hj => ?_⟩
      · rw [s223_16]
        simp (disch := first | omega | assumption) only [s223_0, s223_1, s223_3, s223_6, s223_7, s223_8, s223_10, s223_13, s223_14, s223_15, s223_17, s223_18, s223_21, s223_24, s223_25, s223_28, s223_30, s223_31, s223_32, s223_33, s223_34, s223_37, s223_40, s223_41, s223_44, s223_45, s223_46, s223_47, s223_50, s223_52, s223_53, s223_54, s223_55, s223_56, s223_59, s223_62, s223_63, s223_66, s223_67, s223_68, s223_71, s223_74, nI_le2, nI_lt2, nI_eq2, nI_lt0, nI_0le, nI_0lt, nI_le0, nI_eq0, nI_clamp, nI_add, bu_nI, bb_0, bb_1, rf_s, rf_n, tl_s, tl_n, am_th_some, if_true, if_false, sI_eq, uI_eq, and_self, true_and, and_true, not_false_eq_true, not_true_eq_false, Nat.reduceEqDiff, Nat.reduceLeDiff, Nat.reduceLT, Nat.reduceAdd, Nat.reduceMul, Nat.reduceSub, Nat.zero_add, hc4, Nat.le_refl]
      · by_cases e : j < n ∧ a < 4
        · rw [if_pos e]
        · rw [if_neg e]
          by_cases e4 : a = 4
          · subst e4; rw [mx4]
          · rw [sp_mix, if_pos (ce_out (h4 j (by omega)) (by omega))]
  obtain ⟨K, g1, g2⟩ := loop
  refine ⟨K, ?_, g2⟩
  rw [s223]
  simp (disch := first | omega | assumption) only [s223_0, s223_1, s223_3, s223_6, s223_7, s223_8, s223_10, s223_13, s223_14, s223_15, s223_17, s223_18, s223_21, s223_24, s223_25, s223_28, s223_30, s223_31, s223_32, s223_33, s223_34, s223_37, s223_40, s223_41, s223_44, s223_45, s223_46, s223_47, s223_50, s223_52, s223_53, s223_54, s223_55, s223_56, s223_59, s223_62, s223_63, s223_66, s223_67, s223_68, s223_71, s223_74, nI_le2, nI_lt2, nI_eq2, nI_lt0, nI_0le, nI_0lt, nI_le0, nI_eq0, nI_clamp, nI_add, bu_nI, bb_0, bb_1, rf_s, rf_n, tl_s, tl_n, am_th_some, if_true, if_false, sI_eq, uI_eq, and_self, true_and, and_true, not_false_eq_true, not_true_eq_false, Nat.reduceEqDiff, Nat.reduceLeDiff, Nat.reduceLT, Nat.reduceAdd, Nat.reduceMul, Nat.reduceSub, Nat.zero_add, m_meanOf1 (d := d) hb hr hP hn2 hI, m_meanOf2 (d := d) hb hr hP hn2 hI]
  exact g1
theorem m_extreme (hr : mm_R R) (hP : mm_at I P) (hn : P 4 0 = nI n) (hn2 : n ≤ 25) {most : Bool} : am_cal (d + 3) 218 [.ref (am_mk 12 0), .int (if most = true then nI 1 else nI 0)] I R Q = some (some (.int (sp_ext P most n)), I, R, Q) := by
  have hc4 : I 12 0 30 = nI n := hP.2.1.trans hn
  have loop : ∀ l4 : Value, am_ev (d + 3) 218 4 [.ref (am_mk 12 0), .int (if most = true then nI 1 else nI 0), .int (-nI 1), .int (nI 0), l4] [] I R Q = some (some (.int (sp_ext P most n)), I, R, Q) := by
    intro l4
    refine loop_inv (f := fun (a : Int32 × Value) c => am_ev (d + 3) 218 4 [.ref (am_mk 12 0), .int (if most = true then nI 1 else nI 0), .int a.1, .int (nI c), a.2] [] I R Q) (Inv := fun c a => a.1 = sp_ext P most c ∧ (a.1 = -nI 1 ∨ ∃ j, j < c ∧ a.1 = nI j)) (Post := fun y => y = some (some (.int (sp_ext P most n)), I, R, Q)) (n := n) ?_ ?_ (Nat.zero_le _) (a := (-nI 1, l4)) ⟨rfl, Or.inl rfl⟩
    · intro c ⟨x, l4⟩ hc ⟨f0, f1⟩
      left
      have f0 : x = sp_ext P most c := f0
      have h1 : ¬ n ≤ c := by omega
      have hf := m_isFood (d := d) (Q := Q) (x := nI c) hr hP hn hn2
      obtain ⟨a0, a1, a2, a3⟩ := hP.1 c (by omega)
      have no : ¬ (¬ P 0 c ≤ 0 ∧ (x = -nI 1 ∨ if most = true then P 2 x.toNatClampNeg < P 2 c else P 2 c < P 2 x.toNatClampNeg)) → sp_ext P most (c + 1) = x := fun q => by
        rw [sp_ext, fold_s, show am_fold _ (-nI 1) c = x from f0.symm, if_neg q]
      have yes : (¬ P 0 c ≤ 0 ∧ (x = -nI 1 ∨ if most = true then P 2 x.toNatClampNeg < P 2 c else P 2 c < P 2 x.toNatClampNeg)) → sp_ext P most (c + 1) = nI c := fun q => by
        rw [sp_ext, fold_s, show am_fold _ (-nI 1) c = x from f0.symm, if_pos q]
      have stay : (x = -nI 1 ∨ ∃ j, j < c + 1 ∧ x = nI j) := f1.imp id fun ⟨j, hj, e⟩ => ⟨j, by omega, e⟩
      rw [s218_4]
      by_cases b0 : P 0 c ≤ 0
      · rw [if_neg (fun q => ((pp_f_k hn hn2 (by omega)).mp q).2 b0)] at hf
        refine ⟨(x, .int (nI 0)), ?_, (no (fun q => q.1 b0)).symm, stay⟩
        simp (disch := first | omega | assumption) only [s218_0, s218_1, s218_2, s218_3, s218_5, s218_6, s218_9, s218_12, s218_13, s218_14, s218_17, s218_20, s218_21, s218_22, s218_25, s218_26, s218_29, s218_30, s218_33, s218_35, s218_36, s218_37, s218_38, s218_39, s218_42, s218_44, s218_45, s218_46, s218_47, s218_50, s218_53, s218_54, s218_57, s218_59, s218_60, s218_61, s218_62, s218_63, s218_66, s218_68, s218_69, s218_70, s218_71, s218_74, s218_75, s218_78, s218_79, s218_81, s218_83, s218_86, s218_87, s218_90, s218_91, s218_92, s218_95, s218_98, s218_99, nI_le2, nI_lt2, nI_eq2, nI_lt0, nI_0le, nI_0lt, nI_le0, nI_eq0, nI_clamp, nI_add, bu_nI, bb_0, bb_1, rf_s, rf_n, tl_s, tl_n, am_th_some, if_true, if_false, sI_eq, uI_eq, and_self, true_and, and_true, not_false_eq_true, not_true_eq_false, Nat.reduceEqDiff, Nat.reduceLeDiff, Nat.reduceLT, Nat.reduceAdd, Nat.reduceMul, Nat.reduceSub, Nat.zero_add, hc4, h1, hf]
      · rw [if_pos ((pp_f_k hn hn2 (by omega)).mpr ⟨hc, b0⟩)] at hf
        rcases f1 with f1 | ⟨j, hj, f1⟩
        · have f1 : x = -nI 1 := f1
          refine ⟨(nI c, .int (nI 1)), ?_, (yes ⟨b0, Or.inl f1⟩).symm, Or.inr ⟨c, by omega, rfl⟩⟩
          simp (disch := first | omega | assumption) only [s218_0, s218_1, s218_2, s218_3, s218_5, s218_6, s218_9, s218_12, s218_13, s218_14, s218_17, s218_20, s218_21, s218_22, s218_25, s218_26, s218_29, s218_30, s218_33, s218_35, s218_36, s218_37, s218_38, s218_39, s218_42, s218_44, s218_45, s218_46, s218_47, s218_50, s218_53, s218_54, s218_57, s218_59, s218_60, s218_61, s218_62, s218_63, s218_66, s218_68, s218_69, s218_70, s218_71, s218_74, s218_75, s218_78, s218_79, s218_81, s218_83, s218_86, s218_87, s218_90, s218_91, s218_92, s218_95, s218_98, s218_99, nI_le2, nI_lt2, nI_eq2, nI_lt0, nI_0le, nI_0lt, nI_le0, nI_eq0, nI_clamp, nI_add, bu_nI, bb_0, bb_1, rf_s, rf_n, tl_s, tl_n, am_th_some, if_true, if_false, sI_eq, uI_eq, and_self, true_and, and_true, not_false_eq_true, not_true_eq_false, Nat.reduceEqDiff, Nat.reduceLeDiff, Nat.reduceLT, Nat.reduceAdd, Nat.reduceMul, Nat.reduceSub, Nat.zero_add, hc4, h1, hf, f1]
        · have f1 : x = nI j := f1
          have hj1 : (nI j = -nI 1) = False := eq_false (m1_ne (by omega))
          have hjc : x.toNatClampNeg = j := by rw [f1]; exact nI_clamp (by omega)
          obtain ⟨c0, c1, c2, c3⟩ := hP.1 j (by omega)
          cases most with
          | true =>
            by_cases q : P 2 c ≤ P 2 j
            · refine ⟨(x, .int (nI 0)), ?_, (no (fun v => v.2.elim (fun e => m1_ne (show j < 2 ^ 31 by omega) (f1.symm.trans e)) (fun e => by rw [if_pos rfl, hjc] at e; exact Int32.not_lt.mpr q e))).symm, stay⟩
              simp (disch := first | omega | assumption) only [s218_0, s218_1, s218_2, s218_3, s218_5, s218_6, s218_9, s218_12, s218_13, s218_14, s218_17, s218_20, s218_21, s218_22, s218_25, s218_26, s218_29, s218_30, s218_33, s218_35, s218_36, s218_37, s218_38, s218_39, s218_42, s218_44, s218_45, s218_46, s218_47, s218_50, s218_53, s218_54, s218_57, s218_59, s218_60, s218_61, s218_62, s218_63, s218_66, s218_68, s218_69, s218_70, s218_71, s218_74, s218_75, s218_78, s218_79, s218_81, s218_83, s218_86, s218_87, s218_90, s218_91, s218_92, s218_95, s218_98, s218_99, nI_le2, nI_lt2, nI_eq2, nI_lt0, nI_0le, nI_0lt, nI_le0, nI_eq0, nI_clamp, nI_add, bu_nI, bb_0, bb_1, rf_s, rf_n, tl_s, tl_n, am_th_some, if_true, if_false, sI_eq, uI_eq, and_self, true_and, and_true, not_false_eq_true, not_true_eq_false, Nat.reduceEqDiff, Nat.reduceLeDiff, Nat.reduceLT, Nat.reduceAdd, Nat.reduceMul, Nat.reduceSub, Nat.zero_add, hc4, h1, hf, f1, hj1, mr31 hr, a2, c2, q]
            · refine ⟨(nI c, .int (nI 1)), ?_, (yes ⟨b0, Or.inr (by rw [if_pos rfl, hjc]; exact Int32.not_le.mp q)⟩).symm, Or.inr ⟨c, by omega, rfl⟩⟩
              simp (disch := first | omega | assumption) only [s218_0, s218_1, s218_2, s218_3, s218_5, s218_6, s218_9, s218_12, s218_13, s218_14, s218_17, s218_20, s218_21, s218_22, s218_25, s218_26, s218_29, s218_30, s218_33, s218_35, s218_36, s218_37, s218_38, s218_39, s218_42, s218_44, s218_45, s218_46, s218_47, s218_50, s218_53, s218_54, s218_57, s218_59, s218_60, s218_61, s218_62, s218_63, s218_66, s218_68, s218_69, s218_70, s218_71, s218_74, s218_75, s218_78, s218_79, s218_81, s218_83, s218_86, s218_87, s218_90, s218_91, s218_92, s218_95, s218_98, s218_99, nI_le2, nI_lt2, nI_eq2, nI_lt0, nI_0le, nI_0lt, nI_le0, nI_eq0, nI_clamp, nI_add, bu_nI, bb_0, bb_1, rf_s, rf_n, tl_s, tl_n, am_th_some, if_true, if_false, sI_eq, uI_eq, and_self, true_and, and_true, not_false_eq_true, not_true_eq_false, Nat.reduceEqDiff, Nat.reduceLeDiff, Nat.reduceLT, Nat.reduceAdd, Nat.reduceMul, Nat.reduceSub, Nat.zero_add, hc4, h1, hf, f1, hj1, mr31 hr, a2, c2, q]
          | false =>
            by_cases q : P 2 j ≤ P 2 c
            · refine ⟨(x, .int (nI 0)), ?_, (no (fun v => v.2.elim (fun e => m1_ne (show j < 2 ^ 31 by omega) (f1.symm.trans e)) (fun e => by rw [if_neg (by decide), hjc] at e; exact Int32.not_lt.mpr q e))).symm, stay⟩
              simp (disch := first | omega | assumption) only [s218_0, s218_1, s218_2, s218_3, s218_5, s218_6, s218_9, s218_12, s218_13, s218_14, s218_17, s218_20, s218_21, s218_22, s218_25, s218_26, s218_29, s218_30, s218_33, s218_35, s218_36, s218_37, s218_38, s218_39, s218_42, s218_44, s218_45, s218_46, s218_47, s218_50, s218_53, s218_54, s218_57, s218_59, s218_60, s218_61, s218_62, s218_63, s218_66, s218_68, s218_69, s218_70, s218_71, s218_74, s218_75, s218_78, s218_79, s218_81, s218_83, s218_86, s218_87, s218_90, s218_91, s218_92, s218_95, s218_98, s218_99, nI_le2, nI_lt2, nI_eq2, nI_lt0, nI_0le, nI_0lt, nI_le0, nI_eq0, nI_clamp, nI_add, bu_nI, bb_0, bb_1, rf_s, rf_n, tl_s, tl_n, am_th_some, if_true, if_false, sI_eq, uI_eq, and_self, true_and, and_true, not_false_eq_true, not_true_eq_false, Nat.reduceEqDiff, Nat.reduceLeDiff, Nat.reduceLT, Nat.reduceAdd, Nat.reduceMul, Nat.reduceSub, Nat.zero_add, hc4, h1, hf, f1, hj1, mr31 hr, a2, c2, q, Bool.false_eq_true]
            · refine ⟨(nI c, .int (nI 1)), ?_, (yes ⟨b0, Or.inr (by rw [if_neg (by decide), hjc]; exact Int32.not_le.mp q)⟩).symm, Or.inr ⟨c, by omega, rfl⟩⟩
              simp (disch := first | omega | assumption) only [s218_0, s218_1, s218_2, s218_3, s218_5, s218_6, s218_9, s218_12, s218_13, s218_14, s218_17, s218_20, s218_21, s218_22, s218_25, s218_26, s218_29, s218_30, s218_33, s218_35, s218_36, s218_37, s218_38, s218_39, s218_42, s218_44, s218_45, s218_46, s218_47, s218_50, s218_53, s218_54, s218_57, s218_59, s218_60, s218_61, s218_62, s218_63, s218_66, s218_68, s218_69, s218_70, s218_71, s218_74, s218_75, s218_78, s218_79, s218_81, s218_83, s218_86, s218_87, s218_90, s218_91, s218_92, s218_95, s218_98, s218_99, nI_le2, nI_lt2, nI_eq2, nI_lt0, nI_0le, nI_0lt, nI_le0, nI_eq0, nI_clamp, nI_add, bu_nI, bb_0, bb_1, rf_s, rf_n, tl_s, tl_n, am_th_some, if_true, if_false, sI_eq, uI_eq, and_self, true_and, and_true, not_false_eq_true, not_true_eq_false, Nat.reduceEqDiff, Nat.reduceLeDiff, Nat.reduceLT, Nat.reduceAdd, Nat.reduceMul, Nat.reduceSub, Nat.zero_add, hc4, h1, hf, f1, hj1, mr31 hr, a2, c2, q, Bool.false_eq_true]
    · intro ⟨x, l4⟩ ⟨f0, f1⟩
      have f0 : x = sp_ext P most n := f0
      rw [s218_4]
      simp (disch := first | omega | assumption) only [s218_0, s218_1, s218_2, s218_3, s218_5, s218_6, s218_9, s218_12, s218_13, s218_14, s218_17, s218_20, s218_21, s218_22, s218_25, s218_26, s218_29, s218_30, s218_33, s218_35, s218_36, s218_37, s218_38, s218_39, s218_42, s218_44, s218_45, s218_46, s218_47, s218_50, s218_53, s218_54, s218_57, s218_59, s218_60, s218_61, s218_62, s218_63, s218_66, s218_68, s218_69, s218_70, s218_71, s218_74, s218_75, s218_78, s218_79, s218_81, s218_83, s218_86, s218_87, s218_90, s218_91, s218_92, s218_95, s218_98, s218_99, nI_le2, nI_lt2, nI_eq2, nI_lt0, nI_0le, nI_0lt, nI_le0, nI_eq0, nI_clamp, nI_add, bu_nI, bb_0, bb_1, rf_s, rf_n, tl_s, tl_n, am_th_some, if_true, if_false, sI_eq, uI_eq, and_self, true_and, and_true, not_false_eq_true, not_true_eq_false, Nat.reduceEqDiff, Nat.reduceLeDiff, Nat.reduceLT, Nat.reduceAdd, Nat.reduceMul, Nat.reduceSub, Nat.zero_add, hc4, Nat.le_refl]
      rw [f0]
  rw [s218]
  simp (disch := first | omega | assumption) only [s218_0, s218_1, s218_2, s218_3, s218_5, s218_6, s218_9, s218_12, s218_13, s218_14, s218_17, s218_20, s218_21, s218_22, s218_25, s218_26, s218_29, s218_30, s218_33, s218_35, s218_36, s218_37, s218_38, s218_39, s218_42, s218_44, s218_45, s218_46, s218_47, s218_50, s218_53, s218_54, s218_57, s218_59, s218_60, s218_61, s218_62, s218_63, s218_66, s218_68, s218_69, s218_70, s218_71, s218_74, s218_75, s218_78, s218_79, s218_81, s218_83, s218_86, s218_87, s218_90, s218_91, s218_92, s218_95, s218_98, s218_99, nI_le2, nI_lt2, nI_eq2, nI_lt0, nI_0le, nI_0lt, nI_le0, nI_eq0, nI_clamp, nI_add, bu_nI, bb_0, bb_1, rf_s, rf_n, tl_s, tl_n, am_th_some, if_true, if_false, sI_eq, uI_eq, and_self, true_and, and_true, not_false_eq_true, not_true_eq_false, Nat.reduceEqDiff, Nat.reduceLeDiff, Nat.reduceLT, Nat.reduceAdd, Nat.reduceMul, Nat.reduceSub, Nat.zero_add]
  exact loop am_J
theorem m_least (hb : 1 ≤ b ∧ b ≤ 99) (hr : mm_R R) (hP : mm_at I P) (hn2 : n ≤ 25) (hI : pt_I n b m P) : am_cal (d + 4) 219 [.ref (am_mk 12 0)] I R Q = some (some (.int (sp_least P)), I, R, Q) := by
  have hm := m_extreme (d := d) (Q := Q) hr hP hI.1 hn2 (most := false)
  rw [if_neg (by decide)] at hm
  rw [s219]
  obtain ⟨c, hc, hf⟩ := hI.2.2.2.2
  have hcn := ce_food (hI.2.2.2.1 c hc) hf
  have ht : sp_least P = am_fold (fun a c => if P 0 c ≤ 0 then a else if P 2 c < a then P 2 c else a) (nI 1000000000) n := fold_trunc hn2 fun x c h1 h2 => if_pos (ce_out (hI.2.2.2.1 c h2) h1)
  rcases least_nat hb.2 hI.2.2.2.1 n hn2 with ⟨-, e2, -⟩ | ⟨j, hj, e1, e2, e3, e4⟩
  · exact absurd (e2 c hcn) hf
  · have e1 : sp_ext P false n = nI j := e1
    rw [e1] at hm
    obtain ⟨c0, c1, c2, c3⟩ := hP.1 j (by omega)
    simp (disch := first | omega | assumption) only [s219_0, s219_1, s219_4, s219_6, s219_7, s219_8, s219_11, s219_12, s219_13, nI_le2, nI_lt2, nI_eq2, nI_lt0, nI_0le, nI_0lt, nI_le0, nI_eq0, nI_clamp, nI_add, bu_nI, bb_0, bb_1, rf_s, rf_n, tl_s, tl_n, am_th_some, if_true, if_false, sI_eq, uI_eq, and_self, true_and, and_true, not_false_eq_true, not_true_eq_false, Nat.reduceEqDiff, Nat.reduceLeDiff, Nat.reduceLT, Nat.reduceAdd, Nat.reduceMul, Nat.reduceSub, Nat.zero_add, hm, mr31 hr, c2]
    rw [ht, e3]
theorem safe_iff (hb : 1 ≤ b ∧ b ≤ 99) (hn2 : n ≤ 25) (hI : pt_I n b m P) {S : Int32} : sp_safe S n P ↔ sp_ice P = 0 ∧ ¬ sp_least P < S := by
  obtain ⟨c, hc, hf⟩ := hI.2.2.2.2
  have hcn := ce_food (hI.2.2.2.1 c hc) hf
  have ht : sp_least P = am_fold (fun a c => if P 0 c ≤ 0 then a else if P 2 c < a then P 2 c else a) (nI 1000000000) n := fold_trunc hn2 fun x c h1 h2 => if_pos (ce_out (hI.2.2.2.1 c h2) h1)
  obtain ⟨k, SS, T, U, -, g1, -, -, -, -, -, -, g2, -, -, g3, -⟩ := means_nat hb hI
  rcases least_nat hb.2 hI.2.2.2.1 n hn2 with ⟨-, e2, -⟩ | ⟨j, hj, e1, e2, e3, e4⟩
  · exact absurd (e2 c hcn) hf
  · rw [ht, e3, g1, nI_eq0 (by omega), g3]
    constructor
    · intro hs
      refine ⟨fun c hc => ?_, ?_⟩
      · by_cases q : P 0 c ≤ 0
        · rw [(ce_no (hI.2.2.2.1 c hc) q).2.1]; decide
        · exact ((hs c (ce_food (hI.2.2.2.1 c hc) q)).resolve_left q).1
      · exact ((hs j hj).resolve_left e2).2
    · rintro ⟨h1, h2⟩ c hc
      by_cases q : P 0 c ≤ 0
      · exact Or.inl q
      · refine Or.inr ⟨h1 c (by omega), fun v => ?_⟩
        exact e4 c hc q (Int32.lt_of_lt_of_le v (Int32.not_lt.mp h2))
theorem m_isSafe (hb : 1 ≤ b ∧ b ≤ 99) (hr : mm_R R) (hP : mm_at I P) (hn2 : n ≤ 25) (hI : pt_I n b m P) : am_cal (d + 5) 221 [.ref (am_mk 12 0)] I R Q = some (some (.int (if sp_safe (I 56 0 5) n P then nI 1 else nI 0)), I, R, Q) := by
  have hn := pt_n hI
  have hl : ¬ I 12 0 30 ≤ 0 := by rw [hP.2.1, hI.1, nI_le0 (by omega)]; omega
  have b5 : am_bu (nI 5) 6 = True := bu_nI (by decide)
  have e := safe_iff hb hn2 hI (S := I 56 0 5)
  rw [s221]
  by_cases q1 : sp_ice P = 0
  · by_cases q2 : sp_least P < I 56 0 5
    · rw [if_neg (fun v => (e.mp v).2 q2)]
      simp (disch := first | omega | assumption) only [s221_0, s221_1, s221_4, s221_7, s221_8, s221_10, s221_13, s221_16, s221_17, s221_20, s221_21, s221_24, s221_25, s221_26, s221_29, s221_30, s221_33, s221_34, nI_le2, nI_lt2, nI_eq2, nI_lt0, nI_0le, nI_0lt, nI_le0, nI_eq0, nI_clamp, nI_add, bu_nI, bb_0, bb_1, rf_s, rf_n, tl_s, tl_n, am_th_some, if_true, if_false, sI_eq, uI_eq, and_self, true_and, and_true, not_false_eq_true, not_true_eq_false, Nat.reduceEqDiff, Nat.reduceLeDiff, Nat.reduceLT, Nat.reduceAdd, Nat.reduceMul, Nat.reduceSub, Nat.zero_add, m_isLunch (d := d + 4), hl, m_allOf1 (d := d + 1) hr hP hn2 hI, m_least (d := d) hb hr hP hn2 hI, q1, q2, mr24 hr, b5]
    · rw [if_pos (e.mpr ⟨q1, q2⟩)]
      simp (disch := first | omega | assumption) only [s221_0, s221_1, s221_4, s221_7, s221_8, s221_10, s221_13, s221_16, s221_17, s221_20, s221_21, s221_24, s221_25, s221_26, s221_29, s221_30, s221_33, s221_34, nI_le2, nI_lt2, nI_eq2, nI_lt0, nI_0le, nI_0lt, nI_le0, nI_eq0, nI_clamp, nI_add, bu_nI, bb_0, bb_1, rf_s, rf_n, tl_s, tl_n, am_th_some, if_true, if_false, sI_eq, uI_eq, and_self, true_and, and_true, not_false_eq_true, not_true_eq_false, Nat.reduceEqDiff, Nat.reduceLeDiff, Nat.reduceLT, Nat.reduceAdd, Nat.reduceMul, Nat.reduceSub, Nat.zero_add, m_isLunch (d := d + 4), hl, m_allOf1 (d := d + 1) hr hP hn2 hI, m_least (d := d) hb hr hP hn2 hI, q1, q2, mr24 hr, b5]
  · rw [if_neg (fun v => q1 (e.mp v).1)]
    simp (disch := first | omega | assumption) only [s221_0, s221_1, s221_4, s221_7, s221_8, s221_10, s221_13, s221_16, s221_17, s221_20, s221_21, s221_24, s221_25, s221_26, s221_29, s221_30, s221_33, s221_34, nI_le2, nI_lt2, nI_eq2, nI_lt0, nI_0le, nI_0lt, nI_le0, nI_eq0, nI_clamp, nI_add, bu_nI, bb_0, bb_1, rf_s, rf_n, tl_s, tl_n, am_th_some, if_true, if_false, sI_eq, uI_eq, and_self, true_and, and_true, not_false_eq_true, not_true_eq_false, Nat.reduceEqDiff, Nat.reduceLeDiff, Nat.reduceLT, Nat.reduceAdd, Nat.reduceMul, Nat.reduceSub, Nat.zero_add, m_isLunch (d := d + 4), hl, m_allOf1 (d := d + 1) hr hP hn2 hI, q1]
end
