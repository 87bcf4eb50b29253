/-! JOINED: the model. -/
theorem M_B {w h c s : Nat} (hs : s < 4) : ∃ z, z < 4 ∧ sp_M w h c s = sp_B w h c z := by
  rcases (show s = 0 ∨ s = 1 ∨ s = 2 ∨ s = 3 by omega) with rfl | rfl | rfl | rfl
  · exact ⟨2, by decide, rfl⟩
  · exact ⟨3, by decide, rfl⟩
  · exact ⟨1, by decide, rfl⟩
  · exact ⟨0, by decide, rfl⟩
theorem B_M {w h c z : Nat} (hz : z < 4) : ∃ s, s < 4 ∧ sp_M w h c s = sp_B w h c z := by
  rcases (show z = 0 ∨ z = 1 ∨ z = 2 ∨ z = 3 by omega) with rfl | rfl | rfl | rfl
  · exact ⟨3, by decide, rfl⟩
  · exact ⟨2, by decide, rfl⟩
  · exact ⟨0, by decide, rfl⟩
  · exact ⟨1, by decide, rfl⟩
section
variable {d n u p w h k : Nat} {I : am_I} {R : am_R} {Q : am_Q} {P : Nat → Nat → Int32}
theorem m_joined (hr : mm_R R) (ho : mo_at I w h n) (hP : mm_at I P) (hn4 : P 4 0 = nI n) (hn : n ≤ 25) (hkn : k < n) (hkf : ¬ P 0 k ≤ 0) : ∃ S, jn_ok w h n P k S ∧ am_cal (d + 3) 275 [.ref (am_mk 12 0), .int (nI k)] I R Q = some (some (.int (nI S)), I, R, Q) := by
  obtain ⟨o0, o1, w0, w5, h5, hwh⟩ := ho
  subst hwh
  have hw : w < 6 := by omega
  have hh : h < 6 := by omega
  have h4 : I 12 0 30 = nI (w * h) := hP.2.1.trans hn4
  let Ok : Nat → Prop := fun S => S < 2 ^ 25 ∧ S.testBit k = true ∧ ∀ c, S.testBit c = true → sp_rc w h (w * h) P k c
  let Gd : Nat → Nat → Prop := fun S S' => Ok S' ∧ (S' = S ∨ sp_un 25 S' + 1 ≤ sp_un 25 S) ∧ (∀ c, S.testBit c = true → S'.testBit c = true)
  -- one CELL
  have side : ∀ (S S1 c : Nat) (l6 : Value), c < w * h → S < 2 ^ 25 → S.testBit c = true → Gd S S1 → ∃ S' l6', am_ev (d + 3) 275 38 [.ref (am_mk 12 0), .int (nI k), .int (nI S1), .int (nI S), .int (nI c), .int (nI 0), l6] [] I R Q = am_ev (d + 3) 275 89 [.ref (am_mk 12 0), .int (nI k), .int (nI S'), .int (nI S), .int (nI c), .int (nI 4), l6'] [] I R Q ∧ Gd S S' ∧ (∀ x, S1.testBit x = true → S'.testBit x = true) ∧ ∀ z o, z < 4 → sp_M w h c z = nI o → o < w * h → ¬ P 0 o ≤ 0 → S'.testBit o = true := by
    intro S S1 c l6 hc hS ht hG
    have hh2 := m_has (d := d + 2) (a := nI S) (b := nI c) (I := I) (R := R) (Q := Q)
    rw [if_pos (by rw [bit_has (s := S) (c := c) (by omega) (by omega)]; exact ht)] at hh2
    refine loop_inv (f := fun (a : Nat × Value) s => am_ev (d + 3) 275 38 [.ref (am_mk 12 0), .int (nI k), .int (nI a.1), .int (nI S), .int (nI c), .int (nI s), a.2] [] I R Q) (Inv := fun s a => Gd S a.1 ∧ (∀ x, S1.testBit x = true → a.1.testBit x = true) ∧ ∀ z o, z < s → sp_M w h c z = nI o → o < w * h → ¬ P 0 o ≤ 0 → a.1.testBit o = true) (Post := fun y => ∃ S' l6', y = am_ev (d + 3) 275 89 [.ref (am_mk 12 0), .int (nI k), .int (nI S'), .int (nI S), .int (nI c), .int (nI 4), l6'] [] I R Q ∧ Gd S S' ∧ (∀ x, S1.testBit x = true → S'.testBit x = true) ∧ ∀ z o, z < 4 → sp_M w h c z = nI o → o < w * h → ¬ P 0 o ≤ 0 → S'.testBit o = true) (n := 4) ?_ ?_ (Nat.zero_le _) (a := (S1, l6)) ⟨hG, fun x hx => hx, fun z o hz => absurd hz (Nat.not_lt_zero _)⟩
    · intro s ⟨S', l6⟩ hs ⟨⟨⟨q1, q2, q3⟩, q4, q5⟩, q6, q7⟩
      left
      have q1 : S' < 2 ^ 25 := q1
      have q2 : S'.testBit k = true := q2
      have q3 : ∀ c, S'.testBit c = true → sp_rc w h (w * h) P k c := q3
      have q4 : S' = S ∨ sp_un 25 S' + 1 ≤ sp_un 25 S := q4
      have q5 : ∀ c, S.testBit c = true → S'.testBit c = true := q5
      have q6 : ∀ x, S1.testBit x = true → S'.testBit x = true := q6
      have q7 : ∀ z o, z < s → sp_M w h c z = nI o → o < w * h → ¬ P 0 o ≤ 0 → S'.testBit o = true := q7
      have h1 : ¬ 4 ≤ s := by omega
      have hb := m_beside (d := d + 1) (Q := Q) hr o0 o1 w0 w5 h5 hc hs
      have hf := m_isFood (d := d) (I := I) (Q := Q) (x := sp_M w h c s) hr hP hn4 hn
      obtain ⟨z, hz, hzB⟩ := M_B (w := w) (h := h) (c := c) hs
      by_cases f : pp_f P (sp_M w h c s)
      · rw [if_pos f] at hf
        obtain ⟨o, ho, heo, hof⟩ := pp_f_of hn4 hn f
        rw [heo] at hb hf
        have e1 : nI 1 <<< (nI o &&& 31) = nI (2 ^ o) := nI_bit (by omega)
        have hrc : sp_rc w h (w * h) P k o := rc_step (q3 c (q5 c ht)) hz (by rw [← hzB]; exact heo) ho hof
        refine ⟨(S' ||| 2 ^ o, .int (nI o)), ?_, ⟨⟨or_lt q1 (p25 (by omega)), or_tb.mpr (Or.inl q2), fun c hc => ?_⟩, ?_, fun c hc => or_tb.mpr (Or.inl (q5 c hc))⟩, fun x hx => or_tb.mpr (Or.inl (q6 x hx)), fun z o2 hz2 e2 ho2 hf2 => ?_⟩
        · rw [s275_38]
          simp (disch := first | omega | assumption) only [s275_0, s275_1, s275_2, s275_5, s275_8, s275_9, s275_10, s275_11, s275_12, s275_13, s275_14, s275_15, s275_17, s275_18, s275_21, s275_22, s275_23, s275_24, s275_28, s275_29, s275_32, s275_35, s275_36, s275_40, s275_41, s275_44, s275_45, s275_47, s275_50, s275_53, s275_54, s275_56, s275_58, s275_61, s275_63, s275_64, s275_65, s275_67, s275_70, s275_73, s275_74, s275_76, s275_77, s275_80, s275_81, s275_82, s275_83, s275_86, s275_92, s275_95, s275_98, s275_99, nI_le2, nI_lt2, nI_eq2, nI_lt0, nI_0le, nI_0lt, nI_le0, nI_eq0, nI_clamp, nI_add, bu_nI, bb_0, bb_1, rf_s, rf_n, tl_s, tl_n, am_th_some, if_true, if_false, sI_eq, uI_eq, and_self, true_and, and_true, not_false_eq_true, not_true_eq_false, Nat.reduceEqDiff, Nat.reduceLeDiff, Nat.reduceLT, Nat.reduceAdd, Nat.reduceMul, Nat.reduceSub, Nat.zero_add, h1, hh2, hb, hf, e1, nI_or]
        · rcases or_tb.mp hc with q | q
          · exact q3 c q
          · rw [q]; exact hrc
        · show S' ||| 2 ^ o = S ∨ sp_un 25 (S' ||| 2 ^ o) + 1 ≤ sp_un 25 S
          cases ht2 : S'.testBit o with
          | true => rw [or_bit ht2]; exact q4
          | false =>
            right
            have hu := un_set ht2 25
            rw [if_pos (by omega)] at hu
            rcases q4 with q | q
            · rw [q] at hu ⊢; omega
            · omega
        · rcases Nat.lt_succ_iff_lt_or_eq.mp hz2 with q | q
          · exact or_tb.mpr (Or.inl (q7 z o2 q e2 ho2 hf2))
          · rw [q, heo, nI_eq2 (by omega) (by omega)] at e2
            exact or_tb.mpr (Or.inr e2.symm)
      · rw [if_neg f] at hf
        refine ⟨(S', .int (sp_M w h c s)), ?_, ⟨⟨q1, q2, q3⟩, q4, q5⟩, q6, fun z o2 hz2 e2 ho2 hf2 => ?_⟩
        · have e0 : nI S' ||| nI 0 = nI S' := by rw [nI_or, Nat.or_zero]
          rw [s275_38]
          simp (disch := first | omega | assumption) only [s275_0, s275_1, s275_2, s275_5, s275_8, s275_9, s275_10, s275_11, s275_12, s275_13, s275_14, s275_15, s275_17, s275_18, s275_21, s275_22, s275_23, s275_24, s275_28, s275_29, s275_32, s275_35, s275_36, s275_40, s275_41, s275_44, s275_45, s275_47, s275_50, s275_53, s275_54, s275_56, s275_58, s275_61, s275_63, s275_64, s275_65, s275_67, s275_70, s275_73, s275_74, s275_76, s275_77, s275_80, s275_81, s275_82, s275_83, s275_86, s275_92, s275_95, s275_98, s275_99, nI_le2, nI_lt2, nI_eq2, nI_lt0, nI_0le, nI_0lt, nI_le0, nI_eq0, nI_clamp, nI_add, bu_nI, bb_0, bb_1, rf_s, rf_n, tl_s, tl_n, am_th_some, if_true, if_false, sI_eq, uI_eq, and_self, true_and, and_true, not_false_eq_true, not_true_eq_false, Nat.reduceEqDiff, Nat.reduceLeDiff, Nat.reduceLT, Nat.reduceAdd, Nat.reduceMul, Nat.reduceSub, Nat.zero_add, h1, hh2, hb, hf, e0]
        · rcases Nat.lt_succ_iff_lt_or_eq.mp hz2 with q | q
          · exact q7 z o2 q e2 ho2 hf2
          · rw [q] at e2
            exact absurd (by rw [e2]; exact (pp_f_k hn4 hn (by omega)).mpr ⟨ho2, hf2⟩) f
    · intro ⟨S', l6⟩ ⟨q1, q6, q7⟩
      refine ⟨S', l6, ?_, q1, q6, q7⟩
      rw [s275_38]
      simp (disch := first | omega | assumption) only [s275_0, s275_1, s275_2, s275_5, s275_8, s275_9, s275_10, s275_11, s275_12, s275_13, s275_14, s275_15, s275_17, s275_18, s275_21, s275_22, s275_23, s275_24, s275_28, s275_29, s275_32, s275_35, s275_36, s275_40, s275_41, s275_44, s275_45, s275_47, s275_50, s275_53, s275_54, s275_56, s275_58, s275_61, s275_63, s275_64, s275_65, s275_67, s275_70, s275_73, s275_74, s275_76, s275_77, s275_80, s275_81, s275_82, s275_83, s275_86, s275_92, s275_95, s275_98, s275_99, nI_le2, nI_lt2, nI_eq2, nI_lt0, nI_0le, nI_0lt, nI_le0, nI_eq0, nI_clamp, nI_add, bu_nI, bb_0, bb_1, rf_s, rf_n, tl_s, tl_n, am_th_some, if_true, if_false, sI_eq, uI_eq, and_self, true_and, and_true, not_false_eq_true, not_true_eq_false, Nat.reduceEqDiff, Nat.reduceLeDiff, Nat.reduceLT, Nat.reduceAdd, Nat.reduceMul, Nat.reduceSub, Nat.zero_add]
  have pass : ∀ (S : Nat) (l5 l6 : Value), Ok S → ∃ S' l5' l6', am_ev (d + 3) 275 26 [.ref (am_mk 12 0), .int (nI k), .int (nI S), .int (nI S), .int (nI 0), l5, l6] [] I R Q = am_ev (d + 3) 275 16 [.ref (am_mk 12 0), .int (nI k), .int (nI S'), .int (nI S), .int (nI (w * h)), l5', l6'] [] I R Q ∧ Gd S S' ∧ (S' = S → jn_cl w h (w * h) P S) := by
    intro S l5 l6 hOk
    have hS := hOk.1
    refine loop_inv (f := fun (a : Nat × Value × Value) c => am_ev (d + 3) 275 26 [.ref (am_mk 12 0), .int (nI k), .int (nI a.1), .int (nI S), .int (nI c), a.2.1, a.2.2] [] I R Q) (Inv := fun c a => Gd S a.1 ∧ ∀ x, x < c → S.testBit x = true → ∀ z o, z < 4 → sp_M w h x z = nI o → o < w * h → ¬ P 0 o ≤ 0 → a.1.testBit o = true) (Post := fun y => ∃ S' l5' l6', y = am_ev (d + 3) 275 16 [.ref (am_mk 12 0), .int (nI k), .int (nI S'), .int (nI S), .int (nI (w * h)), l5', l6'] [] I R Q ∧ Gd S S' ∧ (S' = S → jn_cl w h (w * h) P S)) (n := w * h) ?_ ?_ (Nat.zero_le _) (a := (S, l5, l6)) ⟨⟨hOk, Or.inl rfl, fun c hc => hc⟩, fun x hx => absurd hx (Nat.not_lt_zero _)⟩
    · intro c ⟨S1, l5, l6⟩ hc ⟨q1, q2⟩
      left
      have q1 : Gd S S1 := q1
      have h1 : ¬ w * h ≤ c := by omega
      cases ht : S.testBit c with
      | true =>
        obtain ⟨S', l6', g1, g2, g3, g4⟩ := side S S1 c l6 hc hS ht q1
        refine ⟨(S', .int (nI 4), l6'), ?_, g2, fun x hx htx z o hz e ho hf => ?_⟩
        · rw [s275_26]
          simp (disch := first | omega | assumption) only [s275_0, s275_1, s275_2, s275_5, s275_8, s275_9, s275_10, s275_11, s275_12, s275_13, s275_14, s275_15, s275_17, s275_18, s275_21, s275_22, s275_23, s275_24, s275_28, s275_29, s275_32, s275_35, s275_36, s275_40, s275_41, s275_44, s275_45, s275_47, s275_50, s275_53, s275_54, s275_56, s275_58, s275_61, s275_63, s275_64, s275_65, s275_67, s275_70, s275_73, s275_74, s275_76, s275_77, s275_80, s275_81, s275_82, s275_83, s275_86, s275_92, s275_95, s275_98, s275_99, nI_le2, nI_lt2, nI_eq2, nI_lt0, nI_0le, nI_0lt, nI_le0, nI_eq0, nI_clamp, nI_add, bu_nI, bb_0, bb_1, rf_s, rf_n, tl_s, tl_n, am_th_some, if_true, if_false, sI_eq, uI_eq, and_self, true_and, and_true, not_false_eq_true, not_true_eq_false, Nat.reduceEqDiff, Nat.reduceLeDiff, Nat.reduceLT, Nat.reduceAdd, Nat.reduceMul, Nat.reduceSub, Nat.zero_add, h4, h1]
          rw [g1]
          simp (disch := first | omega | assumption) only [s275_0, s275_1, s275_2, s275_5, s275_8, s275_9, s275_10, s275_11, s275_12, s275_13, s275_14, s275_15, s275_17, s275_18, s275_21, s275_22, s275_23, s275_24, s275_28, s275_29, s275_32, s275_35, s275_36, s275_40, s275_41, s275_44, s275_45, s275_47, s275_50, s275_53, s275_54, s275_56, s275_58, s275_61, s275_63, s275_64, s275_65, s275_67, s275_70, s275_73, s275_74, s275_76, s275_77, s275_80, s275_81, s275_82, s275_83, s275_86, s275_89, s275_92, s275_95, s275_98, s275_99, nI_le2, nI_lt2, nI_eq2, nI_lt0, nI_0le, nI_0lt, nI_le0, nI_eq0, nI_clamp, nI_add, bu_nI, bb_0, bb_1, rf_s, rf_n, tl_s, tl_n, am_th_some, if_true, if_false, sI_eq, uI_eq, and_self, true_and, and_true, not_false_eq_true, not_true_eq_false, Nat.reduceEqDiff, Nat.reduceLeDiff, Nat.reduceLT, Nat.reduceAdd, Nat.reduceMul, Nat.reduceSub, Nat.zero_add]
        · rcases Nat.lt_succ_iff_lt_or_eq.mp hx with q | q
          · exact g3 o (q2 x q htx z o hz e ho hf)
          · rw [q] at e; exact g4 z o hz e ho hf
      | false =>
        have hh2 := m_has (d := d + 2) (a := nI S) (b := nI c) (I := I) (R := R) (Q := Q)
        rw [if_neg (by rw [bit_has (s := S) (c := c) (by omega) (by omega), ht]; decide)] at hh2
        refine ⟨(S1, .int (nI 0), l6), ?_, q1, fun x hx htx z o hz e ho hf => ?_⟩
        · rw [s275_26]
          simp (disch := first | omega | assumption) only [s275_0, s275_1, s275_2, s275_5, s275_8, s275_9, s275_10, s275_11, s275_12, s275_13, s275_14, s275_15, s275_17, s275_18, s275_21, s275_22, s275_23, s275_24, s275_28, s275_29, s275_32, s275_35, s275_36, s275_40, s275_41, s275_44, s275_45, s275_47, s275_50, s275_53, s275_54, s275_56, s275_58, s275_61, s275_63, s275_64, s275_65, s275_67, s275_70, s275_73, s275_74, s275_76, s275_77, s275_80, s275_81, s275_82, s275_83, s275_86, s275_92, s275_95, s275_98, s275_99, nI_le2, nI_lt2, nI_eq2, nI_lt0, nI_0le, nI_0lt, nI_le0, nI_eq0, nI_clamp, nI_add, bu_nI, bb_0, bb_1, rf_s, rf_n, tl_s, tl_n, am_th_some, if_true, if_false, sI_eq, uI_eq, and_self, true_and, and_true, not_false_eq_true, not_true_eq_false, Nat.reduceEqDiff, Nat.reduceLeDiff, Nat.reduceLT, Nat.reduceAdd, Nat.reduceMul, Nat.reduceSub, Nat.zero_add, h4, h1]
          rw [s275_38]
          simp (disch := first | omega | assumption) only [s275_0, s275_1, s275_2, s275_5, s275_8, s275_9, s275_10, s275_11, s275_12, s275_13, s275_14, s275_15, s275_17, s275_18, s275_21, s275_22, s275_23, s275_24, s275_28, s275_29, s275_32, s275_35, s275_36, s275_40, s275_41, s275_44, s275_45, s275_47, s275_50, s275_53, s275_54, s275_56, s275_58, s275_61, s275_63, s275_64, s275_65, s275_67, s275_70, s275_73, s275_74, s275_76, s275_77, s275_80, s275_81, s275_82, s275_83, s275_86, s275_89, s275_92, s275_95, s275_98, s275_99, nI_le2, nI_lt2, nI_eq2, nI_lt0, nI_0le, nI_0lt, nI_le0, nI_eq0, nI_clamp, nI_add, bu_nI, bb_0, bb_1, rf_s, rf_n, tl_s, tl_n, am_th_some, if_true, if_false, sI_eq, uI_eq, and_self, true_and, and_true, not_false_eq_true, not_true_eq_false, Nat.reduceEqDiff, Nat.reduceLeDiff, Nat.reduceLT, Nat.reduceAdd, Nat.reduceMul, Nat.reduceSub, Nat.zero_add, hh2]
        · rcases Nat.lt_succ_iff_lt_or_eq.mp hx with q | q
          · exact q2 x q htx z o hz e ho hf
          · rw [q, ht] at htx; exact absurd htx (by decide)
    · intro ⟨S', l5, l6⟩ ⟨q1, q2⟩
      refine ⟨S', l5, l6, ?_, q1, fun e => ?_⟩
      · rw [s275_26]
        simp (disch := first | omega | assumption) only [s275_0, s275_1, s275_2, s275_5, s275_8, s275_9, s275_10, s275_11, s275_12, s275_13, s275_14, s275_15, s275_17, s275_18, s275_21, s275_22, s275_23, s275_24, s275_28, s275_29, s275_32, s275_35, s275_36, s275_40, s275_41, s275_44, s275_45, s275_47, s275_50, s275_53, s275_54, s275_56, s275_58, s275_61, s275_63, s275_64, s275_65, s275_67, s275_70, s275_73, s275_74, s275_76, s275_77, s275_80, s275_81, s275_82, s275_83, s275_86, s275_92, s275_95, s275_98, s275_99, nI_le2, nI_lt2, nI_eq2, nI_lt0, nI_0le, nI_0lt, nI_le0, nI_eq0, nI_clamp, nI_add, bu_nI, bb_0, bb_1, rf_s, rf_n, tl_s, tl_n, am_th_some, if_true, if_false, sI_eq, uI_eq, and_self, true_and, and_true, not_false_eq_true, not_true_eq_false, Nat.reduceEqDiff, Nat.reduceLeDiff, Nat.reduceLT, Nat.reduceAdd, Nat.reduceMul, Nat.reduceSub, Nat.zero_add, h4, Nat.le_refl]
      · have e : S' = S := e
        subst e
        intro c o s hc ht hs e ho hf
        obtain ⟨z, hz, hzM⟩ := B_M (w := w) (h := h) (c := c) hs
        exact q2 c hc ht z o hz (hzM.trans e) ho hf
  have loop : ∀ l4 l5 l6 : Value, ∃ S, jn_ok w h (w * h) P k S ∧ am_ev (d + 3) 275 16 [.ref (am_mk 12 0), .int (nI k), .int (nI (2 ^ k)), .int (nI 0), l4, l5, l6] [] I R Q = some (some (.int (nI S)), I, R, Q) := by
    intro l4 l5 l6
    have ok0 : Ok (2 ^ k) := ⟨p25 (by omega), Nat.testBit_two_pow_self, fun c hc => by
      rw [Nat.testBit_two_pow, decide_eq_true_iff] at hc
      rw [← hc]; exact rc_base⟩
    have un0 : sp_un 25 (2 ^ k) = 24 := by
      have := un_set (Nat.zero_testBit k) 25
      rw [Nat.zero_or, un_0, if_pos (by omega)] at this
      omega
    refine loop_inv (f := fun (a : Nat × Nat × Value × Value × Value) i => am_ev (d + 3) 275 16 [.ref (am_mk 12 0), .int (nI k), .int (nI a.1), .int (nI a.2.1), a.2.2.1, a.2.2.2.1, a.2.2.2.2] [] I R Q) (Inv := fun i a => Ok a.1 ∧ a.2.1 < 2 ^ 25 ∧ ((a.1 = a.2.1 ∧ jn_cl w h (w * h) P a.1) ∨ (¬ a.1 = a.2.1 ∧ sp_un 25 a.1 + i ≤ 24))) (Post := fun y => ∃ S, jn_ok w h (w * h) P k S ∧ y = some (some (.int (nI S)), I, R, Q)) (n := 25) ?_ ?_ (Nat.zero_le _) (a := (2 ^ k, 0, l4, l5, l6)) ⟨ok0, by show (0 : Nat) < 2 ^ 25; decide, Or.inr ⟨by have := Nat.two_pow_pos k; show ¬ 2 ^ k = 0; omega, by show sp_un 25 (2 ^ k) + 0 ≤ 24; omega⟩⟩
    · intro i ⟨S, S0, l4, l5, l6⟩ hi ⟨q1, q0, q2⟩
      have q1 : Ok S := q1
      have q0 : S0 < 2 ^ 25 := q0
      have q2 : (S = S0 ∧ jn_cl w h (w * h) P S) ∨ (¬ S = S0 ∧ sp_un 25 S + i ≤ 24) := q2
      have hS := q1.1
      rcases q2 with ⟨e, cl⟩ | ⟨e, hu⟩
      · right
        subst e
        refine ⟨S, jn_of hkn q1.1 q1.2.1 q1.2.2 cl, ?_⟩
        rw [s275_16]
        simp (disch := first | omega | assumption) only [s275_0, s275_1, s275_2, s275_5, s275_8, s275_9, s275_10, s275_11, s275_12, s275_13, s275_14, s275_15, s275_17, s275_18, s275_21, s275_22, s275_23, s275_24, s275_28, s275_29, s275_32, s275_35, s275_36, s275_40, s275_41, s275_44, s275_45, s275_47, s275_50, s275_53, s275_54, s275_56, s275_58, s275_61, s275_63, s275_64, s275_65, s275_67, s275_70, s275_73, s275_74, s275_76, s275_77, s275_80, s275_81, s275_82, s275_83, s275_86, s275_89, s275_92, s275_95, s275_98, s275_99, nI_le2, nI_lt2, nI_eq2, nI_lt0, nI_0le, nI_0lt, nI_le0, nI_eq0, nI_clamp, nI_add, bu_nI, bb_0, bb_1, rf_s, rf_n, tl_s, tl_n, am_th_some, if_true, if_false, sI_eq, uI_eq, and_self, true_and, and_true, not_false_eq_true, not_true_eq_false, Nat.reduceEqDiff, Nat.reduceLeDiff, Nat.reduceLT, Nat.reduceAdd, Nat.reduceMul, Nat.reduceSub, Nat.zero_add]
      · left
        obtain ⟨S', l5', l6', g1, g2, g3⟩ := pass S l5 l6 q1
        refine ⟨(S', S, .int (nI (w * h)), l5', l6'), ?_, g2.1, hS, ?_⟩
        · have e' : (nI S = nI S0) = False := by rw [nI_eq2 (by omega) (by omega)]; exact eq_false e
          rw [s275_16]
          simp (disch := first | omega | assumption) only [s275_0, s275_1, s275_2, s275_5, s275_8, s275_9, s275_10, s275_11, s275_12, s275_13, s275_14, s275_15, s275_17, s275_18, s275_21, s275_22, s275_23, s275_24, s275_28, s275_29, s275_32, s275_35, s275_36, s275_40, s275_41, s275_44, s275_45, s275_47, s275_50, s275_53, s275_54, s275_56, s275_58, s275_61, s275_63, s275_64, s275_65, s275_67, s275_70, s275_73, s275_74, s275_76, s275_77, s275_80, s275_81, s275_82, s275_83, s275_86, s275_89, s275_92, s275_95, s275_98, s275_99, nI_le2, nI_lt2, nI_eq2, nI_lt0, nI_0le, nI_0lt, nI_le0, nI_eq0, nI_clamp, nI_add, bu_nI, bb_0, bb_1, rf_s, rf_n, tl_s, tl_n, am_th_some, if_true, if_false, sI_eq, uI_eq, and_self, true_and, and_true, not_false_eq_true, not_true_eq_false, Nat.reduceEqDiff, Nat.reduceLeDiff, Nat.reduceLT, Nat.reduceAdd, Nat.reduceMul, Nat.reduceSub, Nat.zero_add, e']
          exact g1
        · by_cases e2 : S' = S
          · exact Or.inl ⟨e2, by show jn_cl w h (w * h) P S'; rw [e2]; exact g3 e2⟩
          · exact Or.inr ⟨e2, by show sp_un 25 S' + (i + 1) ≤ 24; have := g2.2.1.resolve_left e2; omega⟩
    · intro ⟨S, S0, l4, l5, l6⟩ ⟨q1, q0, q2⟩
      have q1 : Ok S := q1
      have q2 : (S = S0 ∧ jn_cl w h (w * h) P S) ∨ (¬ S = S0 ∧ sp_un 25 S + 25 ≤ 24) := q2
      rcases q2 with ⟨e, cl⟩ | ⟨e, hu⟩
      · subst e
        refine ⟨S, jn_of hkn q1.1 q1.2.1 q1.2.2 cl, ?_⟩
        rw [s275_16]
        simp (disch := first | omega | assumption) only [s275_0, s275_1, s275_2, s275_5, s275_8, s275_9, s275_10, s275_11, s275_12, s275_13, s275_14, s275_15, s275_17, s275_18, s275_21, s275_22, s275_23, s275_24, s275_28, s275_29, s275_32, s275_35, s275_36, s275_40, s275_41, s275_44, s275_45, s275_47, s275_50, s275_53, s275_54, s275_56, s275_58, s275_61, s275_63, s275_64, s275_65, s275_67, s275_70, s275_73, s275_74, s275_76, s275_77, s275_80, s275_81, s275_82, s275_83, s275_86, s275_89, s275_92, s275_95, s275_98, s275_99, nI_le2, nI_lt2, nI_eq2, nI_lt0, nI_0le, nI_0lt, nI_le0, nI_eq0, nI_clamp, nI_add, bu_nI, bb_0, bb_1, rf_s, rf_n, tl_s, tl_n, am_th_some, if_true, if_false, sI_eq, uI_eq, and_self, true_and, and_true, not_false_eq_true, not_true_eq_false, Nat.reduceEqDiff, Nat.reduceLeDiff, Nat.reduceLT, Nat.reduceAdd, Nat.reduceMul, Nat.reduceSub, Nat.zero_add]
      · omega
  have e1 : nI 1 <<< (nI k &&& 31) = nI (2 ^ k) := nI_bit (by omega)
  have hf := m_isFood (d := d) (I := I) (Q := Q) (x := nI k) hr hP hn4 hn
  rw [if_pos ((pp_f_k hn4 hn (by omega)).mpr ⟨hkn, hkf⟩)] at hf
  obtain ⟨S, g1, g2⟩ := loop am_J am_J am_J
  refine ⟨S, g1, ?_⟩
  rw [s275]
  simp (disch := first | omega | assumption) only [s275_0, s275_1, s275_2, s275_5, s275_8, s275_9, s275_10, s275_11, s275_12, s275_13, s275_14, s275_15, s275_17, s275_18, s275_21, s275_22, s275_23, s275_24, s275_26, s275_28, s275_29, s275_32, s275_35, s275_36, s275_38, s275_40, s275_41, s275_44, s275_45, s275_47, s275_50, s275_53, s275_54, s275_56, s275_58, s275_61, s275_63, s275_64, s275_65, s275_67, s275_70, s275_73, s275_74, s275_76, s275_77, s275_80, s275_81, s275_82, s275_83, s275_86, s275_89, s275_92, s275_95, s275_98, s275_99, nI_le2, nI_lt2, nI_eq2, nI_lt0, nI_0le, nI_0lt, nI_le0, nI_eq0, nI_clamp, nI_add, bu_nI, bb_0, bb_1, rf_s, rf_n, tl_s, tl_n, am_th_some, if_true, if_false, sI_eq, uI_eq, and_self, true_and, and_true, not_false_eq_true, not_true_eq_false, Nat.reduceEqDiff, Nat.reduceLeDiff, Nat.reduceLT, Nat.reduceAdd, Nat.reduceMul, Nat.reduceSub, Nat.zero_add, e1, hf]
  exact g2
end
