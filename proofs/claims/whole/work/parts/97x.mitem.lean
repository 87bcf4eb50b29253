/-! LUNCH texts: ITEMS; the model, both sides alike. -/
def zYl (k : Nat) : Nat := [6, 48, 12, 12].getD k 0
theorem zY_ok : ∀ k, k < 4 → am_at (52 + k) = 0 ∧ am_len (52 + k) = zYl k ∧ zYl k ≤ 48 := by decide +kernel
def zmi_at (I : am_I) (L : Nat) (B : Nat → Nat) (a k r : Nat) (V : Nat → Nat) : Prop := tm_at I L B ∧ I 12 0 3 = nI a ∧ I 12 0 4 = -nI 1 ∧ ∀ j, j < zM k → I (52 + k) 0 (r + j) = nI (V j)
def zmi_S (k r : Nat) : Nat → Nat → Nat → Prop := fun a _ j => (a = 12 ∧ (j = 3 ∨ j = 4)) ∨ (a = 52 + k ∧ r ≤ j ∧ j < r + zM k)
abbrev zmi_l (k r : Nat) (l5 l6 : Value) : List Value := [.ref (am_mk 12 0), .int (nI (zC k)), .ref (am_mk (52 + k) 0), .int (nI r), .int (nI (zM k)), l5, l6]
section
variable {d L a k r u j : Nat} {I : am_I} {R : am_R} {Q : am_Q} {B : Nat → Nat} {V : Nat → Nat}
theorem w194_21 {i : Nat} {x : Int32} {l0 l1 l2 l3 l4 l5 l6 : Value} {st : List Value} (hk : k < 4) (hi : i < zYl k) : am_ev d 194 21 [l0, l1, l2, l3, l4, l5, l6] (.int x :: .int (nI i) :: .ref (am_mk (52 + k) 0) :: st) I R Q = am_ev d 194 22 [l0, l1, l2, l3, l4, l5, l6] st (am_sI I (52 + k) 0 (am_uI (I (52 + k) 0) i x)) R Q := by
  obtain ⟨h1, h2, h3⟩ := zY_ok k hk
  have := s194_21 (d := d) (l0 := l0) (l1 := l1) (l2 := l2) (l3 := l3) (l4 := l4) (l5 := l5) (l6 := l6) (st := st) (a := 52 + k) (k := 0) (i := nI i) (x := x) (I := I) (R := R) (Q := Q) ⟨h1, by omega⟩ ⟨nI_pos' (by omega), by rw [nI_clamp (by omega), h2]; exact hi⟩
  rw [nI_clamp (by omega)] at this
  exact this
theorem w194_105 {i : Nat} {x : Int32} {l0 l1 l2 l3 l4 l5 l6 : Value} {st : List Value} (hk : k < 4) (hi : i < zYl k) : am_ev d 194 105 [l0, l1, l2, l3, l4, l5, l6] (.int x :: .int (nI i) :: .ref (am_mk (52 + k) 0) :: st) I R Q = am_ev d 194 106 [l0, l1, l2, l3, l4, l5, l6] st (am_sI I (52 + k) 0 (am_uI (I (52 + k) 0) i x)) R Q := by
  obtain ⟨h1, h2, h3⟩ := zY_ok k hk
  have := s194_105 (d := d) (l0 := l0) (l1 := l1) (l2 := l2) (l3 := l3) (l4 := l4) (l5 := l5) (l6 := l6) (st := st) (a := 52 + k) (k := 0) (i := nI i) (x := x) (I := I) (R := R) (Q := Q) ⟨h1, by omega⟩ ⟨nI_pos' (by omega), by rw [nI_clamp (by omega), h2]; exact hi⟩
  rw [nI_clamp (by omega)] at this
  exact this
def zui_c (L : Nat) (B : Nat → Nat) (k a G : Nat) (V : Nat → Nat) (ok : Bool) (a' : Nat) (V' : Nat → Nat) : Prop := ∀ (d : Nat) (I : am_I) (R : am_R) (Q : am_Q) (u : Nat), 8 ≤ d → ze_R R u → zi_at I L B a k G V → ∃ J : am_I, am_fr zi_S I J ∧ (ok = true → ∃ (l4 : Value) (G' : Nat), am_ev d 61 129 [.ref (am_mk 7 0), .int (nI k), .int (nI (zF k)), .int (nI (zF k + zM k)), .int (nI (zF k + zpc G (zM k)))] [] I R Q = am_ev d 61 157 [.ref (am_mk 7 0), .int (nI k), .int (nI (zF k)), .int (nI (zF k + zM k)), l4] [] J R Q ∧ zi_at J L B a' k G' V') ∧ (ok = false → am_ev d 61 129 [.ref (am_mk 7 0), .int (nI k), .int (nI (zF k)), .int (nI (zF k + zM k)), .int (nI (zF k + zpc G (zM k)))] [] I R Q = some (some (.int (nI 0)), J, R, Q) ∧ J 10 0 2 = nI a')
abbrev zui_bad (L : Nat) (B : Nat → Nat) (J : am_I) (a' : Nat) : Prop := J 12 0 4 = nI a' ∨ (J 12 0 4 = -nI 1 ∧ J 12 0 3 = nI a' ∧ a' < L ∧ ¬ sp_hr L B a' = 59 ∧ sp_sk L B a' = a')
def zui_m (L : Nat) (B : Nat → Nat) (k a G : Nat) (V : Nat → Nat) (ok : Bool) (a' : Nat) (V' : Nat → Nat) : Prop := ∀ (d : Nat) (I : am_I) (R : am_R) (Q : am_Q) (r : Nat), 8 ≤ d → mm_R R → r + zM k ≤ zYl k → zmi_at I L B (sp_sk L B a) k r V → ∃ J : am_I, am_ev d 194 41 (zmi_l k r (.int (nI G)) (.int (if zit k (sp_hr L B (sp_sk L B a)) < zM k then nI (zit k (sp_hr L B (sp_sk L B a))) else -nI 1))) [] I R Q = some (none, J, R, Q) ∧ am_fr (zmi_S k r) I J ∧ (ok = true → zmi_at J L B a' k r V') ∧ (ok = false → zui_bad L B J a')
def zui (L : Nat) (B : Nat → Nat) (k a G : Nat) (V : Nat → Nat) : Prop := ∃ (ok : Bool) (a' : Nat) (V' : Nat → Nat), zui_c L B k a G V ok a' V' ∧ zui_m L B k a G V ok a' V' ∧ a ≤ a' ∧ a' ≤ L ∧ (ok = true → (sp_hr L B a' = 59 ∨ ¬ a' < L) ∧ sp_sk L B a' = a' ∧ ∀ j, j < zM k → zLo (zF k + j) ≤ V' j ∧ V' j ≤ zHi (zF k + j))
theorem zui_all (hk : tp_ok L B) (hk4 : k < 4) : ∀ m a G V, L - a ≤ m → a ≤ L → G < 64 → (∀ j, j < zM k → zLo (zF k + j) ≤ V j ∧ V j ≤ zHi (zF k + j)) → zui L B k a G V := by
  obtain ⟨f1, f2, f3, f4⟩ := zM_F k hk4
  have hne : ((nI 1 : Int32) = 0) = False := by decide
  have hL := hk.1
  -- the end of a CLAUSE
  have caseA : ∀ a G V, a ≤ L → G < 64 → (∀ j, j < zM k → zLo (zF k + j) ≤ V j ∧ V j ≤ zHi (zF k + j)) → (sp_hr L B (sp_sk L B a) = 59 ∨ ¬ sp_sk L B a < L) → zui L B k a G V := by
    intro a G V haL hG hV e
    have hs := sk_L (B := B) haL
    have hx := hr_le (a := sp_sk L B a) hk
    have hle := zpc_le G hG (zM k) f4
    refine ⟨true, sp_sk L B a, V, ?_, ?_, hs.1, hs.2, fun _ => ⟨e, sk_sk, hV⟩⟩
    · intro d I R Q u hd hr h
      obtain ⟨d, rfl⟩ : ∃ q, d = q + 4 := ⟨d - 4, by omega⟩
      obtain ⟨J, g1, fj, h1⟩ := zi_sign (d := d + 2) (Q := Q) hr hk h haL
      have r0 := hr.2.1
      have q1 : ¬ zF k + zM k < zF k + zpc G (zM k) := by omega
      rcases e with e | e
      · rw [e] at g1
        refine ⟨J, fj, fun _ => ⟨.int (nI (zF k + zpc G (zM k))), G, ?_, h1⟩, fa_t⟩
        rw [s61_129]
        simp (disch := first | omega | assumption) only [s61_0, s61_1, s61_4, s61_6, s61_9, s61_12, s61_14, s61_15, s61_18, s61_21, s61_22, s61_25, s61_28, s61_29, s61_30, s61_31, s61_34, s61_35, s61_36, s61_39, s61_40, s61_43, s61_44, s61_47, s61_48, s61_49, s61_52, s61_53, s61_54, s61_57, s61_58, s61_59, s61_60, s61_63, s61_66, s61_67, s61_70, s61_71, s61_72, s61_73, s61_74, s61_75, s61_76, s61_79, s61_80, s61_81, s61_82, s61_85, s61_86, s61_87, s61_88, s61_89, s61_90, s61_91, s61_93, s61_95, s61_96, s61_99, s61_100, s61_103, s61_105, s61_108, s61_110, s61_111, s61_112, s61_113, s61_116, s61_118, s61_119, s61_120, s61_123, s61_126, s61_127, s61_131, s61_132, s61_135, s61_136, s61_139, s61_142, s61_144, s61_147, s61_148, s61_151, s61_154, s61_158, s61_159, s61_162, s61_163, s61_164, s61_165, s61_166, s61_167, s61_170, s61_173, s61_174, s61_175, s61_178, s61_181, s61_182, nI_le2, nI_lt2, nI_eq2, nI_lt0, nI_0le, nI_0lt, nI_le0, nI_eq0, nI_clamp, nI_add, bu_nI, bb_0, bb_1, rf_s, rf_n, tl_s, tl_n, am_th_some, if_true, if_false, sI_eq, uI_eq, and_self, true_and, and_true, not_false_eq_true, not_true_eq_false, Nat.reduceEqDiff, Nat.reduceLeDiff, Nat.reduceLT, Nat.reduceAdd, Nat.reduceMul, Nat.reduceSub, Nat.zero_add, r0, q1, g1]
      · have e0 := (hr_0 (a := sp_sk L B a) hk).mpr e
        rw [e0] at g1
        obtain ⟨J2, g2, fj2, h2⟩ := zi_sign (d := d + 2) (Q := Q) hr hk h1 hs.2
        rw [sk_sk] at h2
        rw [sk_sk, e0] at g2
        refine ⟨J2, fr_tr fj fj2, fun _ => ⟨.int (nI (zF k + zpc G (zM k))), G, ?_, h2⟩, fa_t⟩
        rw [s61_129]
        simp (disch := first | omega | assumption) only [s61_0, s61_1, s61_4, s61_6, s61_9, s61_12, s61_14, s61_15, s61_18, s61_21, s61_22, s61_25, s61_28, s61_29, s61_30, s61_31, s61_34, s61_35, s61_36, s61_39, s61_40, s61_43, s61_44, s61_47, s61_48, s61_49, s61_52, s61_53, s61_54, s61_57, s61_58, s61_59, s61_60, s61_63, s61_66, s61_67, s61_70, s61_71, s61_72, s61_73, s61_74, s61_75, s61_76, s61_79, s61_80, s61_81, s61_82, s61_85, s61_86, s61_87, s61_88, s61_89, s61_90, s61_91, s61_93, s61_95, s61_96, s61_99, s61_100, s61_103, s61_105, s61_108, s61_110, s61_111, s61_112, s61_113, s61_116, s61_118, s61_119, s61_120, s61_123, s61_126, s61_127, s61_131, s61_132, s61_135, s61_136, s61_139, s61_142, s61_144, s61_147, s61_148, s61_151, s61_154, s61_158, s61_159, s61_162, s61_163, s61_164, s61_165, s61_166, s61_167, s61_170, s61_173, s61_174, s61_175, s61_178, s61_181, s61_182, nI_le2, nI_lt2, nI_eq2, nI_lt0, nI_0le, nI_0lt, nI_le0, nI_eq0, nI_clamp, nI_add, bu_nI, bb_0, bb_1, rf_s, rf_n, tl_s, tl_n, am_th_some, if_true, if_false, sI_eq, uI_eq, and_self, true_and, and_true, not_false_eq_true, not_true_eq_false, Nat.reduceEqDiff, Nat.reduceLeDiff, Nat.reduceLT, Nat.reduceAdd, Nat.reduceMul, Nat.reduceSub, Nat.zero_add, r0, q1, g1, g2]
    · intro d I R Q r hd hr hrl h
      have hno : ¬ zit k (sp_hr L B (sp_sk L B a)) < zM k := by
        rcases e with e | e
        · rw [e]; exact (zit_0 k hk4).2.1
        · rw [(hr_0 (a := sp_sk L B a) hk).mpr e]; exact (zit_0 k hk4).1
      have hw := h.2.2.1
      refine ⟨I, ?_, fr_rf, fun _ => h, fa_t⟩
      rw [if_neg hno, s194_41]
      simp (disch := first | omega | assumption) only [s194_0, s194_1, s194_3, s194_5, s194_7, s194_10, s194_11, s194_12, s194_14, s194_15, s194_16, s194_18, s194_21, s194_22, s194_25, s194_28, s194_29, s194_31, s194_32, s194_33, s194_36, s194_39, s194_42, s194_45, s194_46, s194_49, s194_51, s194_52, s194_55, s194_57, s194_59, s194_62, s194_65, s194_67, s194_68, s194_70, s194_71, s194_72, s194_74, s194_75, s194_76, s194_79, s194_80, s194_81, s194_84, s194_85, s194_86, s194_88, s194_89, s194_90, s194_91, s194_93, s194_96, s194_97, s194_99, s194_102, s194_105, s194_106, s194_107, s194_110, s194_111, s194_114, s194_115, s194_116, s194_119, s194_122, s194_125, s194_126, s194_128, s194_131, nI_le2, nI_lt2, nI_eq2, nI_lt0, nI_0le, nI_0lt, nI_le0, nI_eq0, nI_clamp, nI_add, bu_nI, bb_0, bb_1, rf_s, rf_n, tl_s, tl_n, am_th_some, if_true, if_false, sI_eq, uI_eq, and_self, true_and, and_true, not_false_eq_true, not_true_eq_false, Nat.reduceEqDiff, Nat.reduceLeDiff, Nat.reduceLT, Nat.reduceAdd, Nat.reduceMul, Nat.reduceSub, Nat.zero_add, hw]
  intro m
  induction m with
  | zero =>
    intro a G V hm haL hG hV
    have hs := sk_L (B := B) haL
    exact caseA a G V haL hG hV (Or.inr (by omega))
  | succ m ih =>
    intro a G V hm haL hG hV
    have hs := sk_L (B := B) haL
    have hx := hr_le (a := sp_sk L B a) hk
    have hle := zpc_le G hG (zM k) f4
    by_cases e : sp_hr L B (sp_sk L B a) = 59 ∨ ¬ sp_sk L B a < L
    · exact caseA a G V haL hG hV e
    · have e59 : ¬ sp_hr L B (sp_sk L B a) = 59 := fun w => e (Or.inl w)
      have hlt : sp_sk L B a < L := Classical.byContradiction fun w => e (Or.inr w)
      have e0 : ¬ sp_hr L B (sp_sk L B a) = 0 := fun w => (hr_0 hk).mp w hlt
      -- up to the reading of an ITEM
      have toItem : ∀ (d : Nat) (I : am_I) (R : am_R) (Q : am_Q) (u : Nat), ze_R R u → zi_at I L B a k G V → ∃ J : am_I, am_fr zi_S I J ∧ zi_at J L B (sp_sk L B a) k G V ∧ am_ev (d + 4) 61 129 [.ref (am_mk 7 0), .int (nI k), .int (nI (zF k)), .int (nI (zF k + zM k)), .int (nI (zF k + zpc G (zM k)))] [] I R Q = am_ev (d + 4) 61 164 [.ref (am_mk 7 0), .int (nI k), .int (nI (zF k)), .int (nI (zF k + zM k)), .int (nI (zF k + zpc G (zM k)))] [] J R Q := by
        intro d I R Q u hr h
        obtain ⟨J, g1, fj, h1⟩ := zi_sign (d := d + 2) (Q := Q) hr hk h haL
        obtain ⟨J2, g2, fj2, h2⟩ := zi_sign (d := d + 2) (Q := Q) hr hk h1 hs.2
        rw [sk_sk] at h2 g2
        have r0 := hr.2.1
        have q1 : ¬ zF k + zM k < zF k + zpc G (zM k) := by omega
        refine ⟨J2, fr_tr fj fj2, h2, ?_⟩
        rw [s61_129]
        simp (disch := first | omega | assumption) only [s61_0, s61_1, s61_4, s61_6, s61_9, s61_12, s61_14, s61_15, s61_18, s61_21, s61_22, s61_25, s61_28, s61_29, s61_30, s61_31, s61_34, s61_35, s61_36, s61_39, s61_40, s61_43, s61_44, s61_47, s61_48, s61_49, s61_52, s61_53, s61_54, s61_57, s61_58, s61_59, s61_60, s61_63, s61_66, s61_67, s61_70, s61_71, s61_72, s61_73, s61_74, s61_75, s61_76, s61_79, s61_80, s61_81, s61_82, s61_85, s61_86, s61_87, s61_88, s61_89, s61_90, s61_91, s61_93, s61_95, s61_96, s61_99, s61_100, s61_103, s61_105, s61_108, s61_110, s61_111, s61_112, s61_113, s61_116, s61_118, s61_119, s61_120, s61_123, s61_126, s61_127, s61_131, s61_132, s61_135, s61_136, s61_139, s61_142, s61_144, s61_147, s61_148, s61_151, s61_154, s61_157, s61_158, s61_159, s61_162, s61_163, s61_165, s61_166, s61_167, s61_170, s61_173, s61_174, s61_175, s61_178, s61_181, s61_182, nI_le2, nI_lt2, nI_eq2, nI_lt0, nI_0le, nI_0lt, nI_le0, nI_eq0, nI_clamp, nI_add, bu_nI, bb_0, bb_1, rf_s, rf_n, tl_s, tl_n, am_th_some, if_true, if_false, sI_eq, uI_eq, and_self, true_and, and_true, not_false_eq_true, not_true_eq_false, Nat.reduceEqDiff, Nat.reduceLeDiff, Nat.reduceLT, Nat.reduceAdd, Nat.reduceMul, Nat.reduceSub, Nat.zero_add, r0, q1, g1, g2, e59, e0]
      by_cases hj : zit k (sp_hr L B (sp_sk L B a)) < zM k ∧ G.testBit (zit k (sp_hr L B (sp_sk L B a))) = false
      · obtain ⟨hj, hg⟩ := hj
        generalize hje : zit k (sp_hr L B (sp_sk L B a)) = j at hj hg
        obtain ⟨z1, z2, z3, z4, z5⟩ := zn_L (B := B) (a := sp_sk L B a + 1) (L := L) hlt
        have hs1 := sk_L (B := B) (a := sp_sk L B a + 1) (L := L) hlt
        obtain ⟨v1, v2, v3⟩ := zV_ok (zF k + j) (by omega)
        -- the model, up to the number
        have toNum : ∀ (d : Nat) (I : am_I) (R : am_R) (Q : am_Q) (r : Nat), mm_R R → r + zM k ≤ zYl k → zmi_at I L B (sp_sk L B a) k r V → ∃ (J : am_I) (y : Int32), am_ev (d + 4) 194 41 (zmi_l k r (.int (nI G)) (.int (nI j))) [] I R Q = am_ev (d + 4) 194 106 (zmi_l k r (.int (nI (G ||| 2 ^ j))) (.int (nI j))) [] (am_sI J (52 + k) 0 (am_uI (J (52 + k) 0) (r + j) y)) R Q ∧ am_fr (zmi_S k r) I J ∧ tm_at J L B ∧ (∀ i, i < zM k → J (52 + k) 0 (r + i) = nI (V i)) ∧ (zn_ok L B (sp_sk L B a + 1) (zLo (zF k + j)) (zHi (zF k + j)) → y = nI (zn_r L B (sp_sk L B a + 1)).1 ∧ J 12 0 3 = nI (zn_r L B (sp_sk L B a + 1)).2 ∧ J 12 0 4 = -nI 1) ∧ (¬ zn_ok L B (sp_sk L B a + 1) (zLo (zF k + j)) (zHi (zF k + j)) → J 12 0 4 = nI (zn_p L B (sp_sk L B a + 1))) := by
          intro d I R Q r hr hrl h
          obtain ⟨t1, t2, t3, t4⟩ := h
          obtain ⟨y1, y2, y3⟩ := zY_ok k hk4
          have hbit : (nI G >>> (nI j &&& 31)) &&& nI 1 = nI 1 ↔ G.testBit j = true := by rw [bit_has (by omega) (by omega)]
          have gh := m_has (d := d + 3) (a := nI G) (b := nI j) (I := I) (R := R) (Q := Q)
          rw [if_neg (fun w => by rw [hbit, hg] at w; cases w)] at gh
          obtain ⟨X2, x2, f2, a2⟩ : ∃ X, am_sI I 12 0 (am_uI (I 12 0) 3 (nI (sp_sk L B a + 1))) = X ∧ am_fr (fun a _ i => a = 12 ∧ i = 3) I X ∧ X 12 0 3 = nI (sp_sk L B a + 1) := ⟨_, rfl, fr_s fr_rf ⟨rfl, rfl⟩, by rw [sI_eq, uI_eq]⟩
          have w2 : X2 12 0 4 = -nI 1 := (f2 _ _ _ (by omega)).trans t3
          have h2 := tm_fr t1 f2 (by omega) (fun j => by omega)
          have glo := m_lowest (d := d + 3) (I := X2) (R := R) (Q := Q) hk4 hj
          have ghi := m_highest (d := d + 3) (I := X2) (R := R) (Q := Q) hk4 hj
          obtain ⟨J, y, gn, fn, ok, bad⟩ := m_number (d := d + 1) (Q := Q) (lo := zLo (zF k + j)) (hi := zHi (zF k + j)) hr hk h2 a2 w2 hlt (by omega) (by omega)
          have fS : am_fr (zmi_S k r) I J := fr_tr (fr_mo f2 fun a b i w => Or.inl ⟨w.1, Or.inl w.2⟩) (fr_mo fn fun a b i w => Or.inl w)
          have hcond : ∀ (x i : Nat), ¬ x = 12 → J x 0 i = I x 0 i := fun x i hx => (fn _ _ _ (fun w => hx w.1)).trans (f2 _ _ _ (fun w => hx w.1))
          refine ⟨J, y, ?_, fS, tm_fr h2 fn (fun w => by unfold tw_S at w; omega) (fun j w => by unfold tw_S at w; omega), fun i hi => (hcond _ _ (by omega)).trans (t4 i hi), ok, bad⟩
          have hm : ¬ nI j = -nI 1 := m1_ne (by omega)
          have hbnd : r + j < zYl k := by omega
          have e2 : nI 1 <<< (nI j &&& 31) = nI (2 ^ j) := nI_bit (by omega)
          rw [s194_41]
          simp (disch := first | omega | assumption) only [s194_0, s194_1, s194_3, s194_5, s194_7, s194_10, s194_11, s194_12, s194_14, s194_15, s194_16, s194_18, s194_21, s194_22, s194_25, s194_28, s194_29, s194_31, s194_32, s194_33, s194_36, s194_39, s194_42, s194_45, s194_46, s194_49, s194_51, s194_52, s194_55, s194_57, s194_59, s194_62, s194_65, s194_67, s194_68, s194_70, s194_71, s194_72, s194_74, s194_75, s194_76, s194_79, s194_80, s194_81, s194_84, s194_85, s194_86, s194_88, s194_89, s194_90, s194_91, s194_93, s194_96, s194_97, s194_99, s194_102, s194_105, s194_107, s194_110, s194_111, s194_114, s194_115, s194_116, s194_119, s194_122, s194_125, s194_126, s194_128, s194_131, nI_le2, nI_lt2, nI_eq2, nI_lt0, nI_0le, nI_0lt, nI_le0, nI_eq0, nI_clamp, nI_add, bu_nI, bb_0, bb_1, rf_s, rf_n, tl_s, tl_n, am_th_some, if_true, if_false, sI_eq, uI_eq, and_self, true_and, and_true, not_false_eq_true, not_true_eq_false, Nat.reduceEqDiff, Nat.reduceLeDiff, Nat.reduceLT, Nat.reduceAdd, Nat.reduceMul, Nat.reduceSub, Nat.zero_add, t2, t3, hm, gh, e2, nI_or, x2, glo, ghi, gn, w194_105, hk4, hbnd]
        by_cases hn : zn_ok L B (sp_sk L B a + 1) (zLo (zF k + j)) (zHi (zF k + j))
        · have hG2 := zor_lt (j := j) hG (by omega)
          have hV2 : ∀ i, i < zM k → zLo (zF k + i) ≤ zi_up V j (zn_r L B (sp_sk L B a + 1)).1 i ∧ zi_up V j (zn_r L B (sp_sk L B a + 1)).1 i ≤ zHi (zF k + i) := fun i hi => by
            unfold zi_up
            by_cases q : i = j
            · rw [if_pos q, q]; exact ⟨hn.2.2.1, hn.2.2.2⟩
            · rw [if_neg q]; exact hV i hi
          obtain ⟨ok, a', V', hc, hm', p1, p2, p3⟩ := ih (zn_r L B (sp_sk L B a + 1)).2 (G ||| 2 ^ j) (zi_up V j (zn_r L B (sp_sk L B a + 1)).1) (by omega) z4 hG2 hV2
          refine ⟨ok, a', V', ?_, ?_, by omega, p2, p3⟩
          · intro d I R Q u hd hr h
            obtain ⟨d, rfl⟩ : ∃ q, d = q + 4 := ⟨d - 4, by omega⟩
            obtain ⟨d, rfl⟩ : ∃ q, d = q + 1 := ⟨d - 1, by omega⟩
            obtain ⟨J, fj, hj', g⟩ := toItem (d + 1) I R Q u hr h
            obtain ⟨J2, g2, fj2, h2⟩ := c_riOk (d := d) (Q := Q) (j := j) hr hk hj' hs.2 hk4 hG (by rw [sk_sk]; exact hje) hj hg (by rw [sk_sk]; exact hn)
            rw [sk_sk] at h2
            obtain ⟨J3, fj3, o1, o2⟩ := hc (d + 1 + 4) J2 R Q u (by omega) hr h2
            have epc : zF k + zpc (G ||| 2 ^ j) (zM k) = zF k + zpc G (zM k) + 1 := by rw [(zpc_s G hG (zM k) f4 j hj).1 hg]; rfl
            rw [epc] at o1 o2
            refine ⟨J3, fr_tr (fr_tr fj fj2) fj3, fun w => ?_, fun w => ?_⟩
            · obtain ⟨l4, G', w1, w2⟩ := o1 w
              refine ⟨l4, G', ?_, w2⟩
              rw [g, ← w1]
              simp (disch := first | omega | assumption) only [s61_0, s61_1, s61_4, s61_6, s61_9, s61_12, s61_14, s61_15, s61_18, s61_21, s61_22, s61_25, s61_28, s61_29, s61_30, s61_31, s61_34, s61_35, s61_36, s61_39, s61_40, s61_43, s61_44, s61_47, s61_48, s61_49, s61_52, s61_53, s61_54, s61_57, s61_58, s61_59, s61_60, s61_63, s61_66, s61_67, s61_70, s61_71, s61_72, s61_73, s61_74, s61_75, s61_76, s61_79, s61_80, s61_81, s61_82, s61_85, s61_86, s61_87, s61_88, s61_89, s61_90, s61_91, s61_93, s61_95, s61_96, s61_99, s61_100, s61_103, s61_105, s61_108, s61_110, s61_111, s61_112, s61_113, s61_116, s61_118, s61_119, s61_120, s61_123, s61_126, s61_127, s61_131, s61_132, s61_135, s61_136, s61_139, s61_142, s61_144, s61_147, s61_148, s61_151, s61_154, s61_157, s61_158, s61_159, s61_162, s61_163, s61_164, s61_165, s61_166, s61_167, s61_170, s61_173, s61_174, s61_175, s61_178, s61_181, s61_182, nI_le2, nI_lt2, nI_eq2, nI_lt0, nI_0le, nI_0lt, nI_le0, nI_eq0, nI_clamp, nI_add, bu_nI, bb_0, bb_1, rf_s, rf_n, tl_s, tl_n, am_th_some, if_true, if_false, sI_eq, uI_eq, and_self, true_and, and_true, not_false_eq_true, not_true_eq_false, Nat.reduceEqDiff, Nat.reduceLeDiff, Nat.reduceLT, Nat.reduceAdd, Nat.reduceMul, Nat.reduceSub, Nat.zero_add, g2, hne]
            · obtain ⟨w1, w2⟩ := o2 w
              refine ⟨?_, w2⟩
              rw [g, ← w1]
              simp (disch := first | omega | assumption) only [s61_0, s61_1, s61_4, s61_6, s61_9, s61_12, s61_14, s61_15, s61_18, s61_21, s61_22, s61_25, s61_28, s61_29, s61_30, s61_31, s61_34, s61_35, s61_36, s61_39, s61_40, s61_43, s61_44, s61_47, s61_48, s61_49, s61_52, s61_53, s61_54, s61_57, s61_58, s61_59, s61_60, s61_63, s61_66, s61_67, s61_70, s61_71, s61_72, s61_73, s61_74, s61_75, s61_76, s61_79, s61_80, s61_81, s61_82, s61_85, s61_86, s61_87, s61_88, s61_89, s61_90, s61_91, s61_93, s61_95, s61_96, s61_99, s61_100, s61_103, s61_105, s61_108, s61_110, s61_111, s61_112, s61_113, s61_116, s61_118, s61_119, s61_120, s61_123, s61_126, s61_127, s61_131, s61_132, s61_135, s61_136, s61_139, s61_142, s61_144, s61_147, s61_148, s61_151, s61_154, s61_157, s61_158, s61_159, s61_162, s61_163, s61_164, s61_165, s61_166, s61_167, s61_170, s61_173, s61_174, s61_175, s61_178, s61_181, s61_182, nI_le2, nI_lt2, nI_eq2, nI_lt0, nI_0le, nI_0lt, nI_le0, nI_eq0, nI_clamp, nI_add, bu_nI, bb_0, bb_1, rf_s, rf_n, tl_s, tl_n, am_th_some, if_true, if_false, sI_eq, uI_eq, and_self, true_and, and_true, not_false_eq_true, not_true_eq_false, Nat.reduceEqDiff, Nat.reduceLeDiff, Nat.reduceLT, Nat.reduceAdd, Nat.reduceMul, Nat.reduceSub, Nat.zero_add, g2, hne]
          · intro d I R Q r hd hr hrl h
            obtain ⟨d, rfl⟩ : ∃ q, d = q + 4 := ⟨d - 4, by omega⟩
            rw [hje, if_pos hj]
            obtain ⟨J, y, g, fj, tJ, vJ, okJ, -⟩ := toNum d I R Q r hr hrl h
            obtain ⟨y1, y2, y3⟩ := okJ hn
            subst y1
            obtain ⟨X, x, fx, vx⟩ : ∃ X, am_sI J (52 + k) 0 (am_uI (J (52 + k) 0) (r + j) (nI (zn_r L B (sp_sk L B a + 1)).1)) = X ∧ am_fr (fun a _ i => a = 52 + k ∧ i = r + j) J X ∧ X (52 + k) 0 (r + j) = nI (zn_r L B (sp_sk L B a + 1)).1 := ⟨_, rfl, fr_s fr_rf ⟨rfl, rfl⟩, by rw [sI_eq, uI_eq]⟩
            rw [x] at g
            have tX := tm_fr tJ fx (by omega) (fun j => by omega)
            have aX : X 12 0 3 = nI (zn_r L B (sp_sk L B a + 1)).2 := (fx _ _ _ (by omega)).trans y2
            have wX : X 12 0 4 = -nI 1 := (fx _ _ _ (by omega)).trans y3
            have vX : ∀ i, i < zM k → X (52 + k) 0 (r + i) = nI (zi_up V j (zn_r L B (sp_sk L B a + 1)).1 i) := fun i hi => by
              unfold zi_up
              by_cases q : i = j
              · rw [if_pos q, q]; exact vx
              · rw [if_neg q, fx _ _ _ (by omega)]; exact vJ i hi
            obtain ⟨J2, g2, f2, a2⟩ := m_look (d := d + 2) (Q := Q) hr hk tX aX z4
            have gi := m_itemOf (d := d + 3) (a := sp_sk L B (zn_r L B (sp_sk L B a + 1)).2) (I := J2) (R := R) (Q := Q) hk hk4
            have h2 : zmi_at J2 L B (sp_sk L B (zn_r L B (sp_sk L B a + 1)).2) k r (zi_up V j (zn_r L B (sp_sk L B a + 1)).1) := ⟨tm_fr tX f2 (fun w => by unfold tm_S at w; omega) (fun j w => by unfold tm_S at w; omega), a2, (f2 _ _ _ (fun w => by unfold tm_S at w; omega)).trans wX, fun i hi => (f2 _ _ _ (fun w => by unfold tm_S at w; omega)).trans (vX i hi)⟩
            obtain ⟨J3, g3, f3', o1, o2⟩ := hm' (d + 4) J2 R Q r (by omega) hr hrl h2
            have fIJ3 : am_fr (zmi_S k r) I J3 := fr_tr (fr_tr (fr_tr fj (fr_mo fx fun a b i w => Or.inr (by omega))) (fr_mo f2 fun a b i w => Or.inl ⟨w.1, Or.inl w.2⟩)) f3'
            refine ⟨J3, ?_, fIJ3, o1, o2⟩
            rw [g, ← g3]
            simp (disch := first | omega | assumption) only [s194_0, s194_1, s194_3, s194_5, s194_7, s194_10, s194_11, s194_12, s194_14, s194_15, s194_16, s194_18, s194_21, s194_22, s194_25, s194_28, s194_29, s194_31, s194_32, s194_33, s194_36, s194_39, s194_42, s194_45, s194_46, s194_49, s194_51, s194_52, s194_55, s194_57, s194_59, s194_62, s194_65, s194_67, s194_68, s194_70, s194_71, s194_72, s194_74, s194_75, s194_76, s194_79, s194_80, s194_81, s194_84, s194_85, s194_86, s194_88, s194_89, s194_90, s194_91, s194_93, s194_96, s194_97, s194_99, s194_102, s194_105, s194_106, s194_107, s194_110, s194_111, s194_114, s194_115, s194_116, s194_119, s194_122, s194_125, s194_126, s194_128, s194_131, nI_le2, nI_lt2, nI_eq2, nI_lt0, nI_0le, nI_0lt, nI_le0, nI_eq0, nI_clamp, nI_add, bu_nI, bb_0, bb_1, rf_s, rf_n, tl_s, tl_n, am_th_some, if_true, if_false, sI_eq, uI_eq, and_self, true_and, and_true, not_false_eq_true, not_true_eq_false, Nat.reduceEqDiff, Nat.reduceLeDiff, Nat.reduceLT, Nat.reduceAdd, Nat.reduceMul, Nat.reduceSub, Nat.zero_add, wX, g2, gi]
        · refine ⟨false, zn_p L B (sp_sk L B a + 1), V, ?_, ?_, by omega, z2, fa_f⟩
          · intro d I R Q u hd hr h
            obtain ⟨d, rfl⟩ : ∃ q, d = q + 4 := ⟨d - 4, by omega⟩
            obtain ⟨d, rfl⟩ : ∃ q, d = q + 1 := ⟨d - 1, by omega⟩
            obtain ⟨J, fj, hj', g⟩ := toItem (d + 1) I R Q u hr h
            obtain ⟨J2, g2, fj2, a2⟩ := c_riBad (d := d) (Q := Q) (j := j) hr hk hj' hs.2 hk4 hG (by rw [sk_sk]; exact hje) hj hg (by rw [sk_sk]; exact hn)
            rw [sk_sk] at a2
            refine ⟨J2, fr_tr fj fj2, fa_f, fun _ => ⟨?_, a2⟩⟩
            rw [g]
            simp (disch := first | omega | assumption) only [s61_0, s61_1, s61_4, s61_6, s61_9, s61_12, s61_14, s61_15, s61_18, s61_21, s61_22, s61_25, s61_28, s61_29, s61_30, s61_31, s61_34, s61_35, s61_36, s61_39, s61_40, s61_43, s61_44, s61_47, s61_48, s61_49, s61_52, s61_53, s61_54, s61_57, s61_58, s61_59, s61_60, s61_63, s61_66, s61_67, s61_70, s61_71, s61_72, s61_73, s61_74, s61_75, s61_76, s61_79, s61_80, s61_81, s61_82, s61_85, s61_86, s61_87, s61_88, s61_89, s61_90, s61_91, s61_93, s61_95, s61_96, s61_99, s61_100, s61_103, s61_105, s61_108, s61_110, s61_111, s61_112, s61_113, s61_116, s61_118, s61_119, s61_120, s61_123, s61_126, s61_127, s61_131, s61_132, s61_135, s61_136, s61_139, s61_142, s61_144, s61_147, s61_148, s61_151, s61_154, s61_157, s61_158, s61_159, s61_162, s61_163, s61_164, s61_165, s61_166, s61_167, s61_170, s61_173, s61_174, s61_175, s61_178, s61_181, s61_182, nI_le2, nI_lt2, nI_eq2, nI_lt0, nI_0le, nI_0lt, nI_le0, nI_eq0, nI_clamp, nI_add, bu_nI, bb_0, bb_1, rf_s, rf_n, tl_s, tl_n, am_th_some, if_true, if_false, sI_eq, uI_eq, and_self, true_and, and_true, not_false_eq_true, not_true_eq_false, Nat.reduceEqDiff, Nat.reduceLeDiff, Nat.reduceLT, Nat.reduceAdd, Nat.reduceMul, Nat.reduceSub, Nat.zero_add, g2]
          · intro d I R Q r hd hr hrl h
            obtain ⟨d, rfl⟩ : ∃ q, d = q + 4 := ⟨d - 4, by omega⟩
            rw [hje, if_pos hj]
            obtain ⟨J, y, g, fj, tJ, vJ, -, badJ⟩ := toNum d I R Q r hr hrl h
            have wJ := badJ hn
            have fx : am_fr (fun a _ i => a = 52 + k ∧ i = r + j) J (am_sI J (52 + k) 0 (am_uI (J (52 + k) 0) (r + j) y)) := fr_s fr_rf ⟨rfl, rfl⟩
            have wX : (am_sI J (52 + k) 0 (am_uI (J (52 + k) 0) (r + j) y)) 12 0 4 = nI (zn_p L B (sp_sk L B a + 1)) := (fx _ _ _ (by omega)).trans wJ
            have hne2 : ¬ nI (zn_p L B (sp_sk L B a + 1)) = -nI 1 := m1_ne (by omega)
            refine ⟨_, ?_, fr_tr fj (fr_mo fx fun a b i w => Or.inr (by omega)), fa_f, fun _ => Or.inl wX⟩
            rw [g]
            simp (disch := first | omega | assumption) only [s194_0, s194_1, s194_3, s194_5, s194_7, s194_10, s194_11, s194_12, s194_14, s194_15, s194_16, s194_18, s194_21, s194_22, s194_25, s194_28, s194_29, s194_31, s194_32, s194_33, s194_36, s194_39, s194_42, s194_45, s194_46, s194_49, s194_51, s194_52, s194_55, s194_57, s194_59, s194_62, s194_65, s194_67, s194_68, s194_70, s194_71, s194_72, s194_74, s194_75, s194_76, s194_79, s194_80, s194_81, s194_84, s194_85, s194_86, s194_88, s194_89, s194_90, s194_91, s194_93, s194_96, s194_97, s194_99, s194_102, s194_105, s194_106, s194_107, s194_110, s194_111, s194_114, s194_115, s194_116, s194_119, s194_122, s194_125, s194_126, s194_128, s194_131, nI_le2, nI_lt2, nI_eq2, nI_lt0, nI_0le, nI_0lt, nI_le0, nI_eq0, nI_clamp, nI_add, bu_nI, bb_0, bb_1, rf_s, rf_n, tl_s, tl_n, am_th_some, if_true, if_false, sI_eq, uI_eq, and_self, true_and, and_true, not_false_eq_true, not_true_eq_false, Nat.reduceEqDiff, Nat.reduceLeDiff, Nat.reduceLT, Nat.reduceAdd, Nat.reduceMul, Nat.reduceSub, Nat.zero_add, wX, hne2]
            rw [s194_41]
            simp (disch := first | omega | assumption) only [s194_0, s194_1, s194_3, s194_5, s194_7, s194_10, s194_11, s194_12, s194_14, s194_15, s194_16, s194_18, s194_21, s194_22, s194_25, s194_28, s194_29, s194_31, s194_32, s194_33, s194_36, s194_39, s194_42, s194_45, s194_46, s194_49, s194_51, s194_52, s194_55, s194_57, s194_59, s194_62, s194_65, s194_67, s194_68, s194_70, s194_71, s194_72, s194_74, s194_75, s194_76, s194_79, s194_80, s194_81, s194_84, s194_85, s194_86, s194_88, s194_89, s194_90, s194_91, s194_93, s194_96, s194_97, s194_99, s194_102, s194_105, s194_106, s194_107, s194_110, s194_111, s194_114, s194_115, s194_116, s194_119, s194_122, s194_125, s194_126, s194_128, s194_131, nI_le2, nI_lt2, nI_eq2, nI_lt0, nI_0le, nI_0lt, nI_le0, nI_eq0, nI_clamp, nI_add, bu_nI, bb_0, bb_1, rf_s, rf_n, tl_s, tl_n, am_th_some, if_true, if_false, sI_eq, uI_eq, and_self, true_and, and_true, not_false_eq_true, not_true_eq_false, Nat.reduceEqDiff, Nat.reduceLeDiff, Nat.reduceLT, Nat.reduceAdd, Nat.reduceMul, Nat.reduceSub, Nat.zero_add, wX, hne2]
      · have hbad : zit k (sp_hr L B (sp_sk L B a)) < zM k → G.testBit (zit k (sp_hr L B (sp_sk L B a))) = true := fun w => by
          cases hb : G.testBit (zit k (sp_hr L B (sp_sk L B a))) with
          | true => rfl
          | false => exact absurd ⟨w, hb⟩ hj
        refine ⟨false, sp_sk L B a, V, ?_, ?_, hs.1, hs.2, fa_f⟩
        · intro d I R Q u hd hr h
          obtain ⟨d, rfl⟩ : ∃ q, d = q + 4 := ⟨d - 4, by omega⟩
          obtain ⟨J, fj, hj', g⟩ := toItem d I R Q u hr h
          obtain ⟨J2, g2, fj2, h2⟩ := c_riNo (d := d) (Q := Q) hr hk hj' hs.2 hk4 (by rw [sk_sk]; exact hbad)
          rw [sk_sk] at h2
          refine ⟨J2, fr_tr fj fj2, fa_f, fun _ => ⟨?_, h2.2.2.2.1⟩⟩
          rw [g]
          simp (disch := first | omega | assumption) only [s61_0, s61_1, s61_4, s61_6, s61_9, s61_12, s61_14, s61_15, s61_18, s61_21, s61_22, s61_25, s61_28, s61_29, s61_30, s61_31, s61_34, s61_35, s61_36, s61_39, s61_40, s61_43, s61_44, s61_47, s61_48, s61_49, s61_52, s61_53, s61_54, s61_57, s61_58, s61_59, s61_60, s61_63, s61_66, s61_67, s61_70, s61_71, s61_72, s61_73, s61_74, s61_75, s61_76, s61_79, s61_80, s61_81, s61_82, s61_85, s61_86, s61_87, s61_88, s61_89, s61_90, s61_91, s61_93, s61_95, s61_96, s61_99, s61_100, s61_103, s61_105, s61_108, s61_110, s61_111, s61_112, s61_113, s61_116, s61_118, s61_119, s61_120, s61_123, s61_126, s61_127, s61_131, s61_132, s61_135, s61_136, s61_139, s61_142, s61_144, s61_147, s61_148, s61_151, s61_154, s61_157, s61_158, s61_159, s61_162, s61_163, s61_164, s61_165, s61_166, s61_167, s61_170, s61_173, s61_174, s61_175, s61_178, s61_181, s61_182, nI_le2, nI_lt2, nI_eq2, nI_lt0, nI_0le, nI_0lt, nI_le0, nI_eq0, nI_clamp, nI_add, bu_nI, bb_0, bb_1, rf_s, rf_n, tl_s, tl_n, am_th_some, if_true, if_false, sI_eq, uI_eq, and_self, true_and, and_true, not_false_eq_true, not_true_eq_false, Nat.reduceEqDiff, Nat.reduceLeDiff, Nat.reduceLT, Nat.reduceAdd, Nat.reduceMul, Nat.reduceSub, Nat.zero_add, g2]
        · intro d I R Q r hd hr hrl h
          obtain ⟨d, rfl⟩ : ∃ q, d = q + 4 := ⟨d - 4, by omega⟩
          have hw := h.2.2.1
          refine ⟨I, ?_, fr_rf, fa_f, fun _ => Or.inr ⟨hw, h.2.1, hlt, e59, sk_sk⟩⟩
          rw [s194_41]
          by_cases q : zit k (sp_hr L B (sp_sk L B a)) < zM k
          · have hbit : (nI G >>> (nI (zit k (sp_hr L B (sp_sk L B a))) &&& 31)) &&& nI 1 = nI 1 ↔ G.testBit (zit k (sp_hr L B (sp_sk L B a))) = true := by rw [bit_has (by omega) (by omega)]
            have gh := m_has (d := d + 3) (a := nI G) (b := nI (zit k (sp_hr L B (sp_sk L B a)))) (I := I) (R := R) (Q := Q)
            rw [if_pos (hbit.mpr (hbad q))] at gh
            have hm : ¬ nI (zit k (sp_hr L B (sp_sk L B a))) = -nI 1 := m1_ne (by omega)
            rw [if_pos q]
            simp (disch := first | omega | assumption) only [s194_0, s194_1, s194_3, s194_5, s194_7, s194_10, s194_11, s194_12, s194_14, s194_15, s194_16, s194_18, s194_21, s194_22, s194_25, s194_28, s194_29, s194_31, s194_32, s194_33, s194_36, s194_39, s194_42, s194_45, s194_46, s194_49, s194_51, s194_52, s194_55, s194_57, s194_59, s194_62, s194_65, s194_67, s194_68, s194_70, s194_71, s194_72, s194_74, s194_75, s194_76, s194_79, s194_80, s194_81, s194_84, s194_85, s194_86, s194_88, s194_89, s194_90, s194_91, s194_93, s194_96, s194_97, s194_99, s194_102, s194_105, s194_106, s194_107, s194_110, s194_111, s194_114, s194_115, s194_116, s194_119, s194_122, s194_125, s194_126, s194_128, s194_131, nI_le2, nI_lt2, nI_eq2, nI_lt0, nI_0le, nI_0lt, nI_le0, nI_eq0, nI_clamp, nI_add, bu_nI, bb_0, bb_1, rf_s, rf_n, tl_s, tl_n, am_th_some, if_true, if_false, sI_eq, uI_eq, and_self, true_and, and_true, not_false_eq_true, not_true_eq_false, Nat.reduceEqDiff, Nat.reduceLeDiff, Nat.reduceLT, Nat.reduceAdd, Nat.reduceMul, Nat.reduceSub, Nat.zero_add, hw, hm, gh, hne]
          · rw [if_neg q]
            simp (disch := first | omega | assumption) only [s194_0, s194_1, s194_3, s194_5, s194_7, s194_10, s194_11, s194_12, s194_14, s194_15, s194_16, s194_18, s194_21, s194_22, s194_25, s194_28, s194_29, s194_31, s194_32, s194_33, s194_36, s194_39, s194_42, s194_45, s194_46, s194_49, s194_51, s194_52, s194_55, s194_57, s194_59, s194_62, s194_65, s194_67, s194_68, s194_70, s194_71, s194_72, s194_74, s194_75, s194_76, s194_79, s194_80, s194_81, s194_84, s194_85, s194_86, s194_88, s194_89, s194_90, s194_91, s194_93, s194_96, s194_97, s194_99, s194_102, s194_105, s194_106, s194_107, s194_110, s194_111, s194_114, s194_115, s194_116, s194_119, s194_122, s194_125, s194_126, s194_128, s194_131, nI_le2, nI_lt2, nI_eq2, nI_lt0, nI_0le, nI_0lt, nI_le0, nI_eq0, nI_clamp, nI_add, bu_nI, bb_0, bb_1, rf_s, rf_n, tl_s, tl_n, am_th_some, if_true, if_false, sI_eq, uI_eq, and_self, true_and, and_true, not_false_eq_true, not_true_eq_false, Nat.reduceEqDiff, Nat.reduceLeDiff, Nat.reduceLT, Nat.reduceAdd, Nat.reduceMul, Nat.reduceSub, Nat.zero_add, hw]
end
