/-! LUNCH texts: the number of an ITEM, an ITEM; both sides. -/
abbrev zn_r (L : Nat) (B : Nat → Nat) (a : Nat) : Nat × Nat := sp_dg L B 2 0 (sp_sk L B a)
def zn_ok (L : Nat) (B : Nat → Nat) (a lo hi : Nat) : Prop := ¬ (zn_r L B a).2 = sp_sk L B a ∧ ¬ sp_dd L B (zn_r L B a).2 ∧ lo ≤ (zn_r L B a).1 ∧ (zn_r L B a).1 ≤ hi
def zn_p (L : Nat) (B : Nat → Nat) (a : Nat) : Nat := if (zn_r L B a).2 = sp_sk L B a ∨ sp_dd L B (zn_r L B a).2 then (zn_r L B a).2 else (zn_r L B a).2 - 1
theorem dg_1 {L : Nat} {B : Nat → Nat} {v a : Nat} : sp_dg L B 1 v a = if sp_dd L B a then (v * 10 + sp_hr L B a - 48, a + 1) else (v, a) := rfl
theorem dg_2 {L : Nat} {B : Nat → Nat} {a : Nat} : sp_dg L B 2 0 a = if sp_dd L B a then sp_dg L B 1 (0 * 10 + sp_hr L B a - 48) (a + 1) else (0, a) := rfl
theorem zn_L {L : Nat} {B : Nat → Nat} {a : Nat} (haL : a ≤ L) : a ≤ zn_p L B a ∧ zn_p L B a ≤ L ∧ sp_sk L B a ≤ (zn_r L B a).2 ∧ (zn_r L B a).2 ≤ L ∧ (zn_r L B a).1 < 100 := by
  have hs := sk_L (B := B) haL
  have h1 : sp_sk L B a ≤ (zn_r L B a).2 := dg_ge (L := L) (B := B) 2 0 (sp_sk L B a)
  have h2 : (zn_r L B a).2 ≤ L := dg_L (L := L) (B := B) (f := 2) (v := 0) hs.2
  have h3 : (zn_r L B a).1 < (0 + 1) * 10 ^ 2 := dg_lt 2 0 _
  refine ⟨?_, ?_, h1, h2, by omega⟩ <;> unfold zn_p
  · by_cases e : (zn_r L B a).2 = sp_sk L B a ∨ sp_dd L B (zn_r L B a).2
    · rw [if_pos e]; omega
    · rw [if_neg e]
      have : ¬ (zn_r L B a).2 = sp_sk L B a := fun w => e (Or.inl w)
      omega
  · by_cases e : (zn_r L B a).2 = sp_sk L B a ∨ sp_dd L B (zn_r L B a).2
    · rw [if_pos e]; exact h2
    · rw [if_neg e]; omega
section
variable {d L a lo hi : Nat} {I : am_I} {R : am_R} {Q : am_Q} {B : Nat → Nat}
theorem tw_of {Z : Nat → Nat → Nat → Prop} {I J : am_I} (h : am_fr Z I J) (hz : ∀ a b j, Z a b j → a = 12 ∧ (j = 3 ∨ j = 4)) : am_fr tw_S I J := fr_mo h hz
/-- the model's number: what is known of its three places -/
theorem m_number (hr : mm_R R) (hk : tp_ok L B) (h : tm_at I L B) (ha : I 12 0 3 = nI a) (hw : I 12 0 4 = -nI 1) (haL : a ≤ L) (hlo : lo ≤ 99) (hhi : hi ≤ 99) : ∃ (J : am_I) (y : Int32), am_cal (d + 2) 189 [.ref (am_mk 12 0), .int (nI lo), .int (nI hi)] I R Q = some (some (.int y), J, R, Q) ∧ am_fr tw_S I J ∧ (zn_ok L B a lo hi → y = nI (zn_r L B a).1 ∧ J 12 0 3 = nI (zn_r L B a).2 ∧ J 12 0 4 = -nI 1) ∧ (¬ zn_ok L B a lo hi → J 12 0 4 = nI (zn_p L B a)) := by
  have hs := sk_L (B := B) haL
  have hL := hk.1
  have hne : ((nI 1 : Int32) = 0) = False := by decide
  obtain ⟨J1, g1, f1, a1⟩ := m_look (d := d) (Q := Q) hr hk h ha haL
  have tS : ∀ a b j, tm_S a b j → a = 12 ∧ (j = 3 ∨ j = 4) := fun a b j w => ⟨w.1, Or.inl w.2⟩
  have f1' := tw_of f1 tS
  have w1 : J1 12 0 4 = -nI 1 := (f1 _ _ _ (fun w => by unfold tm_S at w; omega)).trans hw
  have h1 := tm_fr h f1 (fun w => by unfold tm_S at w; omega) (fun j w => by unfold tm_S at w; omega)
  have gd1 := m_isDigit (d := d + 1) (a := sp_sk L B a) (I := J1) (R := R) (Q := Q) hk
  generalize hse : sp_sk L B a = s at *
  by_cases e1 : sp_dd L B s
  · rw [if_pos e1] at gd1
    obtain ⟨eh1, lt1⟩ := dd_hm e1
    have gh1 := m_here (d := d + 1) (Q := Q) hr hk h1 a1 (by omega)
    rw [eh1] at gh1 gd1 g1
    have he1 := e1.1
    have he1' := e1.2
    have v1 : nI (sp_hr L B s) - nI 48 = nI (sp_hr L B s - 48) := nI_sub he1
    obtain ⟨X2, x2, f2, a2⟩ : ∃ X, am_sI J1 12 0 (am_uI (J1 12 0) 3 (nI (s + 1))) = X ∧ am_fr tm_S J1 X ∧ X 12 0 3 = nI (s + 1) := ⟨_, rfl, fr_s fr_rf ⟨rfl, rfl⟩, by rw [sI_eq, uI_eq]⟩
    have w2 : X2 12 0 4 = -nI 1 := (f2 _ _ _ (fun w => by unfold tm_S at w; omega)).trans w1
    have h2 := tm_fr h1 f2 (fun w => by unfold tm_S at w; omega) (fun j w => by unfold tm_S at w; omega)
    have gh2 := m_here (d := d + 1) (Q := Q) hr hk h2 a2 (by omega)
    have gd2 := m_isDigit (d := d + 1) (a := s + 1) (I := X2) (R := R) (Q := Q) hk
    -- the end: at place e with value v
    have fin : ∀ (X : am_I) (v e : Nat) (l3 : Value), am_fr tm_S X2 X → X 12 0 3 = nI e → e ≤ L → v < 100 → s < e → zn_r L B a = (v, e) → ∃ (J : am_I) (y : Int32), am_ev (d + 2) 189 67 [.ref (am_mk 12 0), .int (nI lo), .int (nI hi), .int (nI v)] [] X R Q = some (some (.int y), J, R, Q) ∧ am_fr tw_S I J ∧ (zn_ok L B a lo hi → y = nI (zn_r L B a).1 ∧ J 12 0 3 = nI (zn_r L B a).2 ∧ J 12 0 4 = -nI 1) ∧ (¬ zn_ok L B a lo hi → J 12 0 4 = nI (zn_p L B a)) := by
      intro X v e l3 fX aX eL hv hse2 hz
      have wX : X 12 0 4 = -nI 1 := (fX _ _ _ (fun w => by unfold tm_S at w; omega)).trans w2
      have hX := tm_fr h2 fX (fun w => by unfold tm_S at w; omega) (fun j w => by unfold tm_S at w; omega)
      have gh := m_here (d := d + 1) (Q := Q) hr hk hX aX eL
      have gd := m_isDigit (d := d + 1) (a := e) (I := X) (R := R) (Q := Q) hk
      have fIX : am_fr tw_S I X := fr_tr (fr_tr f1' (tw_of f2 tS)) (tw_of fX tS)
      unfold zn_ok zn_p
      rw [hse, hz]
      have hne2 : ¬ e = s := by omega
      by_cases q : sp_dd L B e
      · rw [if_pos q] at gd
        obtain ⟨J, b1, b2, b3⟩ := m_bad (d := d + 1) (R := R) (Q := Q) aX wX
        rw [sp_bad, if_pos rfl] at b3
        refine ⟨J, nI v, ?_, fr_tr fIX (tw_of b2 fun a b j w => ⟨w.1, Or.inr w.2⟩), fun w => absurd q w.2.1, fun _ => by rw [if_pos (Or.inr q)]; exact b3⟩
        simp (disch := first | omega | assumption) only [s189_0, s189_1, s189_4, s189_7, s189_10, s189_11, s189_14, s189_15, s189_16, s189_17, s189_20, s189_22, s189_23, s189_24, s189_25, s189_26, s189_29, s189_30, s189_31, s189_34, s189_35, s189_38, s189_41, s189_44, s189_46, s189_47, s189_48, s189_49, s189_52, s189_53, s189_55, s189_56, s189_57, s189_58, s189_59, s189_62, s189_63, s189_64, s189_67, s189_68, s189_71, s189_74, s189_77, s189_78, s189_81, s189_84, s189_85, s189_86, s189_87, s189_90, s189_93, s189_94, s189_95, s189_98, s189_99, s189_100, s189_103, s189_104, s189_107, s189_108, nI_le2, nI_lt2, nI_eq2, nI_lt0, nI_0le, nI_0lt, nI_le0, nI_eq0, nI_clamp, nI_add, bu_nI, bb_0, bb_1, rf_s, rf_n, tl_s, tl_n, am_th_some, if_true, if_false, sI_eq, uI_eq, and_self, true_and, and_true, not_false_eq_true, not_true_eq_false, Nat.reduceEqDiff, Nat.reduceLeDiff, Nat.reduceLT, Nat.reduceAdd, Nat.reduceMul, Nat.reduceSub, Nat.zero_add, gh, gd, hne, b1]
      · rw [if_neg q] at gd
        have gi := m_in (d := d + 1) (v := nI v) (lo := nI lo) (hi := nI hi) (I := X) (R := R) (Q := Q)
        have c1 : nI v < nI lo ↔ v < lo := nI_ltI (by omega) (by omega)
        have c2 : nI hi < nI v ↔ hi < v := nI_ltI (by omega) (by omega)
        by_cases r1 : v < lo ∨ hi < v
        · have gi0 : am_cal (d + 1) 156 [.int (nI v), .int (nI lo), .int (nI hi)] X R Q = some (some (.int (nI 0)), X, R, Q) := by
            rw [gi]
            rcases r1 with r1 | r1
            · rw [if_pos (c1.mpr r1)]
            · by_cases r2 : v < lo
              · rw [if_pos (c1.mpr r2)]
              · rw [if_neg (fun w => r2 (c1.mp w)), if_pos (c2.mpr r1)]
          have em : nI e - nI 1 = nI (e - 1) := nI_sub (by omega)
          obtain ⟨X3, x3, f3, a3⟩ : ∃ Y, am_sI X 12 0 (am_uI (X 12 0) 3 (nI (e - 1))) = Y ∧ am_fr tm_S X Y ∧ Y 12 0 3 = nI (e - 1) := ⟨_, rfl, fr_s fr_rf ⟨rfl, rfl⟩, by rw [sI_eq, uI_eq]⟩
          have w3 : X3 12 0 4 = -nI 1 := (f3 _ _ _ (fun w => by unfold tm_S at w; omega)).trans wX
          obtain ⟨J, b1, b2, b3⟩ := m_bad (d := d + 1) (R := R) (Q := Q) a3 w3
          rw [sp_bad, if_pos rfl] at b3
          refine ⟨J, nI v, ?_, fr_tr (fr_tr fIX (tw_of f3 tS)) (tw_of b2 fun a b j w => ⟨w.1, Or.inr w.2⟩), fun w => by have := w.2.2; dsimp only at this; omega, fun _ => by rw [if_neg (fun w => w.elim hne2 q)]; exact b3⟩
          simp (disch := first | omega | assumption) only [s189_0, s189_1, s189_4, s189_7, s189_10, s189_11, s189_14, s189_15, s189_16, s189_17, s189_20, s189_22, s189_23, s189_24, s189_25, s189_26, s189_29, s189_30, s189_31, s189_34, s189_35, s189_38, s189_41, s189_44, s189_46, s189_47, s189_48, s189_49, s189_52, s189_53, s189_55, s189_56, s189_57, s189_58, s189_59, s189_62, s189_63, s189_64, s189_67, s189_68, s189_71, s189_74, s189_77, s189_78, s189_81, s189_84, s189_85, s189_86, s189_87, s189_90, s189_93, s189_94, s189_95, s189_98, s189_99, s189_100, s189_103, s189_104, s189_107, s189_108, nI_le2, nI_lt2, nI_eq2, nI_lt0, nI_0le, nI_0lt, nI_le0, nI_eq0, nI_clamp, nI_add, bu_nI, bb_0, bb_1, rf_s, rf_n, tl_s, tl_n, am_th_some, if_true, if_false, sI_eq, uI_eq, and_self, true_and, and_true, not_false_eq_true, not_true_eq_false, Nat.reduceEqDiff, Nat.reduceLeDiff, Nat.reduceLT, Nat.reduceAdd, Nat.reduceMul, Nat.reduceSub, Nat.zero_add, gh, gd, gi0, aX, em, x3, b1]
        · have gi1 : am_cal (d + 1) 156 [.int (nI v), .int (nI lo), .int (nI hi)] X R Q = some (some (.int (nI 1)), X, R, Q) := by
            rw [gi, if_neg (fun w => r1 (Or.inl (c1.mp w))), if_neg (fun w => r1 (Or.inr (c2.mp w)))]
          refine ⟨X, nI v, ?_, fIX, fun _ => ⟨rfl, aX, wX⟩, fun w => absurd ⟨hne2, q, by dsimp only; omega, by dsimp only; omega⟩ w⟩
          simp (disch := first | omega | assumption) only [s189_0, s189_1, s189_4, s189_7, s189_10, s189_11, s189_14, s189_15, s189_16, s189_17, s189_20, s189_22, s189_23, s189_24, s189_25, s189_26, s189_29, s189_30, s189_31, s189_34, s189_35, s189_38, s189_41, s189_44, s189_46, s189_47, s189_48, s189_49, s189_52, s189_53, s189_55, s189_56, s189_57, s189_58, s189_59, s189_62, s189_63, s189_64, s189_67, s189_68, s189_71, s189_74, s189_77, s189_78, s189_81, s189_84, s189_85, s189_86, s189_87, s189_90, s189_93, s189_94, s189_95, s189_98, s189_99, s189_100, s189_103, s189_104, s189_107, s189_108, nI_le2, nI_lt2, nI_eq2, nI_lt0, nI_0le, nI_0lt, nI_le0, nI_eq0, nI_clamp, nI_add, bu_nI, bb_0, bb_1, rf_s, rf_n, tl_s, tl_n, am_th_some, if_true, if_false, sI_eq, uI_eq, and_self, true_and, and_true, not_false_eq_true, not_true_eq_false, Nat.reduceEqDiff, Nat.reduceLeDiff, Nat.reduceLT, Nat.reduceAdd, Nat.reduceMul, Nat.reduceSub, Nat.zero_add, gh, gd, gi1, hne]
    by_cases e2 : sp_dd L B (s + 1)
    · rw [if_pos e2] at gd2
      obtain ⟨eh2, lt2⟩ := dd_hm e2
      rw [eh2] at gh2 gd2
      have he2 := e2.1
      have he2' := e2.2
      obtain ⟨X3, x3, f3, a3⟩ : ∃ Y, am_sI X2 12 0 (am_uI (X2 12 0) 3 (nI (s + 1 + 1))) = Y ∧ am_fr tm_S X2 Y ∧ Y 12 0 3 = nI (s + 1 + 1) := ⟨_, rfl, fr_s fr_rf ⟨rfl, rfl⟩, by rw [sI_eq, uI_eq]⟩
      have hz : zn_r L B a = ((sp_hr L B s - 48) * 10 + sp_hr L B (s + 1) - 48, s + 1 + 1) := by
        show sp_dg L B 2 0 (sp_sk L B a) = _
        rw [hse, dg_2, if_pos e1, dg_1, if_pos e2, Nat.zero_mul, Nat.zero_add]
      obtain ⟨J, y, k1, k2⟩ := fin X3 _ _ (.int 0) f3 a3 (by omega) (by omega) (by omega) hz
      have v2 : nI (10 * (sp_hr L B s - 48) + sp_hr L B (s + 1)) - nI 48 = nI ((sp_hr L B s - 48) * 10 + sp_hr L B (s + 1) - 48) := by rw [nI_sub (by omega), Nat.mul_comm]
      refine ⟨J, y, ?_, k2⟩
      rw [s189]
      simp (disch := first | omega | assumption) only [s189_0, s189_1, s189_4, s189_7, s189_10, s189_11, s189_14, s189_15, s189_16, s189_17, s189_20, s189_22, s189_23, s189_24, s189_25, s189_26, s189_29, s189_30, s189_31, s189_34, s189_35, s189_38, s189_41, s189_44, s189_46, s189_47, s189_48, s189_49, s189_52, s189_53, s189_55, s189_56, s189_57, s189_58, s189_59, s189_62, s189_63, s189_64, s189_68, s189_71, s189_74, s189_77, s189_78, s189_81, s189_84, s189_85, s189_86, s189_87, s189_90, s189_93, s189_94, s189_95, s189_98, s189_99, s189_100, s189_103, s189_104, s189_107, s189_108, nI_le2, nI_lt2, nI_eq2, nI_lt0, nI_0le, nI_0lt, nI_le0, nI_eq0, nI_clamp, nI_add, bu_nI, bb_0, bb_1, rf_s, rf_n, tl_s, tl_n, am_th_some, if_true, if_false, sI_eq, uI_eq, and_self, true_and, and_true, not_false_eq_true, not_true_eq_false, Nat.reduceEqDiff, Nat.reduceLeDiff, Nat.reduceLT, Nat.reduceAdd, Nat.reduceMul, Nat.reduceSub, Nat.zero_add, g1, gd1, gh1, v1, a1, x2, gh2, gd2, hne, nI_mul, v2, a2, x3]
      exact k1
    · rw [if_neg e2] at gd2
      have hz : zn_r L B a = (sp_hr L B s - 48, s + 1) := by
        show sp_dg L B 2 0 (sp_sk L B a) = _
        rw [hse, dg_2, if_pos e1, dg_1, if_neg e2, Nat.zero_mul, Nat.zero_add]
      obtain ⟨J, y, k1, k2⟩ := fin X2 _ _ (.int 0) fr_rf a2 (by omega) (by omega) (by omega) hz
      refine ⟨J, y, ?_, k2⟩
      rw [s189]
      simp (disch := first | omega | assumption) only [s189_0, s189_1, s189_4, s189_7, s189_10, s189_11, s189_14, s189_15, s189_16, s189_17, s189_20, s189_22, s189_23, s189_24, s189_25, s189_26, s189_29, s189_30, s189_31, s189_34, s189_35, s189_38, s189_41, s189_44, s189_46, s189_47, s189_48, s189_49, s189_52, s189_53, s189_55, s189_56, s189_57, s189_58, s189_59, s189_62, s189_63, s189_64, s189_68, s189_71, s189_74, s189_77, s189_78, s189_81, s189_84, s189_85, s189_86, s189_87, s189_90, s189_93, s189_94, s189_95, s189_98, s189_99, s189_100, s189_103, s189_104, s189_107, s189_108, nI_le2, nI_lt2, nI_eq2, nI_lt0, nI_0le, nI_0lt, nI_le0, nI_eq0, nI_clamp, nI_add, bu_nI, bb_0, bb_1, rf_s, rf_n, tl_s, tl_n, am_th_some, if_true, if_false, sI_eq, uI_eq, and_self, true_and, and_true, not_false_eq_true, not_true_eq_false, Nat.reduceEqDiff, Nat.reduceLeDiff, Nat.reduceLT, Nat.reduceAdd, Nat.reduceMul, Nat.reduceSub, Nat.zero_add, g1, gd1, gh1, v1, a1, x2, gh2, gd2, hne]
      exact k1
  · rw [if_neg e1] at gd1
    obtain ⟨J, b1, b2, b3⟩ := m_bad (d := d + 1) (R := R) (Q := Q) a1 w1
    rw [sp_bad, if_pos rfl] at b3
    have hz : zn_r L B a = (0, s) := by
      show sp_dg L B 2 0 (sp_sk L B a) = _
      rw [hse, dg_2, if_neg e1]
    unfold zn_ok zn_p
    rw [hse, hz]
    refine ⟨J, nI lo, ?_, fr_tr f1' (tw_of b2 fun a b j w => ⟨w.1, Or.inr w.2⟩), fun w => absurd rfl w.1, fun _ => by rw [if_pos (Or.inl rfl)]; exact b3⟩
    rw [s189]
    simp (disch := first | omega | assumption) only [s189_0, s189_1, s189_4, s189_7, s189_10, s189_11, s189_14, s189_15, s189_16, s189_17, s189_20, s189_22, s189_23, s189_24, s189_25, s189_26, s189_29, s189_30, s189_31, s189_34, s189_35, s189_38, s189_41, s189_44, s189_46, s189_47, s189_48, s189_49, s189_52, s189_53, s189_55, s189_56, s189_57, s189_58, s189_59, s189_62, s189_63, s189_64, s189_67, s189_68, s189_71, s189_74, s189_77, s189_78, s189_81, s189_84, s189_85, s189_86, s189_87, s189_90, s189_93, s189_94, s189_95, s189_98, s189_99, s189_100, s189_103, s189_104, s189_107, s189_108, nI_le2, nI_lt2, nI_eq2, nI_lt0, nI_0le, nI_0lt, nI_le0, nI_eq0, nI_clamp, nI_add, bu_nI, bb_0, bb_1, rf_s, rf_n, tl_s, tl_n, am_th_some, if_true, if_false, sI_eq, uI_eq, and_self, true_and, and_true, not_false_eq_true, not_true_eq_false, Nat.reduceEqDiff, Nat.reduceLeDiff, Nat.reduceLT, Nat.reduceAdd, Nat.reduceMul, Nat.reduceSub, Nat.zero_add, g1, gd1, b1]
end
