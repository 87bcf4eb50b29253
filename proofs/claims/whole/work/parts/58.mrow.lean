/-! The model: rows of heat, odds. -/
section
variable {d n b m u q : Nat} {I : am_I} {R : am_R} {Q : am_Q} {P : Nat → Nat → Int32} {T : pl_T}
theorem m_canRow (hr : mm_R R) (hkT : kT T n b) (hb : 1 ≤ b ∧ b ≤ 99) (hn2 : n ≤ 25) (hq : q ≤ 9) {first : Nat} (hf : first ≤ 1) : ∀ (left : Nat) (I : am_I) (P : Nat → Nat → Int32) (m dep row : Nat), dep + left ≤ 6 → mT T n b R Q I → I 56 0 2 = nI q → pt_I n b m P → m + left < 2 ^ 29 → mm_at I P → ∃ J, am_cal (d + 9 + left) 243 [.ref (am_mk 12 0), .int (nI dep), .int (nI left), .int (nI first), .int (nI row)] I R Q = some (some (.int (if (sp_row T (nI q) (I 56 0 5) n first left P).isSome = true then nI 1 else nI 0)), J, R, Q) ∧ am_fr (ma_S dep) I J ∧ mm_at J P ∧ ∀ x, sp_row T (nI q) (I 56 0 5) n first left P = some x → J 12 0 40 = nI (row * 10 ^ left + x) := by
  intro left
  induction left with
  | zero =>
    intro I P m dep row hd hT hfu hI hm hP
    have f0 : am_fr (fun a _ j => a = 12 ∧ j = 40) I (am_sI I 12 0 (am_uI (I 12 0) 40 (nI row))) := fr_s fr_rf ⟨rfl, rfl⟩
    have hP2 := mm_fr hP f0 (fun j hj w => by omega) (fun w => by omega)
    have hs := m_isSafe (d := d + 3) (Q := Q) hb hr hP2 hn2 hI
    rw [f0 56 0 5 (fun w => by omega)] at hs
    have f1 : am_fr (ma_S dep) I (am_sI I 12 0 (am_uI (I 12 0) 40 (nI row))) := fr_mo f0 (fun a b j w => by unfold ma_S; omega)
    by_cases sf : sp_safe (I 56 0 5) n P
    · rw [if_pos sf] at hs
      refine ⟨_, ?_, f1, hP2, fun x hx => ?_⟩
      · rw [s243, sp_row, if_pos sf]
        simp (disch := first | omega | assumption) only [s243_0, s243_1, s243_4, s243_5, s243_7, s243_10, s243_11, s243_14, s243_15, s243_16, s243_18, s243_19, s243_20, s243_23, s243_24, s243_28, s243_29, s243_32, s243_34, s243_37, s243_39, s243_40, s243_43, s243_44, s243_47, s243_48, s243_50, s243_51, s243_54, s243_55, s243_58, s243_59, s243_60, s243_63, s243_64, s243_67, s243_70, s243_71, s243_72, s243_73, s243_74, s243_75, s243_76, s243_77, s243_78, s243_80, s243_82, s243_83, s243_85, s243_86, s243_89, s243_92, s243_93, s243_96, s243_97, s243_99, s243_100, s243_101, s243_104, s243_107, s243_110, s243_112, nI_le2, nI_lt2, nI_eq2, nI_lt0, nI_0le, nI_0lt, nI_le0, nI_eq0, nI_clamp, nI_add, bu_nI, bb_0, bb_1, rf_s, rf_n, tl_s, tl_n, am_th_some, if_true, if_false, sI_eq, uI_eq, and_self, true_and, and_true, not_false_eq_true, not_true_eq_false, Nat.reduceEqDiff, Nat.reduceLeDiff, Nat.reduceLT, Nat.reduceAdd, Nat.reduceMul, Nat.reduceSub, Nat.zero_add, hs, Nat.add_zero, Option.isSome_some]
      · rw [sp_row, if_pos sf] at hx
        cases hx
        rw [sI_eq, uI_eq, Nat.pow_zero, Nat.mul_one]
        rfl
    · rw [if_neg sf] at hs
      refine ⟨_, ?_, f1, hP2, fun x hx => ?_⟩
      · rw [s243, sp_row, if_neg sf]
        simp (disch := first | omega | assumption) only [s243_0, s243_1, s243_4, s243_5, s243_7, s243_10, s243_11, s243_14, s243_15, s243_16, s243_18, s243_19, s243_20, s243_23, s243_24, s243_28, s243_29, s243_32, s243_34, s243_37, s243_39, s243_40, s243_43, s243_44, s243_47, s243_48, s243_50, s243_51, s243_54, s243_55, s243_58, s243_59, s243_60, s243_63, s243_64, s243_67, s243_70, s243_71, s243_72, s243_73, s243_74, s243_75, s243_76, s243_77, s243_78, s243_80, s243_82, s243_83, s243_85, s243_86, s243_89, s243_92, s243_93, s243_96, s243_97, s243_99, s243_100, s243_101, s243_104, s243_107, s243_110, s243_112, nI_le2, nI_lt2, nI_eq2, nI_lt0, nI_0le, nI_0lt, nI_le0, nI_eq0, nI_clamp, nI_add, bu_nI, bb_0, bb_1, rf_s, rf_n, tl_s, tl_n, am_th_some, if_true, if_false, sI_eq, uI_eq, and_self, true_and, and_true, not_false_eq_true, not_true_eq_false, Nat.reduceEqDiff, Nat.reduceLeDiff, Nat.reduceLT, Nat.reduceAdd, Nat.reduceMul, Nat.reduceSub, Nat.zero_add, hs, Nat.add_zero, Option.isSome_none, Bool.false_eq_true]
      · rw [sp_row, if_neg sf] at hx
        cases hx
  | succ left ih =>
    intro I P m dep row hd hT hfu hI hm hP
    have eq : d + 9 + (left + 1) = d + 9 + left + 1 := by omega
    have e56 : ∀ {J} j, am_fr (ma_S dep) I J → J 56 0 j = I 56 0 j := fun {J} j hf => hf _ _ _ (fun w => by unfold ma_S at w; omega)
    let r : Nat → Option Nat := fun w => if (sp_way T (nI q) w P).2 ≤ 0 then (sp_row T (nI q) (I 56 0 5) n first left (sp_way T (nI q) w P).1).map (fun x => w * 10 ^ left + x) else none
    have hrow : sp_row T (nI q) (I 56 0 5) n first (left + 1) P = sp_or r first 3 := rfl
    obtain ⟨J0, a1, a2, a3, a4⟩ := m_putAside (d := d + 9 + left) (Q := Q) hr hP (dep := dep) (by omega)
    have bu2 : am_bu (nI 2) 6 = True := bu_nI (by decide)
    have hp10 : 10 ^ (left + 1) = 10 ^ left * 10 := Nat.pow_succ ..
    have loop : ∃ J, am_ev (d + 9 + (left + 1)) 243 26 [.ref (am_mk 12 0), .int (nI dep), .int (nI (left + 1)), .int (nI first), .int (nI row), .int (nI 0), .int (nI first)] [] J0 R Q = some (some (.int (if (sp_or r first 3).isSome = true then nI 1 else nI 0)), J, R, Q) ∧ am_fr (ma_S dep) I J ∧ mm_at J P ∧ ∀ x, sp_or r first 3 = some x → J 12 0 40 = nI (row * 10 ^ (left + 1) + x) := by
      refine loop_inv (f := fun J w => am_ev (d + 9 + (left + 1)) 243 26 [.ref (am_mk 12 0), .int (nI dep), .int (nI (left + 1)), .int (nI first), .int (nI row), .int (nI 0), .int (nI w)] [] J R Q) (Inv := fun w J => am_fr (ma_S dep) I J ∧ ma_at J dep P ∧ mm_at J P ∧ sp_or r first w = none ∧ first ≤ w) (Post := fun y => ∃ J, y = some (some (.int (if (sp_or r first 3).isSome = true then nI 1 else nI 0)), J, R, Q) ∧ am_fr (ma_S dep) I J ∧ mm_at J P ∧ ∀ x, sp_or r first 3 = some x → J 12 0 40 = nI (row * 10 ^ (left + 1) + x)) (n := 3) ?_ ?_ (c := first) (by omega) (a := J0) ⟨fr_mo a2 asS_ma, a3, a4, ?_, Nat.le_refl _⟩
      · intro w J hw ⟨f1, f2, f3, f4, f5⟩
        have h1 : ¬ 3 ≤ w := by omega
        have e2 := (e56 2 f1).trans hfu
        -- stirred, or not
        obtain ⟨J2, s1, s2, s3, s4⟩ : ∃ J2, am_ev (d + 9 + (left + 1)) 243 26 [.ref (am_mk 12 0), .int (nI dep), .int (nI (left + 1)), .int (nI first), .int (nI row), .int (nI 0), .int (nI w)] [] J R Q = am_ev (d + 9 + (left + 1)) 243 47 [.ref (am_mk 12 0), .int (nI dep), .int (nI (left + 1)), .int (nI first), .int (nI row), .int (nI 0), .int (nI w)] [] J2 R Q ∧ am_fr (ma_S dep) I J2 ∧ ma_at J2 dep P ∧ mm_at J2 (if w = 2 then sp_mix P else P) := by
          by_cases e : w = 2
          · obtain ⟨J2, b1, b2, b3⟩ := m_stirNow (d := d + 4 + left) (Q := Q) hb hr f3 hn2 hI
            rw [show d + 4 + left + 5 = d + 9 + left by omega] at b1
            refine ⟨J2, ?_, fr_x f1 b2 mmS_ma, ma_fr f2 b2 (fun j _ _ v => by unfold mm_S at v; omega), by rw [if_pos e]; exact b3⟩
            subst e
            rw [eq, s243_26]
            simp (disch := first | omega | assumption) only [s243_0, s243_1, s243_4, s243_5, s243_7, s243_10, s243_11, s243_14, s243_15, s243_16, s243_18, s243_19, s243_20, s243_23, s243_24, s243_28, s243_29, s243_32, s243_34, s243_37, s243_39, s243_40, s243_43, s243_44, s243_48, s243_50, s243_51, s243_54, s243_55, s243_58, s243_59, s243_60, s243_63, s243_64, s243_67, s243_70, s243_71, s243_72, s243_73, s243_74, s243_75, s243_76, s243_77, s243_78, s243_80, s243_82, s243_83, s243_85, s243_86, s243_89, s243_92, s243_93, s243_96, s243_97, s243_99, s243_100, s243_101, s243_104, s243_107, s243_110, s243_112, nI_le2, nI_lt2, nI_eq2, nI_lt0, nI_0le, nI_0lt, nI_le0, nI_eq0, nI_clamp, nI_add, bu_nI, bb_0, bb_1, rf_s, rf_n, tl_s, tl_n, am_th_some, if_true, if_false, sI_eq, uI_eq, and_self, true_and, and_true, not_false_eq_true, not_true_eq_false, Nat.reduceEqDiff, Nat.reduceLeDiff, Nat.reduceLT, Nat.reduceAdd, Nat.reduceMul, Nat.reduceSub, Nat.zero_add, b1]
          · refine ⟨J, ?_, f1, f2, by rw [if_neg e]; exact f3⟩
            rw [eq, s243_26]
            simp (disch := first | omega | assumption) only [s243_0, s243_1, s243_4, s243_5, s243_7, s243_10, s243_11, s243_14, s243_15, s243_16, s243_18, s243_19, s243_20, s243_23, s243_24, s243_28, s243_29, s243_32, s243_34, s243_37, s243_39, s243_40, s243_43, s243_44, s243_48, s243_50, s243_51, s243_54, s243_55, s243_58, s243_59, s243_60, s243_63, s243_64, s243_67, s243_70, s243_71, s243_72, s243_73, s243_74, s243_75, s243_76, s243_77, s243_78, s243_80, s243_82, s243_83, s243_85, s243_86, s243_89, s243_92, s243_93, s243_96, s243_97, s243_99, s243_100, s243_101, s243_104, s243_107, s243_110, s243_112, nI_le2, nI_lt2, nI_eq2, nI_lt0, nI_0le, nI_0lt, nI_le0, nI_eq0, nI_clamp, nI_add, bu_nI, bb_0, bb_1, rf_s, rf_n, tl_s, tl_n, am_th_some, if_true, if_false, sI_eq, uI_eq, and_self, true_and, and_true, not_false_eq_true, not_true_eq_false, Nat.reduceEqDiff, Nat.reduceLeDiff, Nat.reduceLT, Nat.reduceAdd, Nat.reduceMul, Nat.reduceSub, Nat.zero_add, h1, e]
        have hIx : pt_I n b m (if w = 2 then sp_mix P else P) := by
          by_cases e : w = 2
          · rw [if_pos e]; exact mix_I hb hI
          · rw [if_neg e]; exact hI
        obtain ⟨pq, hpq, epq⟩ : ∃ pq, pq ≤ 9 ∧ (if w = 1 then nI q else nI 0) = nI pq := by
          by_cases e : w = 1
          · exact ⟨q, hq, by rw [if_pos e]⟩
          · exact ⟨0, by decide, by rw [if_neg e]⟩
        obtain ⟨J3, g1, g2, g3⟩ := hT (d + 1 + left) J2 m pq _ (fr_mo s2 ma_ev) s4 hIx (by omega) hpq
        rw [show d + 1 + left + 8 = d + 9 + left by omega] at g1
        rw [← epq] at g1 g3
        obtain ⟨k1, uu, hu, k2⟩ := hkT m pq _ hIx
        rw [← epq] at k1 k2
        have f6 := fr_x s2 g2 (mkS_ma (dep := dep))
        have f7 : ma_at J3 dep P := ma_fr s3 g2 (fun j _ _ v => by unfold mk_S at v; omega)
        have hway : sp_way T (nI q) w P = T (if w = 1 then nI q else nI 0) (if w = 2 then sp_mix P else P) := rfl
        rw [k2] at g1
        have e2' := (e56 2 s2).trans hfu
        have toT : am_ev (d + 9 + (left + 1)) 243 47 [.ref (am_mk 12 0), .int (nI dep), .int (nI (left + 1)), .int (nI first), .int (nI row), .int (nI 0), .int (nI w)] [] J2 R Q = am_ev (d + 9 + (left + 1)) 243 67 [.ref (am_mk 12 0), .int (nI dep), .int (nI (left + 1)), .int (nI first), .int (nI row), .int (nI 0), .int (nI w)] [.int (nI uu)] J3 R Q := by
          rw [eq]
          by_cases e : w = 1
          · rw [if_pos e] at g1
            simp (disch := first | omega | assumption) only [s243_0, s243_1, s243_4, s243_5, s243_7, s243_10, s243_11, s243_14, s243_15, s243_16, s243_18, s243_19, s243_20, s243_23, s243_24, s243_28, s243_29, s243_32, s243_34, s243_37, s243_39, s243_40, s243_43, s243_44, s243_47, s243_48, s243_50, s243_51, s243_54, s243_55, s243_58, s243_59, s243_60, s243_63, s243_64, s243_70, s243_71, s243_72, s243_73, s243_74, s243_75, s243_76, s243_77, s243_78, s243_80, s243_82, s243_83, s243_85, s243_86, s243_89, s243_92, s243_93, s243_96, s243_97, s243_99, s243_100, s243_101, s243_104, s243_107, s243_110, s243_112, nI_le2, nI_lt2, nI_eq2, nI_lt0, nI_0le, nI_0lt, nI_le0, nI_eq0, nI_clamp, nI_add, bu_nI, bb_0, bb_1, rf_s, rf_n, tl_s, tl_n, am_th_some, if_true, if_false, sI_eq, uI_eq, and_self, true_and, and_true, not_false_eq_true, not_true_eq_false, Nat.reduceEqDiff, Nat.reduceLeDiff, Nat.reduceLT, Nat.reduceAdd, Nat.reduceMul, Nat.reduceSub, Nat.zero_add, e, mr24 hr, e2', bu2, g1]
          · rw [if_neg e] at g1
            simp (disch := first | omega | assumption) only [s243_0, s243_1, s243_4, s243_5, s243_7, s243_10, s243_11, s243_14, s243_15, s243_16, s243_18, s243_19, s243_20, s243_23, s243_24, s243_28, s243_29, s243_32, s243_34, s243_37, s243_39, s243_40, s243_43, s243_44, s243_47, s243_48, s243_50, s243_51, s243_54, s243_55, s243_58, s243_59, s243_60, s243_63, s243_64, s243_70, s243_71, s243_72, s243_73, s243_74, s243_75, s243_76, s243_77, s243_78, s243_80, s243_82, s243_83, s243_85, s243_86, s243_89, s243_92, s243_93, s243_96, s243_97, s243_99, s243_100, s243_101, s243_104, s243_107, s243_110, s243_112, nI_le2, nI_lt2, nI_eq2, nI_lt0, nI_0le, nI_0lt, nI_le0, nI_eq0, nI_clamp, nI_add, bu_nI, bb_0, bb_1, rf_s, rf_n, tl_s, tl_n, am_th_some, if_true, if_false, sI_eq, uI_eq, and_self, true_and, and_true, not_false_eq_true, not_true_eq_false, Nat.reduceEqDiff, Nat.reduceLeDiff, Nat.reduceLT, Nat.reduceAdd, Nat.reduceMul, Nat.reduceSub, Nat.zero_add, e, g1]
        have cells : ∀ {K : am_I}, mm_at K (T (if w = 1 then nI q else nI 0) (if w = 2 then sp_mix P else P)).1 → K 12 0 30 = P 4 0 := fun hK => hK.2.1.trans (k1.1.trans hI.1.symm)
        by_cases hu0 : uu = 0
        · have hle : (sp_way T (nI q) w P).2 ≤ 0 := by rw [hway, k2, hu0]; decide
          obtain ⟨J4, i1, i2, i3, i4⟩ := ih J3 (sp_way T (nI q) w P).1 (m + 1) (dep + 1) (10 * row + w) (by omega) (mT_fr hT (fr_mo f6 ma_ev)) ((e56 2 f6).trans hfu) (by rw [hway]; exact k1) (by omega) (by rw [hway]; exact g3)
          rw [e56 5 f6] at i1 i4
          have f8 := fr_x f6 i2 (ma_mo (Nat.le_succ dep))
          have f9 : ma_at J4 dep P := ma_fr f7 i2 (fun j h1 h2 v => by unfold ma_S at v; omega)
          obtain ⟨J5, t1, t2, t3⟩ := m_takeBack (d := d + 9 + left) (R := R) (Q := Q) hr (show dep < 10 by omega) f9 (by rw [hway] at i3; exact cells i3)
          have f10 := fr_x f8 t2 (mmS_ma (dep := dep))
          cases ho : sp_row T (nI q) (I 56 0 5) n first left (sp_way T (nI q) w P).1 with
          | none =>
            left
            rw [ho, Option.isSome_none, if_neg (by decide)] at i1
            have hrw : r w = none := by show (if _ then _ else _) = _; rw [if_pos hle, ho]; rfl
            refine ⟨J5, (s1.trans toT).trans ?_, f10, ma_fr f9 t2 (fun j _ _ v => by unfold mm_S at v; omega), t3, ?_, by omega⟩
            · rw [eq, hu0]
              simp (disch := first | omega | assumption) only [s243_0, s243_1, s243_4, s243_5, s243_7, s243_10, s243_11, s243_14, s243_15, s243_16, s243_18, s243_19, s243_20, s243_23, s243_24, s243_28, s243_29, s243_32, s243_34, s243_37, s243_39, s243_40, s243_43, s243_44, s243_47, s243_48, s243_50, s243_51, s243_54, s243_55, s243_58, s243_59, s243_60, s243_63, s243_64, s243_67, s243_70, s243_71, s243_72, s243_73, s243_74, s243_75, s243_76, s243_77, s243_78, s243_80, s243_82, s243_83, s243_85, s243_86, s243_89, s243_92, s243_93, s243_96, s243_97, s243_99, s243_100, s243_101, s243_104, s243_107, s243_110, s243_112, nI_le2, nI_lt2, nI_eq2, nI_lt0, nI_0le, nI_0lt, nI_le0, nI_eq0, nI_clamp, nI_add, bu_nI, bb_0, bb_1, rf_s, rf_n, tl_s, tl_n, am_th_some, if_true, if_false, sI_eq, uI_eq, and_self, true_and, and_true, not_false_eq_true, not_true_eq_false, Nat.reduceEqDiff, Nat.reduceLeDiff, Nat.reduceLT, Nat.reduceAdd, Nat.reduceMul, Nat.reduceSub, Nat.zero_add, i1, t1, nI_mul, nI_sub, Nat.add_sub_cancel]
            · rw [sp_or, fold_s, show am_fold _ none w = none from f4, hrw]
              split <;> rfl
          | some x =>
            right
            rw [ho, Option.isSome_some, if_pos rfl] at i1
            have i4 := i4 x ho
            have hrw : r w = some (w * 10 ^ left + x) := by show (if _ then _ else _) = _; rw [if_pos hle, ho]; rfl
            have hor : sp_or r first 3 = some (w * 10 ^ left + x) := or_some (k := w + 1) (by
              rw [sp_or, fold_s, show am_fold _ none w = none from f4, hrw, if_neg (by omega)]; rfl) (by omega)
            have hne : ((nI 1 : Int32) = 0) = False := eq_false (by decide)
            refine ⟨J5, (s1.trans toT).trans ?_, f10, t3, fun y hy => ?_⟩
            · rw [eq, hu0, hor, Option.isSome_some, if_pos rfl]
              simp (disch := first | omega | assumption) only [s243_0, s243_1, s243_4, s243_5, s243_7, s243_10, s243_11, s243_14, s243_15, s243_16, s243_18, s243_19, s243_20, s243_23, s243_24, s243_28, s243_29, s243_32, s243_34, s243_37, s243_39, s243_40, s243_43, s243_44, s243_47, s243_48, s243_50, s243_51, s243_54, s243_55, s243_58, s243_59, s243_60, s243_63, s243_64, s243_67, s243_70, s243_71, s243_72, s243_73, s243_74, s243_75, s243_76, s243_77, s243_78, s243_80, s243_82, s243_83, s243_85, s243_86, s243_89, s243_92, s243_93, s243_96, s243_97, s243_99, s243_100, s243_101, s243_104, s243_107, s243_110, s243_112, nI_le2, nI_lt2, nI_eq2, nI_lt0, nI_0le, nI_0lt, nI_le0, nI_eq0, nI_clamp, nI_add, bu_nI, bb_0, bb_1, rf_s, rf_n, tl_s, tl_n, am_th_some, if_true, if_false, sI_eq, uI_eq, and_self, true_and, and_true, not_false_eq_true, not_true_eq_false, Nat.reduceEqDiff, Nat.reduceLeDiff, Nat.reduceLT, Nat.reduceAdd, Nat.reduceMul, Nat.reduceSub, Nat.zero_add, i1, t1, nI_mul, nI_sub, Nat.add_sub_cancel, hne]
              rw [s243_26]
              by_cases h3 : 3 ≤ w + 1
              · simp (disch := first | omega | assumption) only [s243_0, s243_1, s243_4, s243_5, s243_7, s243_10, s243_11, s243_14, s243_15, s243_16, s243_18, s243_19, s243_20, s243_23, s243_24, s243_28, s243_29, s243_32, s243_34, s243_37, s243_39, s243_40, s243_43, s243_44, s243_47, s243_48, s243_50, s243_51, s243_54, s243_55, s243_58, s243_59, s243_60, s243_63, s243_64, s243_67, s243_70, s243_71, s243_72, s243_73, s243_74, s243_75, s243_76, s243_77, s243_78, s243_80, s243_82, s243_83, s243_85, s243_86, s243_89, s243_92, s243_93, s243_96, s243_97, s243_99, s243_100, s243_101, s243_104, s243_107, s243_110, s243_112, nI_le2, nI_lt2, nI_eq2, nI_lt0, nI_0le, nI_0lt, nI_le0, nI_eq0, nI_clamp, nI_add, bu_nI, bb_0, bb_1, rf_s, rf_n, tl_s, tl_n, am_th_some, if_true, if_false, sI_eq, uI_eq, and_self, true_and, and_true, not_false_eq_true, not_true_eq_false, Nat.reduceEqDiff, Nat.reduceLeDiff, Nat.reduceLT, Nat.reduceAdd, Nat.reduceMul, Nat.reduceSub, Nat.zero_add, h3, hne]
              · simp (disch := first | omega | assumption) only [s243_0, s243_1, s243_4, s243_5, s243_7, s243_10, s243_11, s243_14, s243_15, s243_16, s243_18, s243_19, s243_20, s243_23, s243_24, s243_28, s243_29, s243_32, s243_34, s243_37, s243_39, s243_40, s243_43, s243_44, s243_47, s243_48, s243_50, s243_51, s243_54, s243_55, s243_58, s243_59, s243_60, s243_63, s243_64, s243_67, s243_70, s243_71, s243_72, s243_73, s243_74, s243_75, s243_76, s243_77, s243_78, s243_80, s243_82, s243_83, s243_85, s243_86, s243_89, s243_92, s243_93, s243_96, s243_97, s243_99, s243_100, s243_101, s243_104, s243_107, s243_110, s243_112, nI_le2, nI_lt2, nI_eq2, nI_lt0, nI_0le, nI_0lt, nI_le0, nI_eq0, nI_clamp, nI_add, bu_nI, bb_0, bb_1, rf_s, rf_n, tl_s, tl_n, am_th_some, if_true, if_false, sI_eq, uI_eq, and_self, true_and, and_true, not_false_eq_true, not_true_eq_false, Nat.reduceEqDiff, Nat.reduceLeDiff, Nat.reduceLT, Nat.reduceAdd, Nat.reduceMul, Nat.reduceSub, Nat.zero_add, h3, hne]
            · rw [hor] at hy
              cases hy
              rw [t2 12 0 40 (fun v => by unfold mm_S at v; omega), i4, hp10, ← Nat.mul_assoc, Nat.mul_comm (row * 10 ^ left) 10, ← Nat.mul_assoc, Nat.add_mul, Nat.add_assoc]
        · left
          have hle : ¬ (sp_way T (nI q) w P).2 ≤ 0 := by rw [hway, k2, nI_le0 (by omega)]; exact hu0
          have hrw : r w = none := by show (if _ then _ else _) = _; rw [if_neg hle]
          obtain ⟨J5, t1, t2, t3⟩ := m_takeBack (d := d + 9 + left) (R := R) (Q := Q) hr (show dep < 10 by omega) f7 (cells g3)
          refine ⟨J5, (s1.trans toT).trans ?_, fr_x f6 t2 mmS_ma, ma_fr f7 t2 (fun j _ _ v => by unfold mm_S at v; omega), t3, ?_, by omega⟩
          · rw [eq]
            simp (disch := first | omega | assumption) only [s243_0, s243_1, s243_4, s243_5, s243_7, s243_10, s243_11, s243_14, s243_15, s243_16, s243_18, s243_19, s243_20, s243_23, s243_24, s243_28, s243_29, s243_32, s243_34, s243_37, s243_39, s243_40, s243_43, s243_44, s243_47, s243_48, s243_50, s243_51, s243_54, s243_55, s243_58, s243_59, s243_60, s243_63, s243_64, s243_67, s243_70, s243_71, s243_72, s243_73, s243_74, s243_75, s243_76, s243_77, s243_78, s243_80, s243_82, s243_83, s243_85, s243_86, s243_89, s243_92, s243_93, s243_96, s243_97, s243_99, s243_100, s243_101, s243_104, s243_107, s243_110, s243_112, nI_le2, nI_lt2, nI_eq2, nI_lt0, nI_0le, nI_0lt, nI_le0, nI_eq0, nI_clamp, nI_add, bu_nI, bb_0, bb_1, rf_s, rf_n, tl_s, tl_n, am_th_some, if_true, if_false, sI_eq, uI_eq, and_self, true_and, and_true, not_false_eq_true, not_true_eq_false, Nat.reduceEqDiff, Nat.reduceLeDiff, Nat.reduceLT, Nat.reduceAdd, Nat.reduceMul, Nat.reduceSub, Nat.zero_add, hu0, t1]
          · rw [sp_or, fold_s, show am_fold _ none w = none from f4, hrw]
            split <;> rfl
      · intro J ⟨f1, f2, f3, f4, f5⟩
        refine ⟨J, ?_, f1, f3, fun x hx => by rw [f4] at hx; cases hx⟩
        rw [s243_26]
        simp (disch := first | omega | assumption) only [s243_0, s243_1, s243_4, s243_5, s243_7, s243_10, s243_11, s243_14, s243_15, s243_16, s243_18, s243_19, s243_20, s243_23, s243_24, s243_28, s243_29, s243_32, s243_34, s243_37, s243_39, s243_40, s243_43, s243_44, s243_47, s243_48, s243_50, s243_51, s243_54, s243_55, s243_58, s243_59, s243_60, s243_63, s243_64, s243_67, s243_70, s243_71, s243_72, s243_73, s243_74, s243_75, s243_76, s243_77, s243_78, s243_80, s243_82, s243_83, s243_85, s243_86, s243_89, s243_92, s243_93, s243_96, s243_97, s243_99, s243_100, s243_101, s243_104, s243_107, s243_110, s243_112, nI_le2, nI_lt2, nI_eq2, nI_lt0, nI_0le, nI_0lt, nI_le0, nI_eq0, nI_clamp, nI_add, bu_nI, bb_0, bb_1, rf_s, rf_n, tl_s, tl_n, am_th_some, if_true, if_false, sI_eq, uI_eq, and_self, true_and, and_true, not_false_eq_true, not_true_eq_false, Nat.reduceEqDiff, Nat.reduceLeDiff, Nat.reduceLT, Nat.reduceAdd, Nat.reduceMul, Nat.reduceSub, Nat.zero_add, Nat.le_refl]
        rw [f4]
        rfl
      · rcases (show first = 0 ∨ first = 1 by omega) with e | e
        · subst e; rfl
        · subst e; rfl
    obtain ⟨J, g1, g2, g3, g4⟩ := loop
    refine ⟨J, ?_, g2, g3, by rw [hrow]; exact g4⟩
    have hne : ¬ left + 1 = 0 := by omega
    rw [s243, hrow]
    rw [eq] at g1 ⊢
    simp (disch := first | omega | assumption) only [s243_0, s243_1, s243_4, s243_5, s243_7, s243_10, s243_11, s243_14, s243_15, s243_16, s243_18, s243_19, s243_20, s243_23, s243_24, s243_28, s243_29, s243_32, s243_34, s243_37, s243_39, s243_40, s243_43, s243_44, s243_47, s243_48, s243_50, s243_51, s243_54, s243_55, s243_58, s243_59, s243_60, s243_63, s243_64, s243_67, s243_70, s243_71, s243_72, s243_73, s243_74, s243_75, s243_76, s243_77, s243_78, s243_80, s243_82, s243_83, s243_85, s243_86, s243_89, s243_92, s243_93, s243_96, s243_97, s243_99, s243_100, s243_101, s243_104, s243_107, s243_110, s243_112, nI_le2, nI_lt2, nI_eq2, nI_lt0, nI_0le, nI_0lt, nI_le0, nI_eq0, nI_clamp, nI_add, bu_nI, bb_0, bb_1, rf_s, rf_n, tl_s, tl_n, am_th_some, if_true, if_false, sI_eq, uI_eq, and_self, true_and, and_true, not_false_eq_true, not_true_eq_false, Nat.reduceEqDiff, Nat.reduceLeDiff, Nat.reduceLT, Nat.reduceAdd, Nat.reduceMul, Nat.reduceSub, Nat.zero_add, hne, a1]
    exact g1
theorem m_rowBy (hr : mm_R R) (hkT : kT T n b) (hb : 1 ≤ b ∧ b ≤ 99) (hn2 : n ≤ 25) (hq : q ≤ 9) {first : Nat} (hf : first ≤ 1) (hT : mT T n b R Q I) (hfu : I 56 0 2 = nI q) (hI : pt_I n b m P) (hm : m < 2 ^ 28) (hP : mm_at I P) : ∃ J, am_fr (ma_S 0) I J ∧ mm_at J P ∧ (((∀ k, k < 7 → sp_row T (nI q) (I 56 0 5) n first k P = none) ∧ am_cal (d + 16) 244 [.ref (am_mk 12 0), .int (nI first)] I R Q = some (some (.int (-nI 1)), J, R, Q)) ∨ ∃ k x, k < 7 ∧ (∀ j, j < k → sp_row T (nI q) (I 56 0 5) n first j P = none) ∧ sp_row T (nI q) (I 56 0 5) n first k P = some x ∧ am_cal (d + 16) 244 [.ref (am_mk 12 0), .int (nI first)] I R Q = some (some (.int (nI k)), J, R, Q) ∧ J 12 0 40 = nI x) := by
  have e56 : ∀ {J} j, am_fr (ma_S 0) I J → J 56 0 j = I 56 0 j := fun {J} j hf => hf _ _ _ (fun w => by unfold ma_S at w; omega)
  have loop : ∃ J, am_fr (ma_S 0) I J ∧ mm_at J P ∧ (((∀ k, k < 7 → sp_row T (nI q) (I 56 0 5) n first k P = none) ∧ am_ev (d + 16) 244 2 [.ref (am_mk 12 0), .int (nI first), .int (nI 0)] [] I R Q = some (some (.int (-nI 1)), J, R, Q)) ∨ ∃ k x, k < 7 ∧ (∀ j, j < k → sp_row T (nI q) (I 56 0 5) n first j P = none) ∧ sp_row T (nI q) (I 56 0 5) n first k P = some x ∧ am_ev (d + 16) 244 2 [.ref (am_mk 12 0), .int (nI first), .int (nI 0)] [] I R Q = some (some (.int (nI k)), J, R, Q) ∧ J 12 0 40 = nI x) := by
    refine loop_inv (f := fun J c => am_ev (d + 16) 244 2 [.ref (am_mk 12 0), .int (nI first), .int (nI c)] [] J R Q) (Inv := fun c J => am_fr (ma_S 0) I J ∧ mm_at J P ∧ ∀ k, k < c → sp_row T (nI q) (I 56 0 5) n first k P = none) (Post := fun y => ∃ J, am_fr (ma_S 0) I J ∧ mm_at J P ∧ (((∀ k, k < 7 → sp_row T (nI q) (I 56 0 5) n first k P = none) ∧ y = some (some (.int (-nI 1)), J, R, Q)) ∨ ∃ k x, k < 7 ∧ (∀ j, j < k → sp_row T (nI q) (I 56 0 5) n first j P = none) ∧ sp_row T (nI q) (I 56 0 5) n first k P = some x ∧ y = some (some (.int (nI k)), J, R, Q) ∧ J 12 0 40 = nI x)) (n := 7) ?_ ?_ (Nat.zero_le _) ⟨fr_rf, hP, fun k hk => absurd hk (Nat.not_lt_zero _)⟩
    · intro c J hc ⟨f1, f2, f3⟩
      have h1 : (6 < c) = False := eq_false (by omega)
      obtain ⟨J1, g1, g2, g3, g4⟩ := m_canRow (d := d + 6 - c) hr hkT hb hn2 hq hf c J P m 0 0 (by omega) (mT_fr hT (fr_mo f1 ma_ev)) ((e56 2 f1).trans hfu) hI (by omega) f2
      rw [show d + 6 - c + 9 + c = d + 15 by omega, e56 5 f1] at g1
      rw [e56 5 f1] at g4
      cases ho : sp_row T (nI q) (I 56 0 5) n first c P with
      | none =>
        left
        rw [ho, Option.isSome_none, if_neg (by decide)] at g1
        refine ⟨J1, ?_, fr_tr f1 g2, g3, fun k hk => (Nat.lt_succ_iff_lt_or_eq.mp hk).elim (f3 k) (fun e => by rw [e]; exact ho)⟩
        rw [s244_2]
        simp (disch := first | omega | assumption) only [s244_0, s244_1, s244_3, s244_5, s244_8, s244_9, s244_10, s244_11, s244_12, s244_13, s244_16, s244_19, s244_20, s244_21, s244_24, s244_27, s244_28, nI_le2, nI_lt2, nI_eq2, nI_lt0, nI_0le, nI_0lt, nI_le0, nI_eq0, nI_clamp, nI_add, bu_nI, bb_0, bb_1, rf_s, rf_n, tl_s, tl_n, am_th_some, if_true, if_false, sI_eq, uI_eq, and_self, true_and, and_true, not_false_eq_true, not_true_eq_false, Nat.reduceEqDiff, Nat.reduceLeDiff, Nat.reduceLT, Nat.reduceAdd, Nat.reduceMul, Nat.reduceSub, Nat.zero_add, h1, g1]
      | some x =>
        right
        rw [ho, Option.isSome_some, if_pos rfl] at g1
        have g4 := g4 x ho
        rw [Nat.zero_mul, Nat.zero_add] at g4
        refine ⟨J1, fr_tr f1 g2, g3, Or.inr ⟨c, x, hc, f3, ho, ?_, g4⟩⟩
        rw [s244_2]
        simp (disch := first | omega | assumption) only [s244_0, s244_1, s244_3, s244_5, s244_8, s244_9, s244_10, s244_11, s244_12, s244_13, s244_16, s244_19, s244_20, s244_21, s244_24, s244_27, s244_28, nI_le2, nI_lt2, nI_eq2, nI_lt0, nI_0le, nI_0lt, nI_le0, nI_eq0, nI_clamp, nI_add, bu_nI, bb_0, bb_1, rf_s, rf_n, tl_s, tl_n, am_th_some, if_true, if_false, sI_eq, uI_eq, and_self, true_and, and_true, not_false_eq_true, not_true_eq_false, Nat.reduceEqDiff, Nat.reduceLeDiff, Nat.reduceLT, Nat.reduceAdd, Nat.reduceMul, Nat.reduceSub, Nat.zero_add, h1, g1]
    · intro J ⟨f1, f2, f3⟩
      refine ⟨J, f1, f2, Or.inl ⟨f3, ?_⟩⟩
      have h1 : (6 < 7) = True := eq_true (by omega)
      rw [s244_2]
      simp (disch := first | omega | assumption) only [s244_0, s244_1, s244_3, s244_5, s244_8, s244_9, s244_10, s244_11, s244_12, s244_13, s244_16, s244_19, s244_20, s244_21, s244_24, s244_27, s244_28, nI_le2, nI_lt2, nI_eq2, nI_lt0, nI_0le, nI_0lt, nI_le0, nI_eq0, nI_clamp, nI_add, bu_nI, bb_0, bb_1, rf_s, rf_n, tl_s, tl_n, am_th_some, if_true, if_false, sI_eq, uI_eq, and_self, true_and, and_true, not_false_eq_true, not_true_eq_false, Nat.reduceEqDiff, Nat.reduceLeDiff, Nat.reduceLT, Nat.reduceAdd, Nat.reduceMul, Nat.reduceSub, Nat.zero_add, h1]
  obtain ⟨J, g1, g2⟩ := loop
  have start : am_cal (d + 16) 244 [.ref (am_mk 12 0), .int (nI first)] I R Q = am_ev (d + 16) 244 2 [.ref (am_mk 12 0), .int (nI first), .int (nI 0)] [] I R Q := by
    rw [s244]
    simp (disch := first | omega | assumption) only [s244_0, s244_1, s244_3, s244_5, s244_8, s244_9, s244_10, s244_11, s244_12, s244_13, s244_16, s244_19, s244_20, s244_21, s244_24, s244_27, s244_28, nI_le2, nI_lt2, nI_eq2, nI_lt0, nI_0le, nI_0lt, nI_le0, nI_eq0, nI_clamp, nI_add, bu_nI, bb_0, bb_1, rf_s, rf_n, tl_s, tl_n, am_th_some, if_true, if_false, sI_eq, uI_eq, and_self, true_and, and_true, not_false_eq_true, not_true_eq_false, Nat.reduceEqDiff, Nat.reduceLeDiff, Nat.reduceLT, Nat.reduceAdd, Nat.reduceMul, Nat.reduceSub, Nat.zero_add]
  rw [start]
  exact ⟨J, g1, g2⟩
theorem m_safeParts (hr : mm_R R) (hkT : kT T n b) (hb : 1 ≤ b ∧ b ≤ 99) (hn2 : n ≤ 25) (hq : q ≤ 9) {ch : Nat} (hch : ch ≤ 100) : ∀ (left : Nat) (I : am_I) (P : Nat → Nat → Int32) (m dep p : Nat), dep + left ≤ 8 → mT T n b R Q I → I 56 0 2 = nI q → pt_I n b m P → m + left < 2 ^ 29 → p ≤ 1000000000 → mm_at I P → ∃ J, am_cal (d + 9 + left) 265 [.ref (am_mk 12 0), .int (nI dep), .int (nI left), .int (nI ch), .int (nI p)] I R Q = some (some (.int (nI (sp_parts T (nI q) (I 56 0 5) n ch left P p))), J, R, Q) ∧ am_fr (ma_S dep) I J ∧ mm_at J P := by
  intro left
  induction left with
  | zero =>
    intro I P m dep p hd hT hfu hI hm hp hP
    have hs := m_isSafe (d := d + 3) (Q := Q) hb hr hP hn2 hI
    refine ⟨I, ?_, fr_rf, hP⟩
    rw [s265]
    by_cases sf : sp_safe (I 56 0 5) n P
    · rw [if_pos sf] at hs
      rw [sp_parts, if_pos sf]
      simp (disch := first | omega | assumption) only [s265_0, s265_1, s265_4, s265_5, s265_8, s265_11, s265_13, s265_16, s265_17, s265_18, s265_20, s265_21, s265_22, s265_23, s265_24, s265_27, s265_28, s265_29, s265_31, s265_32, s265_33, s265_36, s265_37, s265_38, s265_41, s265_42, s265_43, s265_46, s265_47, s265_48, s265_49, s265_50, s265_51, s265_52, s265_53, s265_54, s265_55, s265_57, s265_59, s265_60, s265_63, s265_65, s265_66, s265_67, s265_70, s265_71, s265_74, s265_75, s265_76, s265_79, s265_80, s265_81, s265_84, s265_85, s265_87, s265_88, s265_89, s265_90, s265_91, s265_92, s265_93, s265_94, s265_95, s265_97, s265_100, s265_101, s265_103, s265_104, s265_105, s265_108, s265_110, nI_le2, nI_lt2, nI_eq2, nI_lt0, nI_0le, nI_0lt, nI_le0, nI_eq0, nI_clamp, nI_add, bu_nI, bb_0, bb_1, rf_s, rf_n, tl_s, tl_n, am_th_some, if_true, if_false, sI_eq, uI_eq, and_self, true_and, and_true, not_false_eq_true, not_true_eq_false, Nat.reduceEqDiff, Nat.reduceLeDiff, Nat.reduceLT, Nat.reduceAdd, Nat.reduceMul, Nat.reduceSub, Nat.zero_add, hs, Nat.add_zero]
    · rw [if_neg sf] at hs
      rw [sp_parts, if_neg sf]
      simp (disch := first | omega | assumption) only [s265_0, s265_1, s265_4, s265_5, s265_8, s265_11, s265_13, s265_16, s265_17, s265_18, s265_20, s265_21, s265_22, s265_23, s265_24, s265_27, s265_28, s265_29, s265_31, s265_32, s265_33, s265_36, s265_37, s265_38, s265_41, s265_42, s265_43, s265_46, s265_47, s265_48, s265_49, s265_50, s265_51, s265_52, s265_53, s265_54, s265_55, s265_57, s265_59, s265_60, s265_63, s265_65, s265_66, s265_67, s265_70, s265_71, s265_74, s265_75, s265_76, s265_79, s265_80, s265_81, s265_84, s265_85, s265_87, s265_88, s265_89, s265_90, s265_91, s265_92, s265_93, s265_94, s265_95, s265_97, s265_100, s265_101, s265_103, s265_104, s265_105, s265_108, s265_110, nI_le2, nI_lt2, nI_eq2, nI_lt0, nI_0le, nI_0lt, nI_le0, nI_eq0, nI_clamp, nI_add, bu_nI, bb_0, bb_1, rf_s, rf_n, tl_s, tl_n, am_th_some, if_true, if_false, sI_eq, uI_eq, and_self, true_and, and_true, not_false_eq_true, not_true_eq_false, Nat.reduceEqDiff, Nat.reduceLeDiff, Nat.reduceLT, Nat.reduceAdd, Nat.reduceMul, Nat.reduceSub, Nat.zero_add, hs, Nat.add_zero]
  | succ left ih =>
    intro I P m dep p hd hT hfu hI hm hp hP
    have eq : d + 9 + (left + 1) = d + 9 + left + 1 := by omega
    have e56 : ∀ {J} j, am_fr (ma_S dep) I J → J 56 0 j = I 56 0 j := fun {J} j hf => hf _ _ _ (fun w => by unfold ma_S at w; omega)
    have bu2 : am_bu (nI 2) 6 = True := bu_nI (by decide)
    have hs1 : p * ch / 100 ≤ p := by
      have : p * ch ≤ p * 100 := Nat.mul_le_mul_left _ hch
      omega
    have hpl := parts_l hp hch
    have hne : ¬ left + 1 = 0 := by omega
    generalize hst : p * ch / 100 = st at hs1 hpl
    have hsp : sp_parts T (nI q) (I 56 0 5) n ch (left + 1) P p = sp_parts T (nI q) (I 56 0 5) n ch left (T (nI q) P).1 (p - st) + sp_parts T (nI q) (I 56 0 5) n ch left (T (nI q) (sp_mix P)).1 st := by rw [sp_parts, hst, Nat.add_comm]
    have h100 : ((100 : Int64) = 0) = False := eq_false (by decide)
    obtain ⟨J0, a1, a2, a3, a4⟩ := m_putAside (d := d + 9 + left) (Q := Q) hr hP (dep := dep) (by omega)
    have f0 := fr_mo a2 (asS_ma (dep := dep))
    obtain ⟨J1, b1, b2, b3⟩ := hT (d + 1 + left) J0 m q P (fr_mo f0 ma_ev) a4 hI (by omega) hq
    rw [show d + 1 + left + 8 = d + 9 + left by omega] at b1
    have f1 := fr_x f0 b2 (mkS_ma (dep := dep))
    obtain ⟨J2, c1, c2, c3⟩ := ih J1 (T (nI q) P).1 (m + 1) (dep + 1) (p - st) (by omega) (mT_fr hT (fr_mo f1 ma_ev)) ((e56 2 f1).trans hfu) (hkT m q P hI).1 (by omega) (by omega) b3
    rw [e56 5 f1] at c1
    have f2 := fr_x f1 c2 (ma_mo (Nat.le_succ dep))
    have g2 : ma_at J2 dep P := ma_fr (ma_fr a3 b2 (fun j _ _ v => by unfold mk_S at v; omega)) c2 (fun j h1 h2 v => by unfold ma_S at v; omega)
    obtain ⟨J3, d1, d2, d3⟩ := m_takeBack (d := d + 9 + left) (R := R) (Q := Q) hr (show dep < 10 by omega) g2 (c3.2.1.trans ((hkT m q P hI).1.1.trans hI.1.symm))
    have f3 := fr_x f2 d2 (mmS_ma (dep := dep))
    have g3 : ma_at J3 dep P := ma_fr g2 d2 (fun j _ _ v => by unfold mm_S at v; omega)
    obtain ⟨J4, e1, e2, e3⟩ := m_stirNow (d := d + 4 + left) (Q := Q) hb hr d3 hn2 hI
    rw [show d + 4 + left + 5 = d + 9 + left by omega] at e1
    have f4 := fr_x f3 e2 (mmS_ma (dep := dep))
    have g4 : ma_at J4 dep P := ma_fr g3 e2 (fun j _ _ v => by unfold mm_S at v; omega)
    obtain ⟨J5, i1, i2, i3⟩ := hT (d + 1 + left) J4 m q _ (fr_mo f4 ma_ev) e3 (mix_I hb hI) (by omega) hq
    rw [show d + 1 + left + 8 = d + 9 + left by omega] at i1
    have f5 := fr_x f4 i2 (mkS_ma (dep := dep))
    obtain ⟨J6, j1, j2, j3⟩ := ih J5 (T (nI q) (sp_mix P)).1 (m + 1) (dep + 1) st (by omega) (mT_fr hT (fr_mo f5 ma_ev)) ((e56 2 f5).trans hfu) (hkT m q _ (mix_I hb hI)).1 (by omega) (by omega) i3
    rw [e56 5 f5] at j1
    have f6 := fr_x f5 j2 (ma_mo (Nat.le_succ dep))
    have g6 : ma_at J6 dep P := ma_fr (ma_fr g4 i2 (fun j _ _ v => by unfold mk_S at v; omega)) j2 (fun j h1 h2 v => by unfold ma_S at v; omega)
    obtain ⟨J7, l1, l2, l3⟩ := m_takeBack (d := d + 9 + left) (R := R) (Q := Q) hr (show dep < 10 by omega) g6 (j3.2.1.trans ((hkT m q _ (mix_I hb hI)).1.1.trans hI.1.symm))
    refine ⟨J7, ?_, fr_x f6 l2 mmS_ma, l3⟩
    have o0 := (e56 2 f0).trans hfu
    have o4 := (e56 2 f4).trans hfu
    have hsub : nI p - nI st = nI (p - st) := nI_sub hs1
    rw [s265, eq, hsp]
    simp (disch := first | omega | assumption) only [s265_0, s265_1, s265_4, s265_5, s265_8, s265_11, s265_13, s265_16, s265_17, s265_18, s265_20, s265_21, s265_22, s265_23, s265_24, s265_27, s265_28, s265_29, s265_31, s265_32, s265_33, s265_36, s265_37, s265_38, s265_41, s265_42, s265_43, s265_46, s265_47, s265_48, s265_49, s265_50, s265_51, s265_52, s265_53, s265_54, s265_55, s265_57, s265_59, s265_60, s265_63, s265_65, s265_66, s265_67, s265_70, s265_71, s265_74, s265_75, s265_76, s265_79, s265_80, s265_81, s265_84, s265_85, s265_87, s265_88, s265_89, s265_90, s265_91, s265_92, s265_93, s265_94, s265_95, s265_97, s265_100, s265_101, s265_103, s265_104, s265_105, s265_108, s265_110, nI_le2, nI_lt2, nI_eq2, nI_lt0, nI_0le, nI_0lt, nI_le0, nI_eq0, nI_clamp, nI_add, bu_nI, bb_0, bb_1, rf_s, rf_n, tl_s, tl_n, am_th_some, if_true, if_false, sI_eq, uI_eq, and_self, true_and, and_true, not_false_eq_true, not_true_eq_false, Nat.reduceEqDiff, Nat.reduceLeDiff, Nat.reduceLT, Nat.reduceAdd, Nat.reduceMul, Nat.reduceSub, Nat.zero_add, hne, h100, hpl, a1, mr24 hr, o0, o4, bu2, b1, nI_sub, Nat.add_sub_cancel, hsub, c1, d1, e1, i1, j1, l1]
end
