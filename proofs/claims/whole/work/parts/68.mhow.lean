/-! HOW: the model. -/
/-- the FOOD that was told -/
def md_at (I : am_I) (f n : Nat) (C : Nat → Nat) (P : Nat → Nat → Int32) : Prop := I 12 0 28 = nI f ∧ f ≤ 12 ∧ (∀ j, j < f → C j < 25) ∧ (∀ i j, i < j → j < f → ¬ C i = C j) ∧ (∀ j, j < f → I 57 0 (4 * j) = nI (C j) ∧ I 57 0 (4 * j + 1) = P 0 (C j) ∧ I 57 0 (4 * j + 2) = P 1 (C j) ∧ I 57 0 (4 * j + 3) = P 2 (C j)) ∧ (∀ c, c < 25 → (∀ j, j < f → ¬ C j = c) → P 0 c = nI 0 ∧ P 1 c = nI 0 ∧ P 2 c = nI 0) ∧ (∀ c, c < 25 → P 3 c = nI 0) ∧ P 4 0 = nI n ∧ P 4 1 = nI 0 ∧ P 4 2 = nI 0
def md_S : Nat → Nat → Nat → Prop := fun a _ j => a = 60 ∧ j < 283
def mw_S : Nat → Nat → Nat → Prop := fun a _ j => (a = 60 ∧ j < 283) ∨ a = 62 ∨ a = 50 ∨ a = 51
theorem md_fr {S : Nat → Nat → Nat → Prop} {I J : am_I} {f n : Nat} {C : Nat → Nat} {P : Nat → Nat → Int32} (h : md_at I f n C P) (hf : am_fr S I J) (h1 : ¬ S 12 0 28) (h2 : ∀ j, ¬ S 57 0 j) : md_at J f n C P := by
  obtain ⟨b1, b2, b3, b4, b5, b6⟩ := h
  refine ⟨(hf _ _ _ h1).trans b1, b2, b3, b4, fun j hj => ?_, b6⟩
  obtain ⟨a0, a1, a2, a3⟩ := b5 j hj
  exact ⟨(hf _ _ _ (h2 _)).trans a0, (hf _ _ _ (h2 _)).trans a1, (hf _ _ _ (h2 _)).trans a2, (hf _ _ _ (h2 _)).trans a3⟩
section
variable {d n b m u v k p q f : Nat} {I : am_I} {R : am_R} {Q : am_Q} {N : Nat → Nat → Nat} {P : Nat → Nat → Int32} {T : pl_T} {i : Int32} {C : Nat → Nat}
theorem m_begin (hr : mm_R R) (hD : md_at I f n C P) (hc : I 12 0 30 = nI n) : ∃ J, am_cal d 199 [.ref (am_mk 12 0)] I R Q = some (none, J, R, Q) ∧ am_fr md_S I J ∧ mm_at J P ∧ ∀ j, 102 ≤ j → j < 283 → J 60 0 j = nI 0 := by
  obtain ⟨b1, b2, b3, b4, b5, b6, b7, b8, b9, b10⟩ := hD
  let Post : Option am_X → Prop := fun y => ∃ J, y = some (none, J, R, Q) ∧ am_fr md_S I J ∧ mm_at J P ∧ ∀ j, 102 ≤ j → j < 283 → J 60 0 j = nI 0
  have second : ∀ J0, am_fr md_S I J0 → (∀ j, j < 283 → J0 60 0 j = nI 0) → ∀ l2 : Value, Post (am_ev d 199 24 [.ref (am_mk 12 0), .int (nI 0), l2] [] J0 R Q) := by
    intro J0 hf hz l2
    refine loop_inv (f := fun (a : am_I × Value) c => am_ev d 199 24 [.ref (am_mk 12 0), .int (nI c), a.2] [] a.1 R Q) (Inv := fun c a => am_fr md_S I a.1 ∧ (∀ j, j < c → a.1 60 0 (C j) = P 0 (C j) ∧ a.1 60 0 (25 + C j) = P 1 (C j) ∧ a.1 60 0 (50 + C j) = P 2 (C j)) ∧ (∀ x, x < 25 → (∀ j, j < c → ¬ C j = x) → a.1 60 0 x = nI 0 ∧ a.1 60 0 (25 + x) = nI 0 ∧ a.1 60 0 (50 + x) = nI 0) ∧ ∀ j, 75 ≤ j → j < 283 → a.1 60 0 j = nI 0) (Post := Post) (n := f) ?_ ?_ (Nat.zero_le _) (a := (J0, l2)) ⟨hf, fun j hj => absurd hj (Nat.not_lt_zero _), fun x hx _ => ⟨hz _ (by omega), hz _ (by omega), hz _ (by omega)⟩, fun j _ hj => hz j hj⟩
    · intro c ⟨J, l2⟩ hcf ⟨f1, f2, f3, f4⟩
      have f1 : am_fr md_S I J := f1
      have f2 : ∀ j, j < c → J 60 0 (C j) = P 0 (C j) ∧ J 60 0 (25 + C j) = P 1 (C j) ∧ J 60 0 (50 + C j) = P 2 (C j) := f2
      have f3 : ∀ x, x < 25 → (∀ j, j < c → ¬ C j = x) → J 60 0 x = nI 0 ∧ J 60 0 (25 + x) = nI 0 ∧ J 60 0 (50 + x) = nI 0 := f3
      have f4 : ∀ j, 75 ≤ j → j < 283 → J 60 0 j = nI 0 := f4
      left
      obtain ⟨a0, a1, a2, a3⟩ := b5 c hcf
      have e28 : J 12 0 28 = nI f := (f1 _ _ _ (fun w => by unfold md_S at w; omega)).trans b1
      have e0 : J 57 0 (4 * c) = nI (C c) := (f1 _ _ _ (fun w => by unfold md_S at w; omega)).trans a0
      have e1 : J 57 0 (4 * c + 1) = P 0 (C c) := (f1 _ _ _ (fun w => by unfold md_S at w; omega)).trans a1
      have e2 : J 57 0 (4 * c + 2) = P 1 (C c) := (f1 _ _ _ (fun w => by unfold md_S at w; omega)).trans a2
      have e3 : J 57 0 (4 * c + 3) = P 2 (C c) := (f1 _ _ _ (fun w => by unfold md_S at w; omega)).trans a3
      have h1 : ¬ f ≤ c := by omega
      have hx := b3 c hcf
      have hne : ∀ j, j < c → ¬ C j = C c := fun j hj => b4 j c hj hcf
      refine ⟨(am_sI J 60 0 (am_uI (am_uI (am_uI (J 60 0) (C c) (P 0 (C c))) (25 + C c) (P 1 (C c))) (50 + C c) (P 2 (C c))), .int (nI (C c))), ?_, ?_, ?_, ?_, ?_⟩
      · have g1 : 4 * c < 48 := by omega
        have g2 : 4 * c + 1 < 48 := by omega
        have g3 : 4 * c + 2 < 48 := by omega
        have g4 : 4 * c + 3 < 48 := by omega
        have g5 : C c < 283 := by omega
        have g6 : 25 + C c < 283 := by omega
        have g7 : 50 + C c < 283 := by omega
        rw [s199_24]
        simp (disch := first | omega | assumption) only [s199_0, s199_1, s199_3, s199_6, s199_9, s199_10, s199_13, s199_14, s199_15, s199_16, s199_19, s199_22, s199_23, s199_25, s199_26, s199_29, s199_32, s199_33, s199_36, s199_37, s199_38, s199_39, s199_40, s199_41, s199_42, s199_45, s199_46, s199_47, s199_48, s199_49, s199_52, s199_53, s199_54, s199_55, s199_56, s199_57, s199_58, s199_59, s199_60, s199_63, s199_65, s199_66, s199_67, s199_68, s199_71, s199_72, s199_73, s199_74, s199_75, s199_76, s199_77, s199_78, s199_79, s199_82, s199_84, s199_85, s199_86, s199_87, s199_90, s199_91, s199_92, s199_93, s199_94, s199_95, s199_96, s199_97, s199_100, s199_103, nI_le2, nI_lt2, nI_eq2, nI_lt0, nI_0le, nI_0lt, nI_le0, nI_eq0, nI_clamp, nI_add, bu_nI, bb_0, bb_1, rf_s, rf_n, tl_s, tl_n, am_th_some, if_true, if_false, sI_eq, uI_eq, and_self, true_and, and_true, not_false_eq_true, not_true_eq_false, Nat.reduceEqDiff, Nat.reduceLeDiff, Nat.reduceLT, Nat.reduceAdd, Nat.reduceMul, Nat.reduceSub, Nat.zero_add, mr25 hr, mr31 hr, e28, h1, e0, e1, e2, e3, sI_na, sI_sI, sI_eq, nI_mul, nI_add, Nat.zero_add, g1, g2, g3, g4, g5, g6, g7]
      · refine fr_g f1 fun j q => ?_
        have hj : ¬ j < 283 := fun w => q ⟨rfl, w⟩
        rw [uI_ne (by omega), uI_ne (by omega), uI_ne (by omega)]
        exact f1 _ _ _ (fun w => q w)
      · intro j hj
        dsimp only
        rw [sI_eq]
        rcases Nat.lt_succ_iff_lt_or_eq.mp hj with w | w
        · have := hne j w
          have := b3 j (by omega)
          rw [uI_ne (by omega), uI_ne (by omega), uI_ne (by omega), uI_ne (by omega), uI_ne (by omega), uI_ne (by omega), uI_ne (by omega), uI_ne (by omega), uI_ne (by omega)]
          exact f2 j w
        · subst w
          refine ⟨?_, ?_, ?_⟩
          · rw [uI_ne (by omega), uI_ne (by omega), uI_eq]
          · rw [uI_ne (by omega), uI_eq]
          · rw [uI_eq]
      · intro x hx2 hnx
        dsimp only
        rw [sI_eq]
        have := hnx c (Nat.lt_succ_self c)
        rw [uI_ne (by omega), uI_ne (by omega), uI_ne (by omega), uI_ne (by omega), uI_ne (by omega), uI_ne (by omega), uI_ne (by omega), uI_ne (by omega), uI_ne (by omega)]
        exact f3 x hx2 fun j hj => hnx j (by omega)
      · intro j hj1 hj2
        dsimp only
        rw [sI_eq, uI_ne (by omega), uI_ne (by omega), uI_ne (by omega)]
        exact f4 j hj1 hj2
    · intro ⟨J, l2⟩ ⟨f1, f2, f3, f4⟩
      have f1 : am_fr md_S I J := f1
      have f2 : ∀ j, j < f → J 60 0 (C j) = P 0 (C j) ∧ J 60 0 (25 + C j) = P 1 (C j) ∧ J 60 0 (50 + C j) = P 2 (C j) := f2
      have f3 : ∀ x, x < 25 → (∀ j, j < f → ¬ C j = x) → J 60 0 x = nI 0 ∧ J 60 0 (25 + x) = nI 0 ∧ J 60 0 (50 + x) = nI 0 := f3
      have f4 : ∀ j, 75 ≤ j → j < 283 → J 60 0 j = nI 0 := f4
      have e28 : J 12 0 28 = nI f := (f1 _ _ _ (fun w => by unfold md_S at w; omega)).trans b1
      refine ⟨J, ?_, f1, ⟨fun c hc25 => ?_, ?_, ?_, ?_⟩, fun j hj1 hj2 => f4 j (by omega) hj2⟩
      · rw [s199_24]
        simp (disch := first | omega | assumption) only [s199_0, s199_1, s199_3, s199_6, s199_9, s199_10, s199_13, s199_14, s199_15, s199_16, s199_19, s199_22, s199_23, s199_25, s199_26, s199_29, s199_32, s199_33, s199_36, s199_37, s199_38, s199_39, s199_40, s199_41, s199_42, s199_45, s199_46, s199_47, s199_48, s199_49, s199_52, s199_53, s199_54, s199_55, s199_56, s199_57, s199_58, s199_59, s199_60, s199_63, s199_65, s199_66, s199_67, s199_68, s199_71, s199_72, s199_73, s199_74, s199_75, s199_76, s199_77, s199_78, s199_79, s199_82, s199_84, s199_85, s199_86, s199_87, s199_90, s199_91, s199_92, s199_93, s199_94, s199_95, s199_96, s199_97, s199_100, s199_103, nI_le2, nI_lt2, nI_eq2, nI_lt0, nI_0le, nI_0lt, nI_le0, nI_eq0, nI_clamp, nI_add, bu_nI, bb_0, bb_1, rf_s, rf_n, tl_s, tl_n, am_th_some, if_true, if_false, sI_eq, uI_eq, and_self, true_and, and_true, not_false_eq_true, not_true_eq_false, Nat.reduceEqDiff, Nat.reduceLeDiff, Nat.reduceLT, Nat.reduceAdd, Nat.reduceMul, Nat.reduceSub, Nat.zero_add, e28, Nat.le_refl]
      · have e3 : J 60 0 (75 + c) = P 3 c := (f4 _ (by omega) (by omega)).trans (b7 c hc25).symm
        by_cases hex : ∃ j, j < f ∧ C j = c
        · obtain ⟨j, hj, rfl⟩ := hex
          exact ⟨(f2 j hj).1, (f2 j hj).2.1, (f2 j hj).2.2, e3⟩
        · have hno : ∀ j, j < f → ¬ C j = c := fun j hj w => hex ⟨j, hj, w⟩
          obtain ⟨z0, z1, z2⟩ := f3 c hc25 hno
          obtain ⟨y0, y1, y2⟩ := b6 c hc25 hno
          exact ⟨z0.trans y0.symm, z1.trans y1.symm, z2.trans y2.symm, e3⟩
      · rw [f1 _ _ _ (fun w => by unfold md_S at w; omega), hc, b8]
      · rw [f4 _ (by omega) (by omega), b9]
      · rw [f4 _ (by omega) (by omega), b10]
  rw [s199]
  simp (disch := first | omega | assumption) only [s199_0, s199_1, s199_3, s199_6, s199_9, s199_10, s199_13, s199_14, s199_15, s199_16, s199_19, s199_22, s199_23, s199_24, s199_25, s199_26, s199_29, s199_32, s199_33, s199_36, s199_37, s199_38, s199_39, s199_40, s199_41, s199_42, s199_45, s199_46, s199_47, s199_48, s199_49, s199_52, s199_53, s199_54, s199_55, s199_56, s199_57, s199_58, s199_59, s199_60, s199_63, s199_65, s199_66, s199_67, s199_68, s199_71, s199_72, s199_73, s199_74, s199_75, s199_76, s199_77, s199_78, s199_79, s199_82, s199_84, s199_85, s199_86, s199_87, s199_90, s199_91, s199_92, s199_93, s199_94, s199_95, s199_96, s199_97, s199_100, s199_103, nI_le2, nI_lt2, nI_eq2, nI_lt0, nI_0le, nI_0lt, nI_le0, nI_eq0, nI_clamp, nI_add, bu_nI, bb_0, bb_1, rf_s, rf_n, tl_s, tl_n, am_th_some, if_true, if_false, sI_eq, uI_eq, and_self, true_and, and_true, not_false_eq_true, not_true_eq_false, Nat.reduceEqDiff, Nat.reduceLeDiff, Nat.reduceLT, Nat.reduceAdd, Nat.reduceMul, Nat.reduceSub, Nat.zero_add]
  refine loop_inv (f := fun J c => am_ev d 199 2 [.ref (am_mk 12 0), .int (nI c), am_J] [] J R Q) (Inv := fun c J => am_fr md_S I J ∧ ∀ j, j < c → J 60 0 j = nI 0) (Post := Post) (n := 283) ?_ ?_ (Nat.zero_le _) ⟨fr_rf, fun j hj => absurd hj (Nat.not_lt_zero _)⟩
  · intro c J hc ⟨f1, f2⟩
    left
    have h1 : ¬ 283 ≤ c := by omega
    refine ⟨am_sI J 60 0 (am_uI (J 60 0) c (nI 0)), ?_, ?_, fun j hj => ?_⟩
    · rw [s199_2]
      simp (disch := first | omega | assumption) only [s199_0, s199_1, s199_3, s199_6, s199_9, s199_10, s199_13, s199_14, s199_15, s199_16, s199_19, s199_22, s199_23, s199_25, s199_26, s199_29, s199_32, s199_33, s199_36, s199_37, s199_38, s199_39, s199_40, s199_41, s199_42, s199_45, s199_46, s199_47, s199_48, s199_49, s199_52, s199_53, s199_54, s199_55, s199_56, s199_57, s199_58, s199_59, s199_60, s199_63, s199_65, s199_66, s199_67, s199_68, s199_71, s199_72, s199_73, s199_74, s199_75, s199_76, s199_77, s199_78, s199_79, s199_82, s199_84, s199_85, s199_86, s199_87, s199_90, s199_91, s199_92, s199_93, s199_94, s199_95, s199_96, s199_97, s199_100, s199_103, nI_le2, nI_lt2, nI_eq2, nI_lt0, nI_0le, nI_0lt, nI_le0, nI_eq0, nI_clamp, nI_add, bu_nI, bb_0, bb_1, rf_s, rf_n, tl_s, tl_n, am_th_some, if_true, if_false, sI_eq, uI_eq, and_self, true_and, and_true, not_false_eq_true, not_true_eq_false, Nat.reduceEqDiff, Nat.reduceLeDiff, Nat.reduceLT, Nat.reduceAdd, Nat.reduceMul, Nat.reduceSub, Nat.zero_add, mr31 hr, h1]
    · exact fr_s f1 ⟨rfl, hc⟩
    · rw [sI_eq]
      by_cases e : j = c
      · rw [e, uI_eq]
      · rw [uI_ne e, f2 j (by omega)]
  · intro J ⟨f1, f2⟩
    rw [s199_2]
    simp (disch := first | omega | assumption) only [s199_0, s199_1, s199_3, s199_6, s199_9, s199_10, s199_13, s199_14, s199_15, s199_16, s199_19, s199_22, s199_23, s199_25, s199_26, s199_29, s199_32, s199_33, s199_36, s199_37, s199_38, s199_39, s199_40, s199_41, s199_42, s199_45, s199_46, s199_47, s199_48, s199_49, s199_52, s199_53, s199_54, s199_55, s199_56, s199_57, s199_58, s199_59, s199_60, s199_63, s199_65, s199_66, s199_67, s199_68, s199_71, s199_72, s199_73, s199_74, s199_75, s199_76, s199_77, s199_78, s199_79, s199_82, s199_84, s199_85, s199_86, s199_87, s199_90, s199_91, s199_92, s199_93, s199_94, s199_95, s199_96, s199_97, s199_100, s199_103, nI_le2, nI_lt2, nI_eq2, nI_lt0, nI_0le, nI_0lt, nI_le0, nI_eq0, nI_clamp, nI_add, bu_nI, bb_0, bb_1, rf_s, rf_n, tl_s, tl_n, am_th_some, if_true, if_false, sI_eq, uI_eq, and_self, true_and, and_true, not_false_eq_true, not_true_eq_false, Nat.reduceEqDiff, Nat.reduceLeDiff, Nat.reduceLT, Nat.reduceAdd, Nat.reduceMul, Nat.reduceSub, Nat.zero_add]
    exact second J f1 f2 _
end
