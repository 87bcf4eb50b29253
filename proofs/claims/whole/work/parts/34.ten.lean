/-! The class Kitchen: a TEN. -/
theorem nI_sub {a b : Nat} (h : b ≤ a) : nI a - nI b = nI (a - b) := by
  obtain ⟨c, rfl⟩ := Nat.exists_eq_add_of_le h
  rw [Nat.add_sub_cancel_left, ← nI_add, Int32.add_comm]
  exact Int32.add_sub_cancel _ _
def sp_flow (B : Nat → Nat → Int32) (sp : Int32) (P : Nat → Nat → Int32) (k : Nat) : Int32 := am_fold (fun a s => if pp_f P (B k s) then a + (P 2 (B k s).toNatClampNeg - P 2 k) * sp / nI 20 else a) (nI 0) 4
def kk_S (p : Nat) : Nat → Nat → Nat → Prop := fun a b j => (a = 31 ∨ a = 32 ∨ (a = 3 ∧ j = 3) ∨ a = 28) ∨ ((a = 9 ∨ a = 20 ∨ a = 21 ∨ a = 22) ∧ b = p)
section
variable {d p u n k : Nat} {I : am_I} {R : am_R} {Q : am_Q} {P : Nat → Nat → Int32} {B : Nat → Nat → Int32}
theorem c_flowTo (hk : kk_R R u) (hp : pp_R R p) (hP : pp_at I p P) (hn : P 4 0 = nI n) (hn2 : n ≤ 25) (hB : bs_at I u n B) (hkn : k < n) : am_cal (d + 1) 22 [.ref (am_mk 2 0), .ref (am_mk 9 p), .int (nI k)] I R Q = some (some (.int (sp_flow B (I 14 u 3) P k)), I, R, Q) := by
  obtain ⟨k0, k1, k2, k3, k4, k5⟩ := hk
  obtain ⟨p0, p1, p2, p3⟩ := hp
  rw [s22]
  simp (disch := first | omega | assumption) only [s22_0, s22_1, s22_2, s22_3, s22_7, s22_8, s22_11, s22_12, s22_15, s22_16, s22_18, s22_21, s22_23, s22_24, s22_26, s22_29, s22_32, s22_33, s22_34, s22_37, s22_39, s22_40, s22_41, s22_44, s22_45, s22_46, s22_47, s22_48, s22_51, s22_54, s22_55, s22_56, s22_57, s22_59, s22_60, s22_61, s22_62, s22_65, s22_68, s22_69, nI_le2, nI_lt2, nI_eq2, nI_lt0, nI_0le, nI_0lt, nI_le0, nI_eq0, nI_clamp, nI_add, bu_nI, bb_0, bb_1, rf_s, rf_n, tl_s, tl_n, am_th_some, if_true, if_false, sI_eq, uI_eq, and_self, true_and, and_true, not_false_eq_true]
  have key : ∀ l5, am_ev (d + 1) 22 5 [.ref (am_mk 2 0), .ref (am_mk 9 p), .int (nI k), .int (nI 0), .int (nI 0), l5] [] I R Q = some (some (.int (sp_flow B (I 14 u 3) P k)), I, R, Q) := by
    intro l5
    refine loop_inv (f := fun (a : Int32 × Value) c => am_ev (d + 1) 22 5 [.ref (am_mk 2 0), .ref (am_mk 9 p), .int (nI k), .int a.1, .int (nI c), a.2] [] I R Q) (Inv := fun c a => a.1 = am_fold (fun a s => if pp_f P (B k s) then a + (P 2 (B k s).toNatClampNeg - P 2 k) * I 14 u 3 / nI 20 else a) (nI 0) c) (Post := fun y => y = some (some (.int (sp_flow B (I 14 u 3) P k)), I, R, Q)) (n := 4) ?_ ?_ (Nat.zero_le _) (a := (nI 0, l5)) rfl
    · intro c a hc hi
      left
      have h1 : ¬ 4 ≤ c := by omega
      have h2 := hB k hkn c hc
      have e3 : am_bu (nI 3) 6 = True := bu_nI (by decide)
      obtain ⟨a0, a1, a2, a3⟩ := hP.1 k (by omega)
      rw [s22_5]
      by_cases h3 : pp_f P (B k c)
      · obtain ⟨m, hm, em, -⟩ := pp_f_of hn hn2 h3
        obtain ⟨b0, b1, b2, b3⟩ := hP.1 m (by omega)
        refine ⟨(a.1 + (P 2 m - P 2 k) * I 14 u 3 / nI 20, .int (nI m)), ?_, ?_⟩
        · simp (disch := first | omega | assumption) only [s22_0, s22_1, s22_2, s22_3, s22_7, s22_8, s22_11, s22_12, s22_15, s22_16, s22_18, s22_21, s22_23, s22_24, s22_26, s22_29, s22_32, s22_33, s22_34, s22_37, s22_39, s22_40, s22_41, s22_44, s22_45, s22_46, s22_47, s22_48, s22_51, s22_54, s22_55, s22_56, s22_57, s22_59, s22_60, s22_61, s22_62, s22_65, s22_68, s22_69, nI_le2, nI_lt2, nI_eq2, nI_lt0, nI_0le, nI_0lt, nI_le0, nI_eq0, nI_clamp, nI_add, bu_nI, bb_0, bb_1, rf_s, rf_n, tl_s, tl_n, am_th_some, if_true, if_false, sI_eq, uI_eq, and_self, true_and, and_true, not_false_eq_true, h1, k0, k3, p2, c_cellBeside k5 (show k < 25 by omega) hc, c_food (d := d) p0 hP hn hn2, h2, if_pos (em ▸ h3), em, z_1, z_20, a2, b2, e3]
        · rw [fold_s, if_pos h3, ← hi, em, nI_clamp (by omega)]
      · refine ⟨(a.1, .int (B k c)), ?_, by rw [fold_s, if_neg h3]; exact hi⟩
        simp (disch := first | omega | assumption) only [s22_0, s22_1, s22_2, s22_3, s22_7, s22_8, s22_11, s22_12, s22_15, s22_16, s22_18, s22_21, s22_23, s22_24, s22_26, s22_29, s22_32, s22_33, s22_34, s22_37, s22_39, s22_40, s22_41, s22_44, s22_45, s22_46, s22_47, s22_48, s22_51, s22_54, s22_55, s22_56, s22_57, s22_59, s22_60, s22_61, s22_62, s22_65, s22_68, s22_69, nI_le2, nI_lt2, nI_eq2, nI_lt0, nI_0le, nI_0lt, nI_le0, nI_eq0, nI_clamp, nI_add, bu_nI, bb_0, bb_1, rf_s, rf_n, tl_s, tl_n, am_th_some, if_true, if_false, sI_eq, uI_eq, and_self, true_and, and_true, not_false_eq_true, h1, k0, c_cellBeside k5 (show k < 25 by omega) hc, c_food (d := d) p0 hP hn hn2, h2, h3]
    · intro a hi
      rw [s22_5]
      simp (disch := first | omega | assumption) only [s22_0, s22_1, s22_2, s22_3, s22_7, s22_8, s22_11, s22_12, s22_15, s22_16, s22_18, s22_21, s22_23, s22_24, s22_26, s22_29, s22_32, s22_33, s22_34, s22_37, s22_39, s22_40, s22_41, s22_44, s22_45, s22_46, s22_47, s22_48, s22_51, s22_54, s22_55, s22_56, s22_57, s22_59, s22_60, s22_61, s22_62, s22_65, s22_68, s22_69, nI_le2, nI_lt2, nI_eq2, nI_lt0, nI_0le, nI_0lt, nI_le0, nI_eq0, nI_clamp, nI_add, bu_nI, bb_0, bb_1, rf_s, rf_n, tl_s, tl_n, am_th_some, if_true, if_false, sI_eq, uI_eq, and_self, true_and, and_true, not_false_eq_true, Nat.le_refl]
      rw [hi]
      rfl
  exact key _
/-- FOOD spreads -/
def sp_spread (B : Nat → Nat → Int32) (sp : Int32) (n : Nat) (P : Nat → Nat → Int32) : Nat → Nat → Int32 := fun a j => if j < n then (if P 1 j ≤ 0 then (if a = 2 then sp_max (nI 0) (P 2 j + (if P 0 j ≤ 0 then nI 0 else sp_flow B sp P j)) else P a j) else (if a = 1 then sp_max (nI 0) (P 1 j - sp_max (nI 0) (if P 0 j ≤ 0 then nI 0 else sp_flow B sp P j)) else P a j)) else P a j
theorem c_spreadOut (hk : kk_R R u) (hp : pp_R R p) (hP : pp_at I p P) (hn : P 4 0 = nI n) (hn2 : n ≤ 25) (hB : bs_at I u n B) : ∃ J, am_cal (d + 2) 21 [.ref (am_mk 2 0), .ref (am_mk 9 p)] I R Q = some (none, J, R, Q) ∧ am_fr (kk_S p) I J ∧ pp_at J p (fun a j => if a = 4 then P a j else sp_spread B (I 14 u 3) n P a j) := by
  have hk2 := hk
  have hp2 := hp
  obtain ⟨k0, k1, k2, k3, k4, k5⟩ := hk
  obtain ⟨p0, p1, p2, p3⟩ := hp
  have hS : ∀ {J}, am_fr (fun a _ _ => a = 32) I J → pp_at J p P ∧ bs_at J u n B ∧ J 14 u 3 = I 14 u 3 := fun {J} hf => ⟨pl_fr hP hf (fun a j h w => by omega), bs_fr hB hf (fun j w => by omega), hf _ _ _ (by omega)⟩
  have loop2 : ∀ J, am_fr (fun a _ _ => a = 32) I J → (∀ j, j < n → J 32 0 j = if P 0 j ≤ 0 then nI 0 else sp_flow B (I 14 u 3) P j) → ∃ K, am_ev (d + 2) 21 49 [.ref (am_mk 2 0), .ref (am_mk 9 p), .int (nI 0)] [] J R Q = some (none, K, R, Q) ∧ am_fr (kk_S p) I K ∧ pp_at K p (fun a j => if a = 4 then P a j else sp_spread B (I 14 u 3) n P a j) := by
    intro J hJ hfl
    refine loop_inv (f := fun K c => am_ev (d + 2) 21 49 [.ref (am_mk 2 0), .ref (am_mk 9 p), .int (nI c)] [] K R Q) (Inv := fun c K => am_fr (kk_S p) I K ∧ (∀ j, j < n → K 32 0 j = J 32 0 j) ∧ pp_at K p (fun a j => if a = 4 then P a j else if j < c then sp_spread B (I 14 u 3) n P a j else P a j)) (Post := fun y => ∃ K, y = some (none, K, R, Q) ∧ am_fr (kk_S p) I K ∧ pp_at K p (fun a j => if a = 4 then P a j else sp_spread B (I 14 u 3) n P a j)) (n := n) ?_ ?_ (Nat.zero_le _) ⟨fr_mo hJ (fun a b j h => Or.inl (Or.inr (Or.inl h))), fun j _ => rfl, pl_congr (hS hJ).1 (fun a j _ => by simp)⟩
    · intro c K hc ⟨f1, f2, f3⟩
      left
      have h1 : ¬ n ≤ c := by omega
      have h2 : ¬ 25 ≤ c := by omega
      have hc4 : K 9 p 4 = nI n := f3.2.1.trans ((if_pos rfl).trans hn)
      obtain ⟨a0, a1, a2, a3⟩ := f3.1 c (by omega)
      simp only [Nat.lt_irrefl, if_false, show ¬ (0 = 4) by decide, show ¬ (1 = 4) by decide, show ¬ (2 = 4) by decide, show ¬ (3 = 4) by decide] at a0 a1 a2 a3
      have e32 := (f2 c hc).trans (hfl c hc)
      rw [s21_49]
      by_cases b1 : P 1 c ≤ 0
      · refine ⟨_, by simp (disch := first | omega | assumption) only [s21_0, s21_1, s21_2, s21_3, s21_4, s21_7, s21_10, s21_11, s21_13, s21_16, s21_17, s21_20, s21_21, s21_22, s21_25, s21_26, s21_27, s21_30, s21_31, s21_32, s21_33, s21_36, s21_39, s21_40, s21_41, s21_44, s21_47, s21_48, s21_50, s21_51, s21_54, s21_57, s21_58, s21_60, s21_63, s21_64, s21_67, s21_68, s21_69, s21_72, s21_73, s21_76, s21_77, s21_78, s21_79, s21_82, s21_83, s21_84, s21_85, s21_86, s21_89, s21_90, s21_91, s21_94, s21_95, s21_98, s21_99, s21_102, s21_103, s21_106, s21_107, s21_108, s21_109, s21_112, s21_113, s21_114, s21_115, s21_118, s21_119, s21_120, s21_121, s21_124, s21_125, s21_128, s21_131, nI_le2, nI_lt2, nI_eq2, nI_lt0, nI_0le, nI_0lt, nI_le0, nI_eq0, nI_clamp, nI_add, bu_nI, bb_0, bb_1, rf_s, rf_n, tl_s, tl_n, am_th_some, if_true, if_false, sI_eq, uI_eq, and_self, true_and, and_true, not_false_eq_true, k0, k2, p1, p2, hc4, h1, h2, a1, a2, b1, e32] <;> rfl, fr_f f1 (fun _ => Or.inr ⟨by omega, rfl⟩), fun j hj => (congrFun (sI_na (by decide)) j).trans (f2 j hj), pl_congr (pl_u2 f3 c _) fun a j hj => ?_⟩
        by_cases e1 : j = c
        · subst e1
          by_cases e2 : a = 2
          · subst e2; rw [up_eq, if_neg (show ¬ (2 = 4) by decide), if_pos (Nat.lt_succ_self _), sp_spread, if_pos hc, if_pos b1, if_pos rfl]
          · rw [up_na e2]
            by_cases e4 : a = 4
            · rw [if_pos e4, if_pos e4]
            · rw [if_neg e4, if_neg (Nat.lt_irrefl _), if_neg e4, if_pos (Nat.lt_succ_self _), sp_spread, if_pos hc, if_pos b1, if_neg e2]
        · rw [up_nc e1]
          by_cases e2 : j < c
          · rw [if_pos e2, if_pos (show j < c + 1 by omega)]
          · rw [if_neg e2, if_neg (show ¬ j < c + 1 by omega)]
      · refine ⟨_, by simp (disch := first | omega | assumption) only [s21_0, s21_1, s21_2, s21_3, s21_4, s21_7, s21_10, s21_11, s21_13, s21_16, s21_17, s21_20, s21_21, s21_22, s21_25, s21_26, s21_27, s21_30, s21_31, s21_32, s21_33, s21_36, s21_39, s21_40, s21_41, s21_44, s21_47, s21_48, s21_50, s21_51, s21_54, s21_57, s21_58, s21_60, s21_63, s21_64, s21_67, s21_68, s21_69, s21_72, s21_73, s21_76, s21_77, s21_78, s21_79, s21_82, s21_83, s21_84, s21_85, s21_86, s21_89, s21_90, s21_91, s21_94, s21_95, s21_98, s21_99, s21_102, s21_103, s21_106, s21_107, s21_108, s21_109, s21_112, s21_113, s21_114, s21_115, s21_118, s21_119, s21_120, s21_121, s21_124, s21_125, s21_128, s21_131, nI_le2, nI_lt2, nI_eq2, nI_lt0, nI_0le, nI_0lt, nI_le0, nI_eq0, nI_clamp, nI_add, bu_nI, bb_0, bb_1, rf_s, rf_n, tl_s, tl_n, am_th_some, if_true, if_false, sI_eq, uI_eq, and_self, true_and, and_true, not_false_eq_true, k0, k2, p1, p2, hc4, h1, h2, a1, a2, b1, e32] <;> rfl, fr_f f1 (fun _ => Or.inr ⟨by omega, rfl⟩), fun j hj => (congrFun (sI_na (by decide)) j).trans (f2 j hj), pl_congr (pl_u1 f3 c _) fun a j hj => ?_⟩
        by_cases e1 : j = c
        · subst e1
          by_cases e2 : a = 1
          · subst e2; rw [up_eq, if_neg (show ¬ (1 = 4) by decide), if_pos (Nat.lt_succ_self _), sp_spread, if_pos hc, if_neg b1, if_pos rfl]
          · rw [up_na e2]
            by_cases e4 : a = 4
            · rw [if_pos e4, if_pos e4]
            · rw [if_neg e4, if_neg (Nat.lt_irrefl _), if_neg e4, if_pos (Nat.lt_succ_self _), sp_spread, if_pos hc, if_neg b1, if_neg e2]
        · rw [up_nc e1]
          by_cases e2 : j < c
          · rw [if_pos e2, if_pos (show j < c + 1 by omega)]
          · rw [if_neg e2, if_neg (show ¬ j < c + 1 by omega)]
    · intro K ⟨f1, f2, f3⟩
      have hc4 : K 9 p 4 = nI n := f3.2.1.trans ((if_pos rfl).trans hn)
      refine ⟨K, ?_, f1, pl_congr f3 fun a j hj => ?_⟩
      · rw [s21_49]
        simp (disch := first | omega | assumption) only [s21_0, s21_1, s21_2, s21_3, s21_4, s21_7, s21_10, s21_11, s21_13, s21_16, s21_17, s21_20, s21_21, s21_22, s21_25, s21_26, s21_27, s21_30, s21_31, s21_32, s21_33, s21_36, s21_39, s21_40, s21_41, s21_44, s21_47, s21_48, s21_50, s21_51, s21_54, s21_57, s21_58, s21_60, s21_63, s21_64, s21_67, s21_68, s21_69, s21_72, s21_73, s21_76, s21_77, s21_78, s21_79, s21_82, s21_83, s21_84, s21_85, s21_86, s21_89, s21_90, s21_91, s21_94, s21_95, s21_98, s21_99, s21_102, s21_103, s21_106, s21_107, s21_108, s21_109, s21_112, s21_113, s21_114, s21_115, s21_118, s21_119, s21_120, s21_121, s21_124, s21_125, s21_128, s21_131, nI_le2, nI_lt2, nI_eq2, nI_lt0, nI_0le, nI_0lt, nI_le0, nI_eq0, nI_clamp, nI_add, bu_nI, bb_0, bb_1, rf_s, rf_n, tl_s, tl_n, am_th_some, if_true, if_false, sI_eq, uI_eq, and_self, true_and, and_true, not_false_eq_true, hc4, Nat.le_refl]
      · by_cases e4 : a = 4
        · rw [if_pos e4, if_pos e4]
        · rw [if_neg e4, if_neg e4]
          by_cases e2 : j < n
          · rw [if_pos e2]
          · rw [if_neg e2, sp_spread, if_neg e2]
  have loop1 : ∃ K, am_ev (d + 2) 21 2 [.ref (am_mk 2 0), .ref (am_mk 9 p), .int (nI 0)] [] I R Q = some (none, K, R, Q) ∧ am_fr (kk_S p) I K ∧ pp_at K p (fun a j => if a = 4 then P a j else sp_spread B (I 14 u 3) n P a j) := by
    refine loop_inv (f := fun K c => am_ev (d + 2) 21 2 [.ref (am_mk 2 0), .ref (am_mk 9 p), .int (nI c)] [] K R Q) (Inv := fun c K => am_fr (fun a _ _ => a = 32) I K ∧ ∀ j, j < c → K 32 0 j = if P 0 j ≤ 0 then nI 0 else sp_flow B (I 14 u 3) P j) (Post := fun y => ∃ K, y = some (none, K, R, Q) ∧ am_fr (kk_S p) I K ∧ pp_at K p (fun a j => if a = 4 then P a j else sp_spread B (I 14 u 3) n P a j)) (n := n) ?_ ?_ (Nat.zero_le _) ⟨fr_rf, fun j hj => absurd hj (Nat.not_lt_zero _)⟩
    · intro c K hc ⟨f1, f2⟩
      left
      obtain ⟨g1, g2, g3⟩ := hS f1
      have h1 : ¬ n ≤ c := by omega
      have h2 : ¬ 25 ≤ c := by omega
      have hc4 : K 9 p 4 = nI n := g1.2.1.trans hn
      obtain ⟨a0, a1, a2, a3⟩ := g1.1 c (by omega)
      have hw := c_flowTo (d := d) (Q := Q) hk2 hp2 g1 hn hn2 g2 hc
      rw [g3] at hw
      rw [s21_2]
      have fin : ∀ x, (x = if P 0 c ≤ 0 then nI 0 else sp_flow B (I 14 u 3) P c) → ∀ j, j < c + 1 → am_sI K 32 0 (am_uI (K 32 0) c x) 32 0 j = if P 0 j ≤ 0 then nI 0 else sp_flow B (I 14 u 3) P j := by
        intro x hx j hj
        rw [sI_eq]
        by_cases e : j = c
        · subst e; rw [uI_eq, hx]
        · rw [uI_ne e, f2 j (by omega)]
      by_cases b0 : P 0 c ≤ 0
      · refine ⟨_, by simp (disch := first | omega | assumption) only [s21_0, s21_1, s21_3, s21_4, s21_7, s21_10, s21_11, s21_13, s21_16, s21_17, s21_20, s21_21, s21_22, s21_25, s21_26, s21_27, s21_30, s21_31, s21_32, s21_33, s21_36, s21_39, s21_40, s21_41, s21_44, s21_47, s21_48, s21_50, s21_51, s21_54, s21_57, s21_58, s21_60, s21_63, s21_64, s21_67, s21_68, s21_69, s21_72, s21_73, s21_76, s21_77, s21_78, s21_79, s21_82, s21_83, s21_84, s21_85, s21_86, s21_89, s21_90, s21_91, s21_94, s21_95, s21_98, s21_99, s21_102, s21_103, s21_106, s21_107, s21_108, s21_109, s21_112, s21_113, s21_114, s21_115, s21_118, s21_119, s21_120, s21_121, s21_124, s21_125, s21_128, s21_131, nI_le2, nI_lt2, nI_eq2, nI_lt0, nI_0le, nI_0lt, nI_le0, nI_eq0, nI_clamp, nI_add, bu_nI, bb_0, bb_1, rf_s, rf_n, tl_s, tl_n, am_th_some, if_true, if_false, sI_eq, uI_eq, and_self, true_and, and_true, not_false_eq_true, k2, p0, hc4, h1, h2, a0, b0] <;> rfl, fr_f f1 (fun _ => rfl), fin _ (by rw [if_pos b0])⟩
      · refine ⟨_, by simp (disch := first | omega | assumption) only [s21_0, s21_1, s21_3, s21_4, s21_7, s21_10, s21_11, s21_13, s21_16, s21_17, s21_20, s21_21, s21_22, s21_25, s21_26, s21_27, s21_30, s21_31, s21_32, s21_33, s21_36, s21_39, s21_40, s21_41, s21_44, s21_47, s21_48, s21_50, s21_51, s21_54, s21_57, s21_58, s21_60, s21_63, s21_64, s21_67, s21_68, s21_69, s21_72, s21_73, s21_76, s21_77, s21_78, s21_79, s21_82, s21_83, s21_84, s21_85, s21_86, s21_89, s21_90, s21_91, s21_94, s21_95, s21_98, s21_99, s21_102, s21_103, s21_106, s21_107, s21_108, s21_109, s21_112, s21_113, s21_114, s21_115, s21_118, s21_119, s21_120, s21_121, s21_124, s21_125, s21_128, s21_131, nI_le2, nI_lt2, nI_eq2, nI_lt0, nI_0le, nI_0lt, nI_le0, nI_eq0, nI_clamp, nI_add, bu_nI, bb_0, bb_1, rf_s, rf_n, tl_s, tl_n, am_th_some, if_true, if_false, sI_eq, uI_eq, and_self, true_and, and_true, not_false_eq_true, k2, p0, hc4, h1, h2, a0, b0, hw] <;> rfl, fr_f f1 (fun _ => rfl), fin _ (by rw [if_neg b0])⟩
    · intro K ⟨f1, f2⟩
      obtain ⟨g1, g2, g3⟩ := hS f1
      have hc4 : K 9 p 4 = nI n := g1.2.1.trans hn
      rw [s21_2]
      simp (disch := first | omega | assumption) only [s21_0, s21_1, s21_3, s21_4, s21_7, s21_10, s21_11, s21_13, s21_16, s21_17, s21_20, s21_21, s21_22, s21_25, s21_26, s21_27, s21_30, s21_31, s21_32, s21_33, s21_36, s21_39, s21_40, s21_41, s21_44, s21_47, s21_48, s21_50, s21_51, s21_54, s21_57, s21_58, s21_60, s21_63, s21_64, s21_67, s21_68, s21_69, s21_72, s21_73, s21_76, s21_77, s21_78, s21_79, s21_82, s21_83, s21_84, s21_85, s21_86, s21_89, s21_90, s21_91, s21_94, s21_95, s21_98, s21_99, s21_102, s21_103, s21_106, s21_107, s21_108, s21_109, s21_112, s21_113, s21_114, s21_115, s21_118, s21_119, s21_120, s21_121, s21_124, s21_125, s21_128, s21_131, nI_le2, nI_lt2, nI_eq2, nI_lt0, nI_0le, nI_0lt, nI_le0, nI_eq0, nI_clamp, nI_add, bu_nI, bb_0, bb_1, rf_s, rf_n, tl_s, tl_n, am_th_some, if_true, if_false, sI_eq, uI_eq, and_self, true_and, and_true, not_false_eq_true, hc4, Nat.le_refl]
      exact loop2 K f1 f2
  obtain ⟨K, g⟩ := loop1
  refine ⟨K, ?_, g.2⟩
  rw [s21]
  simp (disch := first | omega | assumption) only [s21_0, s21_1, s21_3, s21_4, s21_7, s21_10, s21_11, s21_13, s21_16, s21_17, s21_20, s21_21, s21_22, s21_25, s21_26, s21_27, s21_30, s21_31, s21_32, s21_33, s21_36, s21_39, s21_40, s21_41, s21_44, s21_47, s21_48, s21_50, s21_51, s21_54, s21_57, s21_58, s21_60, s21_63, s21_64, s21_67, s21_68, s21_69, s21_72, s21_73, s21_76, s21_77, s21_78, s21_79, s21_82, s21_83, s21_84, s21_85, s21_86, s21_89, s21_90, s21_91, s21_94, s21_95, s21_98, s21_99, s21_102, s21_103, s21_106, s21_107, s21_108, s21_109, s21_112, s21_113, s21_114, s21_115, s21_118, s21_119, s21_120, s21_121, s21_124, s21_125, s21_128, s21_131, nI_le2, nI_lt2, nI_eq2, nI_lt0, nI_0le, nI_0lt, nI_le0, nI_eq0, nI_clamp, nI_add, bu_nI, bb_0, bb_1, rf_s, rf_n, tl_s, tl_n, am_th_some, if_true, if_false, sI_eq, uI_eq, and_self, true_and, and_true, not_false_eq_true]
  exact g.1
end
