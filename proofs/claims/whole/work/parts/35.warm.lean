/-! The class Kitchen: what bursts, what FOOD gets, a whole TEN. -/
section
variable {d p u n k : Nat} {I : am_I} {R : am_R} {Q : am_Q} {P : Nat → Nat → Int32} {B : Nat → Nat → Int32}
abbrev sp_bt (bs : Int32) (P : Nat → Nat → Int32) (j : Nat) : Prop := ¬ P 0 j ≤ 0 ∧ ¬ P 2 j < bs
def sp_burst (bs : Int32) (n : Nat) (P : Nat → Nat → Int32) : Nat → Nat → Int32 := fun a j => if a = 4 then P a j else if j < n ∧ sp_bt bs P j then (if a = 3 then nI 1 else if a = 2 then bs - nI 10 else P a j) else P a j
def sp_bursts (bs : Int32) (n : Nat) (P : Nat → Nat → Int32) : Int32 := am_fold (fun a c => if sp_bt bs P c then a + nI 1 else a) (nI 0) n
theorem c_burst (hk : kk_R R u) (hp : pp_R R p) (hP : pp_at I p P) (hn : P 4 0 = nI n) (hn2 : n ≤ 25) : ∃ J, am_cal d 23 [.ref (am_mk 2 0), .ref (am_mk 9 p)] I R Q = some (some (.int (sp_bursts (I 14 u 4) n P)), J, R, Q) ∧ am_fr (kk_S p) I J ∧ pp_at J p (sp_burst (I 14 u 4) n P) := by
  obtain ⟨k0, k1, k2, k3, k4, k5⟩ := hk
  obtain ⟨p0, p1, p2, p3⟩ := hp
  have loop : ∃ J, am_ev d 23 4 [.ref (am_mk 2 0), .ref (am_mk 9 p), .int (nI 0), .int (nI 0)] [] I R Q = some (some (.int (sp_bursts (I 14 u 4) n P)), J, R, Q) ∧ am_fr (kk_S p) I J ∧ pp_at J p (sp_burst (I 14 u 4) n P) := by
    refine loop_inv (f := fun (a : am_I × Int32) c => am_ev d 23 4 [.ref (am_mk 2 0), .ref (am_mk 9 p), .int a.2, .int (nI c)] [] a.1 R Q) (Inv := fun c a => a.2 = am_fold (fun a c => if sp_bt (I 14 u 4) P c then a + nI 1 else a) (nI 0) c ∧ am_fr (kk_S p) I a.1 ∧ pp_at a.1 p (fun a j => if a = 4 then P a j else if j < c then sp_burst (I 14 u 4) n P a j else P a j)) (Post := fun y => ∃ J, y = some (some (.int (sp_bursts (I 14 u 4) n P)), J, R, Q) ∧ am_fr (kk_S p) I J ∧ pp_at J p (sp_burst (I 14 u 4) n P)) (n := n) ?_ ?_ (Nat.zero_le _) (a := (I, nI 0)) ⟨rfl, fr_rf, pl_congr hP (fun a j _ => by simp)⟩
    · intro c ⟨K, x⟩ hc ⟨f0, f1, f3⟩
      left
      have f0 : x = am_fold (fun a c => if sp_bt (I 14 u 4) P c then a + nI 1 else a) (nI 0) c := f0
      have h1 : ¬ n ≤ c := by omega
      have h2 : ¬ 25 ≤ c := by omega
      have hc4 : K 9 p 4 = nI n := f3.2.1.trans ((if_pos rfl).trans hn)
      have h14 : K 14 u 4 = I 14 u 4 := f1 _ _ _ (fun w => by rcases w with w | w <;> omega)
      have e4 : am_bu (nI 4) 6 = True := bu_nI (by decide)
      obtain ⟨a0, a1, a2, a3⟩ := f3.1 c (by omega)
      simp only [Nat.lt_irrefl, if_false, show ¬ (0 = 4) by decide, show ¬ (1 = 4) by decide, show ¬ (2 = 4) by decide, show ¬ (3 = 4) by decide] at a0 a1 a2 a3
      rw [s23_4]
      have same : ¬ sp_bt (I 14 u 4) P c → pp_at K p (fun a j => if a = 4 then P a j else if j < c + 1 then sp_burst (I 14 u 4) n P a j else P a j) := fun hb => pl_congr f3 fun a j hj => by
        by_cases e4 : a = 4
        · rw [if_pos e4, if_pos e4]
        · rw [if_neg e4, if_neg e4]
          by_cases e1 : j = c
          · subst e1
            rw [if_neg (Nat.lt_irrefl _), if_pos (Nat.lt_succ_self _), sp_burst, if_neg e4, if_neg (fun w => hb w.2)]
          · by_cases e2 : j < c
            · rw [if_pos e2, if_pos (show j < c + 1 by omega)]
            · rw [if_neg e2, if_neg (show ¬ j < c + 1 by omega)]
      by_cases b0 : P 0 c ≤ 0
      · refine ⟨(K, x), ?_, ?_, f1, same (fun w => w.1 b0)⟩
        · simp (disch := first | omega | assumption) only [s23_0, s23_1, s23_2, s23_3, s23_5, s23_6, s23_9, s23_12, s23_13, s23_15, s23_18, s23_19, s23_22, s23_23, s23_24, s23_27, s23_28, s23_31, s23_32, s23_33, s23_34, s23_37, s23_40, s23_41, s23_42, s23_45, s23_46, s23_49, s23_50, s23_51, s23_52, s23_53, s23_56, s23_57, s23_58, s23_61, s23_64, s23_65, s23_66, s23_68, s23_69, s23_70, s23_73, s23_76, s23_79, s23_80, nI_le2, nI_lt2, nI_eq2, nI_lt0, nI_0le, nI_0lt, nI_le0, nI_eq0, nI_clamp, nI_add, bu_nI, bb_0, bb_1, rf_s, rf_n, tl_s, tl_n, am_th_some, if_true, if_false, sI_eq, uI_eq, and_self, true_and, and_true, not_false_eq_true, p0, hc4, h1, h2, a0, b0]
        · rw [fold_s, if_neg (fun w => w.1 b0), ← f0]
      · by_cases b1 : P 2 c < I 14 u 4
        · refine ⟨(K, x), ?_, ?_, f1, same (fun w => w.2 b1)⟩
          · simp (disch := first | omega | assumption) only [s23_0, s23_1, s23_2, s23_3, s23_5, s23_6, s23_9, s23_12, s23_13, s23_15, s23_18, s23_19, s23_22, s23_23, s23_24, s23_27, s23_28, s23_31, s23_32, s23_33, s23_34, s23_37, s23_40, s23_41, s23_42, s23_45, s23_46, s23_49, s23_50, s23_51, s23_52, s23_53, s23_56, s23_57, s23_58, s23_61, s23_64, s23_65, s23_66, s23_68, s23_69, s23_70, s23_73, s23_76, s23_79, s23_80, nI_le2, nI_lt2, nI_eq2, nI_lt0, nI_0le, nI_0lt, nI_le0, nI_eq0, nI_clamp, nI_add, bu_nI, bb_0, bb_1, rf_s, rf_n, tl_s, tl_n, am_th_some, if_true, if_false, sI_eq, uI_eq, and_self, true_and, and_true, not_false_eq_true, k0, k3, p0, p2, hc4, h1, h2, h14, e4, a0, a2, b0, b1]
          · rw [fold_s, if_neg (fun w => w.2 b1), ← f0]
        · have h14b : ∀ f, am_sI K 22 p f 14 u 4 = I 14 u 4 := fun f => (congrFun (sI_na (by decide)) 4).trans h14
          refine ⟨(_, x + nI 1), by simp (disch := first | omega | assumption) only [s23_0, s23_1, s23_2, s23_3, s23_5, s23_6, s23_9, s23_12, s23_13, s23_15, s23_18, s23_19, s23_22, s23_23, s23_24, s23_27, s23_28, s23_31, s23_32, s23_33, s23_34, s23_37, s23_40, s23_41, s23_42, s23_45, s23_46, s23_49, s23_50, s23_51, s23_52, s23_53, s23_56, s23_57, s23_58, s23_61, s23_64, s23_65, s23_66, s23_68, s23_69, s23_70, s23_73, s23_76, s23_79, s23_80, nI_le2, nI_lt2, nI_eq2, nI_lt0, nI_0le, nI_0lt, nI_le0, nI_eq0, nI_clamp, nI_add, bu_nI, bb_0, bb_1, rf_s, rf_n, tl_s, tl_n, am_th_some, if_true, if_false, sI_eq, uI_eq, and_self, true_and, and_true, not_false_eq_true, k0, k3, p0, p2, p3, hc4, h1, h2, h14, h14b, e4, a0, a2, b0, b1] <;> rfl, ?_, ?_, ?_⟩
          · rw [fold_s, if_pos ⟨b0, b1⟩, ← f0]
          · exact fr_f (fr_f f1 (fun _ => Or.inr ⟨by omega, rfl⟩)) (fun _ => Or.inr ⟨by omega, rfl⟩)
          · refine pl_congr (pl_u2 (pl_u3 f3 c (nI 1)) c (I 14 u 4 - nI 10)) fun a j hj => ?_
            by_cases e4 : a = 4
            · subst e4; rw [up_na (by decide), up_na (by decide), if_pos rfl, if_pos rfl]
            · by_cases e1 : j = c
              · subst e1
                rw [if_neg e4, if_pos (Nat.lt_succ_self _), sp_burst, if_neg e4, if_pos ⟨hc, b0, b1⟩]
                by_cases e2 : a = 2
                · subst e2; rw [up_eq, if_neg (by decide), if_pos rfl]
                · rw [up_na e2]
                  by_cases e3 : a = 3
                  · subst e3; rw [up_eq, if_pos rfl]
                  · rw [up_na e3, if_neg e3, if_neg e2, if_neg e4, if_neg (Nat.lt_irrefl _)]
              · rw [up_nc e1, up_nc e1, if_neg e4, if_neg e4]
                by_cases e2 : j < c
                · rw [if_pos e2, if_pos (show j < c + 1 by omega)]
                · rw [if_neg e2, if_neg (show ¬ j < c + 1 by omega)]
    · intro ⟨K, x⟩ ⟨f0, f1, f3⟩
      have f0 : x = am_fold (fun a c => if sp_bt (I 14 u 4) P c then a + nI 1 else a) (nI 0) n := f0
      have hc4 : K 9 p 4 = nI n := f3.2.1.trans ((if_pos rfl).trans hn)
      refine ⟨K, ?_, f1, pl_congr f3 fun a j hj => ?_⟩
      · rw [s23_4]
        simp (disch := first | omega | assumption) only [s23_0, s23_1, s23_2, s23_3, s23_5, s23_6, s23_9, s23_12, s23_13, s23_15, s23_18, s23_19, s23_22, s23_23, s23_24, s23_27, s23_28, s23_31, s23_32, s23_33, s23_34, s23_37, s23_40, s23_41, s23_42, s23_45, s23_46, s23_49, s23_50, s23_51, s23_52, s23_53, s23_56, s23_57, s23_58, s23_61, s23_64, s23_65, s23_66, s23_68, s23_69, s23_70, s23_73, s23_76, s23_79, s23_80, nI_le2, nI_lt2, nI_eq2, nI_lt0, nI_0le, nI_0lt, nI_le0, nI_eq0, nI_clamp, nI_add, bu_nI, bb_0, bb_1, rf_s, rf_n, tl_s, tl_n, am_th_some, if_true, if_false, sI_eq, uI_eq, and_self, true_and, and_true, not_false_eq_true, hc4, Nat.le_refl]
        rw [f0]
        rfl
      · by_cases e4 : a = 4
        · rw [if_pos e4, sp_burst, if_pos e4]
        · rw [if_neg e4]
          by_cases e2 : j < n
          · rw [if_pos e2]
          · rw [if_neg e2, sp_burst, if_neg e4, if_neg (fun w => e2 w.1)]
  obtain ⟨J, g⟩ := loop
  refine ⟨J, ?_, g.2⟩
  rw [s23]
  simp (disch := first | omega | assumption) only [s23_0, s23_1, s23_2, s23_3, s23_5, s23_6, s23_9, s23_12, s23_13, s23_15, s23_18, s23_19, s23_22, s23_23, s23_24, s23_27, s23_28, s23_31, s23_32, s23_33, s23_34, s23_37, s23_40, s23_41, s23_42, s23_45, s23_46, s23_49, s23_50, s23_51, s23_52, s23_53, s23_56, s23_57, s23_58, s23_61, s23_64, s23_65, s23_66, s23_68, s23_69, s23_70, s23_73, s23_76, s23_79, s23_80, nI_le2, nI_lt2, nI_eq2, nI_lt0, nI_0le, nI_0lt, nI_le0, nI_eq0, nI_clamp, nI_add, bu_nI, bb_0, bb_1, rf_s, rf_n, tl_s, tl_n, am_th_some, if_true, if_false, sI_eq, uI_eq, and_self, true_and, and_true, not_false_eq_true]
  exact g.1
end
