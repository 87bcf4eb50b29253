/-! What is found apart, on TENS that are only told: the class Ahead. -/
abbrev pl_T : Type := Int32 → (Nat → Nat → Int32) → (Nat → Nat → Int32) × Int32
/-- all but what the OVEN, the shares, what is beside, the LAWS are -/
def ev_S : Nat → Nat → Nat → Prop := fun a _ j => ¬ (a = 6 ∨ a = 14 ∨ a = 15 ∨ a = 16 ∨ a = 27 ∨ a = 101 ∨ (a = 3 ∧ ¬ j = 3))
/-- a TEN of the class is T -/
def cT (T : pl_T) (n b : Nat) (R : am_R) (Q : am_Q) (I : am_I) : Prop := ∀ (d : Nat) (J : am_I) (p m q : Nat) (P : Nat → Nat → Int32), am_fr ev_S I J → p < 54 → pp_at J p P → pt_I n b m P → m < 2 ^ 29 → q ≤ 9 → ∃ K, am_cal (d + 8) 18 [.ref (am_mk 2 0), .ref (am_mk 9 p), .int (nI q)] J R Q = some (some (.int (T (nI q) P).2), K, R, Q) ∧ am_fr (kk_S p) J K ∧ pp_at K p (T (nI q) P).1
/-- what a TEN keeps -/
def kT (T : pl_T) (n b : Nat) : Prop := ∀ (m q : Nat) (P : Nat → Nat → Int32), pt_I n b m P → pt_I n b (m + 1) (T (nI q) P).1 ∧ ∃ u, u ≤ 25 ∧ (T (nI q) P).2 = nI u
theorem cT_fr {T : pl_T} {n b : Nat} {R : am_R} {Q : am_Q} {I J : am_I} (h : cT T n b R Q I) (hf : am_fr ev_S I J) : cT T n b R Q J := fun d K p m q P hK => h d K p m q P (fr_tr hf hK)
def aa_R (R : am_R) (u : Nat) : Prop := R 1 0 0 = some (am_mk 2 0) ∧ R 1 0 1 = some (am_mk 9 2) ∧ R 1 0 2 = some (am_mk 33 0) ∧ (∀ k, k < 9 → R 33 0 k = some (am_mk 9 (3 + k))) ∧ (∀ p, p < 54 → pp_R R p) ∧ kk_R R u
/-- where Ahead works -/
def ah_S : Nat → Nat → Nat → Prop := fun a b j => (a = 31 ∨ a = 32 ∨ (a = 3 ∧ j = 3) ∨ a = 28) ∨ ((a = 9 ∨ a = 19 ∨ a = 20 ∨ a = 21 ∨ a = 22) ∧ 2 ≤ b ∧ b ≤ 11) ∨ (a = 1 ∧ (j = 3 ∨ j = 4))
theorem ah_ev : ∀ a b j, ah_S a b j → ev_S a b j := fun a b j h => by unfold ah_S at h; unfold ev_S; omega
theorem pS_ah {p : Nat} (h1 : 2 ≤ p) (h2 : p ≤ 11) : ∀ a b j, pp_S p a b j → ah_S a b j := fun a b j h => by unfold pp_S at h; unfold ah_S; omega
theorem kS_ah {p : Nat} (h1 : 2 ≤ p) (h2 : p ≤ 11) : ∀ a b j, kk_S p a b j → ah_S a b j := fun a b j h => by unfold kk_S at h; unfold ah_S; omega
def sp_it (T : pl_T) (pw : Int32) (P : Nat → Nat → Int32) (n : Nat) : Nat → Nat → Int32 := am_fold (fun X _ => (T pw X).1) P n
def sp_first (p : Nat → Prop) [∀ k, Decidable (p k)] (N : Nat) : Int32 := am_fold (fun a k => if a = -nI 1 ∧ p k then nI k else a) (-nI 1) N
theorem first_no {p : Nat → Prop} [∀ k, Decidable (p k)] {N : Nat} (h : ∀ k, k < N → ¬ p k) : sp_first p N = -nI 1 := by
  induction N with
  | zero => rfl
  | succ N ih => rw [sp_first, fold_s, show am_fold _ (-nI 1) N = -nI 1 from ih fun k hk => h k (by omega), if_neg (fun q => h N (by omega) q.2)]
theorem first_yes {p : Nat → Prop} [∀ k, Decidable (p k)] {N k : Nat} (hk : k < N) (hN : N < 2 ^ 31) (h : ∀ j, j < k → ¬ p j) (hp : p k) : sp_first p N = nI k := by
  obtain ⟨m, rfl⟩ := Nat.exists_eq_add_of_le (show k + 1 ≤ N by omega)
  induction m with
  | zero => rw [sp_first, Nat.add_zero, fold_s, show am_fold _ (-nI 1) k = -nI 1 from first_no h, if_pos ⟨rfl, hp⟩]
  | succ m ih => rw [sp_first, show k + 1 + (m + 1) = k + 1 + m + 1 from rfl, fold_s, show am_fold _ (-nI 1) (k + 1 + m) = nI k from ih (by omega) (by omega), if_neg (fun q => m1_ne (by omega) q.1)]
theorem it_I {T : pl_T} {n b m q : Nat} {P : Nat → Nat → Int32} (hk : kT T n b) (h : pt_I n b m P) : ∀ c, pt_I n b (m + c) (sp_it T (nI q) P c) := by
  intro c
  induction c with
  | zero => exact h
  | succ c ih => exact (hk _ q _ ih).1
section
variable {d n b m u q : Nat} {I : am_I} {R : am_R} {Q : am_Q} {P : Nat → Nat → Int32} {T : pl_T}
theorem pt_bb (h : pt_I n b m P) : am_bb (P 4 2) := by
  rcases h.2.1 with e | e
  · rw [e]; exact of_eq_true bb_0
  · rw [e]; exact of_eq_true bb_1
theorem c_behind (hr : aa_R R u) (hT : cT T n b R Q I) (hk : kT T n b) (hI : pt_I n b m P) (hm : m < 2 ^ 28) (hq : q ≤ 9) {p c : Nat} (hp : p < 54) (hp2 : ¬ p = 2) (hP : pp_at I p P) (hc : c ≤ 60) : ∃ J, am_cal (d + 9) 5 [.ref (am_mk 1 0), .ref (am_mk 9 p), .int (nI c), .int (nI q)] I R Q = some (some (.ref (am_mk 9 2)), J, R, Q) ∧ am_fr ah_S I J ∧ pp_at J 2 (sp_it T (nI q) P c) := by
  obtain ⟨r0, r1, r2, r3, r4, r5⟩ := hr
  obtain ⟨J0, a1, a2, a3⟩ := c_become (d := d + 8) (Q := Q) (r4 p hp) (r4 2 (by decide)) hp2 hP (pt_bb hI)
  have loop : ∃ J, am_ev (d + 9) 5 11 [.ref (am_mk 1 0), .ref (am_mk 9 p), .int (nI c), .int (nI q), .int (nI 0)] [] J0 R Q = some (some (.ref (am_mk 9 2)), J, R, Q) ∧ am_fr ah_S I J ∧ pp_at J 2 (sp_it T (nI q) P c) := by
    refine loop_inv (f := fun J k => am_ev (d + 9) 5 11 [.ref (am_mk 1 0), .ref (am_mk 9 p), .int (nI c), .int (nI q), .int (nI k)] [] J R Q) (Inv := fun k J => am_fr ah_S I J ∧ pp_at J 2 (sp_it T (nI q) P k)) (Post := fun y => ∃ J, y = some (some (.ref (am_mk 9 2)), J, R, Q) ∧ am_fr ah_S I J ∧ pp_at J 2 (sp_it T (nI q) P c)) (n := c) ?_ ?_ (Nat.zero_le _) ⟨fr_mo a2 (pS_ah (by decide) (by decide)), a3⟩
    · intro k J hkc ⟨f1, f2⟩
      left
      have h1 : ¬ c ≤ k := by omega
      have h2 : ¬ 60 ≤ k := by omega
      obtain ⟨K, g1, g2, g3⟩ := hT d J 2 (m + k) q _ (fr_mo f1 ah_ev) (by decide) f2 (it_I hk hI k) (by omega) hq
      refine ⟨K, ?_, fr_x f1 g2 (kS_ah (by decide) (by decide)), g3⟩
      rw [s5_11]
      simp (disch := first | omega | assumption) only [s5_0, s5_1, s5_4, s5_5, s5_8, s5_9, s5_13, s5_14, s5_17, s5_19, s5_21, s5_24, s5_25, s5_28, s5_29, s5_32, s5_33, s5_36, s5_37, s5_40, s5_43, s5_44, s5_47, nI_le2, nI_lt2, nI_eq2, nI_lt0, nI_0le, nI_0lt, nI_le0, nI_eq0, nI_clamp, nI_add, bu_nI, bb_0, bb_1, rf_s, rf_n, tl_s, tl_n, am_th_some, if_true, if_false, sI_eq, uI_eq, and_self, true_and, and_true, not_false_eq_true, not_true_eq_false, Nat.reduceEqDiff, Nat.reduceLeDiff, Nat.reduceLT, Nat.reduceAdd, Nat.reduceMul, Nat.reduceSub, Nat.zero_add, h1, h2, r0, r1, g1]
    · intro J ⟨f1, f2⟩
      refine ⟨J, ?_, f1, f2⟩
      rw [s5_11]
      simp (disch := first | omega | assumption) only [s5_0, s5_1, s5_4, s5_5, s5_8, s5_9, s5_13, s5_14, s5_17, s5_19, s5_21, s5_24, s5_25, s5_28, s5_29, s5_32, s5_33, s5_36, s5_37, s5_40, s5_43, s5_44, s5_47, nI_le2, nI_lt2, nI_eq2, nI_lt0, nI_0le, nI_0lt, nI_le0, nI_eq0, nI_clamp, nI_add, bu_nI, bb_0, bb_1, rf_s, rf_n, tl_s, tl_n, am_th_some, if_true, if_false, sI_eq, uI_eq, and_self, true_and, and_true, not_false_eq_true, not_true_eq_false, Nat.reduceEqDiff, Nat.reduceLeDiff, Nat.reduceLT, Nat.reduceAdd, Nat.reduceMul, Nat.reduceSub, Nat.zero_add, Nat.le_refl, r1]
  obtain ⟨J, g1, g2⟩ := loop
  refine ⟨J, ?_, g2⟩
  rw [s5]
  simp (disch := first | omega | assumption) only [s5_0, s5_1, s5_4, s5_5, s5_8, s5_9, s5_13, s5_14, s5_17, s5_19, s5_21, s5_24, s5_25, s5_28, s5_29, s5_32, s5_33, s5_36, s5_37, s5_40, s5_43, s5_44, s5_47, nI_le2, nI_lt2, nI_eq2, nI_lt0, nI_0le, nI_0lt, nI_le0, nI_eq0, nI_clamp, nI_add, bu_nI, bb_0, bb_1, rf_s, rf_n, tl_s, tl_n, am_th_some, if_true, if_false, sI_eq, uI_eq, and_self, true_and, and_true, not_false_eq_true, not_true_eq_false, Nat.reduceEqDiff, Nat.reduceLeDiff, Nat.reduceLT, Nat.reduceAdd, Nat.reduceMul, Nat.reduceSub, Nat.zero_add, r1, a1]
  exact g1
theorem c_tensTillSafe (hr : aa_R R u) (hT : cT T n b R Q I) (hk : kT T n b) (hn2 : n ≤ 25) (hI : pt_I n b m P) (hm : m < 2 ^ 28) (hq : q ≤ 9) {p : Nat} (hp : p < 54) (hp2 : ¬ p = 2) (hP : pp_at I p P) : ∃ J, am_cal (d + 9) 6 [.ref (am_mk 1 0), .ref (am_mk 9 p), .int (nI q)] I R Q = some (some (.int (sp_first (fun k => sp_safe (I 14 u 5) n (sp_it T (nI q) P k)) 61)), J, R, Q) ∧ am_fr ah_S I J := by
  obtain ⟨r0, r1, r2, r3, r4, r5⟩ := hr
  obtain ⟨J0, a1, a2, a3⟩ := c_become (d := d + 8) (Q := Q) (r4 p hp) (r4 2 (by decide)) hp2 hP (pt_bb hI)
  have e14 : ∀ {J}, am_fr ah_S I J → J 14 u 5 = I 14 u 5 := fun {J} hf => hf _ _ _ (fun w => by unfold ah_S at w; omega)
  have loop : ∃ J, am_ev (d + 9) 6 10 [.ref (am_mk 1 0), .ref (am_mk 9 p), .int (nI q), .int (nI 0)] [] J0 R Q = some (some (.int (sp_first (fun k => sp_safe (I 14 u 5) n (sp_it T (nI q) P k)) 61)), J, R, Q) ∧ am_fr ah_S I J := by
    refine loop_inv (f := fun J k => am_ev (d + 9) 6 10 [.ref (am_mk 1 0), .ref (am_mk 9 p), .int (nI q), .int (nI k)] [] J R Q) (Inv := fun k J => am_fr ah_S I J ∧ pp_at J 2 (sp_it T (nI q) P k) ∧ ∀ j, j < k → ¬ sp_safe (I 14 u 5) n (sp_it T (nI q) P j)) (Post := fun y => ∃ J, y = some (some (.int (sp_first (fun k => sp_safe (I 14 u 5) n (sp_it T (nI q) P k)) 61)), J, R, Q) ∧ am_fr ah_S I J) (n := 60) ?_ ?_ (Nat.zero_le _) ⟨fr_mo a2 (pS_ah (by decide) (by decide)), a3, fun j hj => absurd hj (Nat.not_lt_zero _)⟩
    · intro k J hkc ⟨f1, f2, f3⟩
      have h1 : ¬ 60 ≤ k := by omega
      have hIk := it_I (q := q) hk hI k
      have hs := c_isSafe (d := d + 8) (Q := Q) r5 (r4 2 (by decide)) f2 hIk.1 hn2
      rw [e14 f1] at hs
      by_cases sf : sp_safe (I 14 u 5) n (sp_it T (nI q) P k)
      · right
        rw [if_pos sf] at hs
        refine ⟨J, ?_, f1⟩
        rw [first_yes (show k < 61 by omega) (by decide) f3 sf, s6_10]
        simp (disch := first | omega | assumption) only [s6_0, s6_1, s6_4, s6_5, s6_8, s6_9, s6_11, s6_13, s6_16, s6_17, s6_20, s6_21, s6_24, s6_27, s6_30, s6_31, s6_32, s6_33, s6_36, s6_37, s6_40, s6_41, s6_44, s6_45, s6_48, s6_51, s6_52, s6_55, s6_56, s6_59, s6_62, s6_65, s6_67, s6_70, s6_71, nI_le2, nI_lt2, nI_eq2, nI_lt0, nI_0le, nI_0lt, nI_le0, nI_eq0, nI_clamp, nI_add, bu_nI, bb_0, bb_1, rf_s, rf_n, tl_s, tl_n, am_th_some, if_true, if_false, sI_eq, uI_eq, and_self, true_and, and_true, not_false_eq_true, not_true_eq_false, Nat.reduceEqDiff, Nat.reduceLeDiff, Nat.reduceLT, Nat.reduceAdd, Nat.reduceMul, Nat.reduceSub, Nat.zero_add, h1, r0, r1, hs]
      · left
        rw [if_neg sf] at hs
        obtain ⟨K, g1, g2, g3⟩ := hT d J 2 (m + k) q _ (fr_mo f1 ah_ev) (by decide) f2 hIk (by omega) hq
        refine ⟨K, ?_, fr_x f1 g2 (kS_ah (by decide) (by decide)), g3, fun j hj => (Nat.lt_succ_iff_lt_or_eq.mp hj).elim (f3 j) (fun e => by rw [e]; exact sf)⟩
        rw [s6_10]
        simp (disch := first | omega | assumption) only [s6_0, s6_1, s6_4, s6_5, s6_8, s6_9, s6_11, s6_13, s6_16, s6_17, s6_20, s6_21, s6_24, s6_27, s6_30, s6_31, s6_32, s6_33, s6_36, s6_37, s6_40, s6_41, s6_44, s6_45, s6_48, s6_51, s6_52, s6_55, s6_56, s6_59, s6_62, s6_65, s6_67, s6_70, s6_71, nI_le2, nI_lt2, nI_eq2, nI_lt0, nI_0le, nI_0lt, nI_le0, nI_eq0, nI_clamp, nI_add, bu_nI, bb_0, bb_1, rf_s, rf_n, tl_s, tl_n, am_th_some, if_true, if_false, sI_eq, uI_eq, and_self, true_and, and_true, not_false_eq_true, not_true_eq_false, Nat.reduceEqDiff, Nat.reduceLeDiff, Nat.reduceLT, Nat.reduceAdd, Nat.reduceMul, Nat.reduceSub, Nat.zero_add, h1, r0, r1, hs, g1]
    · intro J ⟨f1, f2, f3⟩
      have hIk := it_I (q := q) hk hI 60
      have hs := c_isSafe (d := d + 8) (Q := Q) r5 (r4 2 (by decide)) f2 hIk.1 hn2
      rw [e14 f1] at hs
      refine ⟨J, ?_, f1⟩
      rw [s6_10]
      by_cases sf : sp_safe (I 14 u 5) n (sp_it T (nI q) P 60)
      · rw [if_pos sf] at hs
        rw [first_yes (show 60 < 61 by omega) (by decide) f3 sf]
        simp (disch := first | omega | assumption) only [s6_0, s6_1, s6_4, s6_5, s6_8, s6_9, s6_11, s6_13, s6_16, s6_17, s6_20, s6_21, s6_24, s6_27, s6_30, s6_31, s6_32, s6_33, s6_36, s6_37, s6_40, s6_41, s6_44, s6_45, s6_48, s6_51, s6_52, s6_55, s6_56, s6_59, s6_62, s6_65, s6_67, s6_70, s6_71, nI_le2, nI_lt2, nI_eq2, nI_lt0, nI_0le, nI_0lt, nI_le0, nI_eq0, nI_clamp, nI_add, bu_nI, bb_0, bb_1, rf_s, rf_n, tl_s, tl_n, am_th_some, if_true, if_false, sI_eq, uI_eq, and_self, true_and, and_true, not_false_eq_true, not_true_eq_false, Nat.reduceEqDiff, Nat.reduceLeDiff, Nat.reduceLT, Nat.reduceAdd, Nat.reduceMul, Nat.reduceSub, Nat.zero_add, Nat.le_refl, r0, r1, hs]
      · rw [if_neg sf] at hs
        rw [first_no (fun j hj => (Nat.lt_succ_iff_lt_or_eq.mp hj).elim (f3 j) (fun e => by rw [e]; exact sf))]
        simp (disch := first | omega | assumption) only [s6_0, s6_1, s6_4, s6_5, s6_8, s6_9, s6_11, s6_13, s6_16, s6_17, s6_20, s6_21, s6_24, s6_27, s6_30, s6_31, s6_32, s6_33, s6_36, s6_37, s6_40, s6_41, s6_44, s6_45, s6_48, s6_51, s6_52, s6_55, s6_56, s6_59, s6_62, s6_65, s6_67, s6_70, s6_71, nI_le2, nI_lt2, nI_eq2, nI_lt0, nI_0le, nI_0lt, nI_le0, nI_eq0, nI_clamp, nI_add, bu_nI, bb_0, bb_1, rf_s, rf_n, tl_s, tl_n, am_th_some, if_true, if_false, sI_eq, uI_eq, and_self, true_and, and_true, not_false_eq_true, not_true_eq_false, Nat.reduceEqDiff, Nat.reduceLeDiff, Nat.reduceLT, Nat.reduceAdd, Nat.reduceMul, Nat.reduceSub, Nat.zero_add, Nat.le_refl, r0, r1, hs]
  obtain ⟨J, g1, g2⟩ := loop
  refine ⟨J, ?_, g2⟩
  rw [s6]
  simp (disch := first | omega | assumption) only [s6_0, s6_1, s6_4, s6_5, s6_8, s6_9, s6_11, s6_13, s6_16, s6_17, s6_20, s6_21, s6_24, s6_27, s6_30, s6_31, s6_32, s6_33, s6_36, s6_37, s6_40, s6_41, s6_44, s6_45, s6_48, s6_51, s6_52, s6_55, s6_56, s6_59, s6_62, s6_65, s6_67, s6_70, s6_71, nI_le2, nI_lt2, nI_eq2, nI_lt0, nI_0le, nI_0lt, nI_le0, nI_eq0, nI_clamp, nI_add, bu_nI, bb_0, bb_1, rf_s, rf_n, tl_s, tl_n, am_th_some, if_true, if_false, sI_eq, uI_eq, and_self, true_and, and_true, not_false_eq_true, not_true_eq_false, Nat.reduceEqDiff, Nat.reduceLeDiff, Nat.reduceLT, Nat.reduceAdd, Nat.reduceMul, Nat.reduceSub, Nat.zero_add, r1, a1]
  exact g1
theorem c_plateAt (hr : aa_R R u) {k : Nat} (hk : k < 9) : am_cal d 7 [.ref (am_mk 1 0), .int (nI k)] I R Q = some (some (.ref (am_mk 9 (3 + k))), I, R, Q) := by
  obtain ⟨r0, r1, r2, r3, r4, r5⟩ := hr
  rw [s7]
  have h1 : ¬ 9 ≤ k := by omega
  simp (disch := first | omega | assumption) only [s7_0, s7_1, s7_4, s7_5, s7_6, s7_9, s7_10, s7_13, s7_14, s7_17, s7_18, s7_19, s7_22, s7_23, s7_23n, s7_24, s7_24n, s7_25, s7_25n, s7_28, s7_29, s7_32, s7_35, s7_35n, s7_36, nI_le2, nI_lt2, nI_eq2, nI_lt0, nI_0le, nI_0lt, nI_le0, nI_eq0, nI_clamp, nI_add, bu_nI, bb_0, bb_1, rf_s, rf_n, tl_s, tl_n, am_th_some, if_true, if_false, sI_eq, uI_eq, and_self, true_and, and_true, not_false_eq_true, not_true_eq_false, Nat.reduceEqDiff, Nat.reduceLeDiff, Nat.reduceLT, Nat.reduceAdd, Nat.reduceMul, Nat.reduceSub, Nat.zero_add, r2, r3 k hk, h1]
end
