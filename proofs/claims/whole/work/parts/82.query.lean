/-! What one may ask of the plate as it is: HOTTEST, where to BITE, RIM, LUMP, MEAN; both sides. -/
/-- colder: more ICE, or as much and less DEGREES -/
abbrev sp_cd (P : Nat → Nat → Int32) (c j : Nat) : Prop := P 1 j < P 1 c ∨ (P 1 c = P 1 j ∧ P 2 c < P 2 j)
def sp_bite (P : Nat → Nat → Int32) (n : Nat) : Int32 := am_fold (fun x c => if ¬ P 0 c ≤ 0 ∧ (x = -nI 1 ∨ sp_cd P c x.toNatClampNeg) then nI c else x) (-nI 1) n
def sp_rim (B : Nat → Nat → Int32) (P : Nat → Nat → Int32) (n : Nat) : Int32 := am_fold (fun a c => if ¬ P 0 c ≤ 0 ∧ ¬ sp_edges B P c < nI 2 then a ||| nI (2 ^ c) else a) (nI 0) n
def sp_lmp (P : Nat → Nat → Int32) (n : Nat) : Int32 := am_fold (fun a c => if P 1 c ≤ 0 then a else a ||| nI (2 ^ c)) (nI 0) n
section
variable {d n b m w h u : Nat} {I : am_I} {R : am_R} {Q : am_Q} {P : Nat → Nat → Int32} {B : Nat → Nat → Int32}
theorem c_lunch (hr : R 11 0 10 = some (am_mk 9 12)) (h4 : I 9 12 4 = nI n) (hn2 : n ≤ 25) : am_cal d 104 [.ref (am_mk 11 0)] I R Q = some (some (.int (if n = 0 then nI 0 else nI 1)), I, R, Q) := by
  rw [s104]
  by_cases e : n = 0
  · subst e
    simp (disch := first | omega | assumption) only [s104_0, s104_1, s104_4, s104_7, s104_10, s104_11, s104_14, s104_15, nI_le2, nI_lt2, nI_eq2, nI_lt0, nI_0le, nI_0lt, nI_le0, nI_eq0, nI_clamp, nI_add, bu_nI, bb_0, bb_1, rf_s, rf_n, tl_s, tl_n, am_th_some, if_true, if_false, sI_eq, uI_eq, and_self, true_and, and_true, not_false_eq_true, not_true_eq_false, Nat.reduceEqDiff, Nat.reduceLeDiff, Nat.reduceLT, Nat.reduceAdd, Nat.reduceMul, Nat.reduceSub, Nat.zero_add, hr, h4]
  · have e' : ¬ n ≤ 0 := by omega
    rw [if_neg e]
    simp (disch := first | omega | assumption) only [s104_0, s104_1, s104_4, s104_7, s104_10, s104_11, s104_14, s104_15, nI_le2, nI_lt2, nI_eq2, nI_lt0, nI_0le, nI_0lt, nI_le0, nI_eq0, nI_clamp, nI_add, bu_nI, bb_0, bb_1, rf_s, rf_n, tl_s, tl_n, am_th_some, if_true, if_false, sI_eq, uI_eq, and_self, true_and, and_true, not_false_eq_true, not_true_eq_false, Nat.reduceEqDiff, Nat.reduceLeDiff, Nat.reduceLT, Nat.reduceAdd, Nat.reduceMul, Nat.reduceSub, Nat.zero_add, hr, h4, e]
theorem c_colder (hr : pa_R R) (hP : pp_at I 12 P) {c j : Nat} (hc : c < 25) (hj : j < 25) : am_cal d 145 [.ref (am_mk 11 0), .int (nI c), .int (nI j)] I R Q = some (some (.int (if sp_cd P c j then nI 1 else nI 0)), I, R, Q) := by
  obtain ⟨r8, r10, r12, r11, r13, r14, rp, rl, rl1, ra⟩ := hr
  obtain ⟨p0, p1, p2, p3⟩ := rp 12 (by decide)
  obtain ⟨a0, a1, a2, a3⟩ := hP.1 c hc
  obtain ⟨b0, b1, b2, b3⟩ := hP.1 j hj
  have h1 : ¬ 25 ≤ c := by omega
  have h2 : ¬ 25 ≤ j := by omega
  rw [s145]
  by_cases e : P 1 c = P 1 j
  · have ni : ¬ P 1 j < P 1 c := by rw [e]; exact Int32.lt_irrefl
    by_cases e2 : P 2 c < P 2 j
    · have e3 := Int32.not_le.mpr e2
      rw [if_pos (Or.inr ⟨e, e2⟩)]
      simp (disch := first | omega | assumption) only [s145_0, s145_1, s145_4, s145_7, s145_8, s145_9, s145_10, s145_13, s145_16, s145_17, s145_18, s145_21, s145_22, s145_25, s145_28, s145_29, s145_30, s145_31, s145_34, s145_37, s145_38, s145_39, s145_42, s145_43, s145_46, s145_47, s145_48, s145_49, s145_52, s145_55, s145_56, s145_57, s145_58, s145_61, s145_64, s145_65, s145_66, s145_69, s145_70, s145_73, s145_74, nI_le2, nI_lt2, nI_eq2, nI_lt0, nI_0le, nI_0lt, nI_le0, nI_eq0, nI_clamp, nI_add, bu_nI, bb_0, bb_1, rf_s, rf_n, tl_s, tl_n, am_th_some, if_true, if_false, sI_eq, uI_eq, and_self, true_and, and_true, not_false_eq_true, not_true_eq_false, Nat.reduceEqDiff, Nat.reduceLeDiff, Nat.reduceLT, Nat.reduceAdd, Nat.reduceMul, Nat.reduceSub, Nat.zero_add, r10, p1, p2, a1, a2, b1, b2, e, e3, h1, h2]
    · have e3 := Int32.not_lt.mp e2
      rw [if_neg (fun q => q.elim ni fun q => e2 q.2)]
      simp (disch := first | omega | assumption) only [s145_0, s145_1, s145_4, s145_7, s145_8, s145_9, s145_10, s145_13, s145_16, s145_17, s145_18, s145_21, s145_22, s145_25, s145_28, s145_29, s145_30, s145_31, s145_34, s145_37, s145_38, s145_39, s145_42, s145_43, s145_46, s145_47, s145_48, s145_49, s145_52, s145_55, s145_56, s145_57, s145_58, s145_61, s145_64, s145_65, s145_66, s145_69, s145_70, s145_73, s145_74, nI_le2, nI_lt2, nI_eq2, nI_lt0, nI_0le, nI_0lt, nI_le0, nI_eq0, nI_clamp, nI_add, bu_nI, bb_0, bb_1, rf_s, rf_n, tl_s, tl_n, am_th_some, if_true, if_false, sI_eq, uI_eq, and_self, true_and, and_true, not_false_eq_true, not_true_eq_false, Nat.reduceEqDiff, Nat.reduceLeDiff, Nat.reduceLT, Nat.reduceAdd, Nat.reduceMul, Nat.reduceSub, Nat.zero_add, r10, p1, p2, a1, a2, b1, b2, e, e3, h1, h2]
  · by_cases e2 : P 1 j < P 1 c
    · have e3 := Int32.not_le.mpr e2
      rw [if_pos (Or.inl e2)]
      simp (disch := first | omega | assumption) only [s145_0, s145_1, s145_4, s145_7, s145_8, s145_9, s145_10, s145_13, s145_16, s145_17, s145_18, s145_21, s145_22, s145_25, s145_28, s145_29, s145_30, s145_31, s145_34, s145_37, s145_38, s145_39, s145_42, s145_43, s145_46, s145_47, s145_48, s145_49, s145_52, s145_55, s145_56, s145_57, s145_58, s145_61, s145_64, s145_65, s145_66, s145_69, s145_70, s145_73, s145_74, nI_le2, nI_lt2, nI_eq2, nI_lt0, nI_0le, nI_0lt, nI_le0, nI_eq0, nI_clamp, nI_add, bu_nI, bb_0, bb_1, rf_s, rf_n, tl_s, tl_n, am_th_some, if_true, if_false, sI_eq, uI_eq, and_self, true_and, and_true, not_false_eq_true, not_true_eq_false, Nat.reduceEqDiff, Nat.reduceLeDiff, Nat.reduceLT, Nat.reduceAdd, Nat.reduceMul, Nat.reduceSub, Nat.zero_add, r10, p1, p2, a1, a2, b1, b2, e, e3, h1, h2]
    · have e3 := Int32.not_lt.mp e2
      rw [if_neg (fun q => q.elim e2 fun q => e q.1)]
      simp (disch := first | omega | assumption) only [s145_0, s145_1, s145_4, s145_7, s145_8, s145_9, s145_10, s145_13, s145_16, s145_17, s145_18, s145_21, s145_22, s145_25, s145_28, s145_29, s145_30, s145_31, s145_34, s145_37, s145_38, s145_39, s145_42, s145_43, s145_46, s145_47, s145_48, s145_49, s145_52, s145_55, s145_56, s145_57, s145_58, s145_61, s145_64, s145_65, s145_66, s145_69, s145_70, s145_73, s145_74, nI_le2, nI_lt2, nI_eq2, nI_lt0, nI_0le, nI_0lt, nI_le0, nI_eq0, nI_clamp, nI_add, bu_nI, bb_0, bb_1, rf_s, rf_n, tl_s, tl_n, am_th_some, if_true, if_false, sI_eq, uI_eq, and_self, true_and, and_true, not_false_eq_true, not_true_eq_false, Nat.reduceEqDiff, Nat.reduceLeDiff, Nat.reduceLT, Nat.reduceAdd, Nat.reduceMul, Nat.reduceSub, Nat.zero_add, r10, p1, p2, a1, a2, b1, b2, e, e3, h1, h2]
theorem c_bite (hr : pa_R R) (hP : pp_at I 12 P) (hn : P 4 0 = nI n) (hn2 : n ≤ 25) (hn1 : 1 ≤ n) : am_cal (d + 1) 144 [.ref (am_mk 11 0)] I R Q = some (some (.int (sp_bite P n)), I, R, Q) := by
  have hr2 := hr
  obtain ⟨r8, r10, r12, r11, r13, r14, rp, rl, rl1, ra⟩ := hr
  have h4 := hP.2.1.trans hn
  have hL := c_lunch (d := d) (Q := Q) r10 h4 hn2
  rw [if_neg (by omega)] at hL
  rw [s144]
  simp (disch := first | omega | assumption) only [s144_0, s144_1, s144_4, s144_7, s144_8, s144_9, s144_10, s144_11, s144_12, s144_14, s144_15, s144_18, s144_21, s144_24, s144_25, s144_28, s144_29, s144_32, s144_35, s144_36, s144_37, s144_40, s144_41, s144_42, s144_43, s144_46, s144_49, s144_50, s144_51, s144_54, s144_57, s144_58, nI_le2, nI_lt2, nI_eq2, nI_lt0, nI_0le, nI_0lt, nI_le0, nI_eq0, nI_clamp, nI_add, bu_nI, bb_0, bb_1, rf_s, rf_n, tl_s, tl_n, am_th_some, if_true, if_false, sI_eq, uI_eq, and_self, true_and, and_true, not_false_eq_true, not_true_eq_false, Nat.reduceEqDiff, Nat.reduceLeDiff, Nat.reduceLT, Nat.reduceAdd, Nat.reduceMul, Nat.reduceSub, Nat.zero_add, hL]
  refine loop_inv (f := fun (x : Int32) c => am_ev (d + 1) 144 13 [.ref (am_mk 11 0), .int x, .int (nI c)] [] I R Q) (Inv := fun c x => x = sp_bite P c ∧ (x = -nI 1 ∨ ∃ j, j < c ∧ x = nI j)) (Post := fun y => y = some (some (.int (sp_bite P n)), I, R, Q)) (n := n) ?_ ?_ (Nat.zero_le _) (a := -nI 1) ⟨rfl, Or.inl rfl⟩
  · intro c x hc ⟨f0, f1⟩
    left
    have h1 : ¬ n ≤ c := by omega
    have hf := c_hasFood_k (d := d) (Q := Q) (rp 12 (by decide)).1 hP hn hn2 hc
    have no : ¬ (¬ P 0 c ≤ 0 ∧ (x = -nI 1 ∨ sp_cd P c x.toNatClampNeg)) → x = sp_bite P (c + 1) := fun q => by
      rw [sp_bite, fold_s, show am_fold _ (-nI 1) c = x from f0.symm, if_neg q]
    have yes : (¬ P 0 c ≤ 0 ∧ (x = -nI 1 ∨ sp_cd P c x.toNatClampNeg)) → nI c = sp_bite P (c + 1) := fun q => by
      rw [sp_bite, fold_s, show am_fold _ (-nI 1) c = x from f0.symm, if_pos q]
    have stay : (x = -nI 1 ∨ ∃ j, j < c + 1 ∧ x = nI j) := f1.imp id fun ⟨j, hj, e⟩ => ⟨j, by omega, e⟩
    rw [s144_13]
    by_cases b0 : P 0 c ≤ 0
    · rw [if_pos b0] at hf
      refine ⟨x, ?_, no (fun q => q.1 b0), stay⟩
      simp (disch := first | omega | assumption) only [s144_0, s144_1, s144_4, s144_7, s144_8, s144_9, s144_10, s144_11, s144_12, s144_14, s144_15, s144_18, s144_21, s144_24, s144_25, s144_28, s144_29, s144_32, s144_35, s144_36, s144_37, s144_40, s144_41, s144_42, s144_43, s144_46, s144_49, s144_50, s144_51, s144_54, s144_57, s144_58, nI_le2, nI_lt2, nI_eq2, nI_lt0, nI_0le, nI_0lt, nI_le0, nI_eq0, nI_clamp, nI_add, bu_nI, bb_0, bb_1, rf_s, rf_n, tl_s, tl_n, am_th_some, if_true, if_false, sI_eq, uI_eq, and_self, true_and, and_true, not_false_eq_true, not_true_eq_false, Nat.reduceEqDiff, Nat.reduceLeDiff, Nat.reduceLT, Nat.reduceAdd, Nat.reduceMul, Nat.reduceSub, Nat.zero_add, r10, h4, h1, hf]
    · rw [if_neg b0] at hf
      rcases f1 with f1 | ⟨j, hj, f1⟩
      · refine ⟨nI c, ?_, yes ⟨b0, Or.inl f1⟩, Or.inr ⟨c, by omega, rfl⟩⟩
        simp (disch := first | omega | assumption) only [s144_0, s144_1, s144_4, s144_7, s144_8, s144_9, s144_10, s144_11, s144_12, s144_14, s144_15, s144_18, s144_21, s144_24, s144_25, s144_28, s144_29, s144_32, s144_35, s144_36, s144_37, s144_40, s144_41, s144_42, s144_43, s144_46, s144_49, s144_50, s144_51, s144_54, s144_57, s144_58, nI_le2, nI_lt2, nI_eq2, nI_lt0, nI_0le, nI_0lt, nI_le0, nI_eq0, nI_clamp, nI_add, bu_nI, bb_0, bb_1, rf_s, rf_n, tl_s, tl_n, am_th_some, if_true, if_false, sI_eq, uI_eq, and_self, true_and, and_true, not_false_eq_true, not_true_eq_false, Nat.reduceEqDiff, Nat.reduceLeDiff, Nat.reduceLT, Nat.reduceAdd, Nat.reduceMul, Nat.reduceSub, Nat.zero_add, r10, h4, h1, hf, f1]
      · have hj1 : (nI j = -nI 1) = False := eq_false (m1_ne (by omega))
        have hjc : x.toNatClampNeg = j := by rw [f1]; exact nI_clamp (by omega)
        have hcd := c_colder (d := d) (Q := Q) hr2 hP (show c < 25 by omega) (show j < 25 by omega)
        by_cases q : sp_cd P c j
        · rw [if_pos q] at hcd
          refine ⟨nI c, ?_, yes ⟨b0, Or.inr (by rw [hjc]; exact q)⟩, Or.inr ⟨c, by omega, rfl⟩⟩
          simp (disch := first | omega | assumption) only [s144_0, s144_1, s144_4, s144_7, s144_8, s144_9, s144_10, s144_11, s144_12, s144_14, s144_15, s144_18, s144_21, s144_24, s144_25, s144_28, s144_29, s144_32, s144_35, s144_36, s144_37, s144_40, s144_41, s144_42, s144_43, s144_46, s144_49, s144_50, s144_51, s144_54, s144_57, s144_58, nI_le2, nI_lt2, nI_eq2, nI_lt0, nI_0le, nI_0lt, nI_le0, nI_eq0, nI_clamp, nI_add, bu_nI, bb_0, bb_1, rf_s, rf_n, tl_s, tl_n, am_th_some, if_true, if_false, sI_eq, uI_eq, and_self, true_and, and_true, not_false_eq_true, not_true_eq_false, Nat.reduceEqDiff, Nat.reduceLeDiff, Nat.reduceLT, Nat.reduceAdd, Nat.reduceMul, Nat.reduceSub, Nat.zero_add, r10, h4, h1, hf, f1, hj1, hcd]
        · rw [if_neg q] at hcd
          refine ⟨x, ?_, no (fun v => v.2.elim (fun e => m1_ne (show j < 2 ^ 31 by omega) (f1.symm.trans e)) (fun e => q (by rw [hjc] at e; exact e))), stay⟩
          simp (disch := first | omega | assumption) only [s144_0, s144_1, s144_4, s144_7, s144_8, s144_9, s144_10, s144_11, s144_12, s144_14, s144_15, s144_18, s144_21, s144_24, s144_25, s144_28, s144_29, s144_32, s144_35, s144_36, s144_37, s144_40, s144_41, s144_42, s144_43, s144_46, s144_49, s144_50, s144_51, s144_54, s144_57, s144_58, nI_le2, nI_lt2, nI_eq2, nI_lt0, nI_0le, nI_0lt, nI_le0, nI_eq0, nI_clamp, nI_add, bu_nI, bb_0, bb_1, rf_s, rf_n, tl_s, tl_n, am_th_some, if_true, if_false, sI_eq, uI_eq, and_self, true_and, and_true, not_false_eq_true, not_true_eq_false, Nat.reduceEqDiff, Nat.reduceLeDiff, Nat.reduceLT, Nat.reduceAdd, Nat.reduceMul, Nat.reduceSub, Nat.zero_add, r10, h4, h1, hf, f1, hj1, hcd]
  · intro x ⟨f0, f1⟩
    rw [s144_13, ← f0]
    simp (disch := first | omega | assumption) only [s144_0, s144_1, s144_4, s144_7, s144_8, s144_9, s144_10, s144_11, s144_12, s144_14, s144_15, s144_18, s144_21, s144_24, s144_25, s144_28, s144_29, s144_32, s144_35, s144_36, s144_37, s144_40, s144_41, s144_42, s144_43, s144_46, s144_49, s144_50, s144_51, s144_54, s144_57, s144_58, nI_le2, nI_lt2, nI_eq2, nI_lt0, nI_0le, nI_0lt, nI_le0, nI_eq0, nI_clamp, nI_add, bu_nI, bb_0, bb_1, rf_s, rf_n, tl_s, tl_n, am_th_some, if_true, if_false, sI_eq, uI_eq, and_self, true_and, and_true, not_false_eq_true, not_true_eq_false, Nat.reduceEqDiff, Nat.reduceLeDiff, Nat.reduceLT, Nat.reduceAdd, Nat.reduceMul, Nat.reduceSub, Nat.zero_add, r10, h4, Nat.le_refl]
theorem c_hottest (hr : pa_R R) (hP : pp_at I 12 P) (hn : P 4 0 = nI n) (hn2 : n ≤ 25) (hn1 : 1 ≤ n) : am_cal (d + 1) 150 [.ref (am_mk 11 0)] I R Q = some (some (.int (sp_ext P true n)), I, R, Q) := by
  obtain ⟨r8, r10, r12, r11, r13, r14, rp, rl, rl1, ra⟩ := hr
  obtain ⟨p0, p1, p2, p3⟩ := rp 12 (by decide)
  have h4 := hP.2.1.trans hn
  have hL := c_lunch (d := d) (Q := Q) r10 h4 hn2
  rw [if_neg (by omega)] at hL
  rw [s150]
  simp (disch := first | omega | assumption) only [s150_0, s150_1, s150_4, s150_7, s150_8, s150_9, s150_10, s150_11, s150_12, s150_14, s150_15, s150_18, s150_21, s150_24, s150_25, s150_28, s150_29, s150_32, s150_35, s150_36, s150_37, s150_40, s150_41, s150_44, s150_47, s150_48, s150_49, s150_50, s150_53, s150_56, s150_57, s150_58, s150_61, s150_62, s150_63, s150_66, s150_69, s150_70, nI_le2, nI_lt2, nI_eq2, nI_lt0, nI_0le, nI_0lt, nI_le0, nI_eq0, nI_clamp, nI_add, bu_nI, bb_0, bb_1, rf_s, rf_n, tl_s, tl_n, am_th_some, if_true, if_false, sI_eq, uI_eq, and_self, true_and, and_true, not_false_eq_true, not_true_eq_false, Nat.reduceEqDiff, Nat.reduceLeDiff, Nat.reduceLT, Nat.reduceAdd, Nat.reduceMul, Nat.reduceSub, Nat.zero_add, hL]
  refine loop_inv (f := fun (x : Int32) c => am_ev (d + 1) 150 13 [.ref (am_mk 11 0), .int x, .int (nI c)] [] I R Q) (Inv := fun c x => x = sp_ext P true c ∧ (x = -nI 1 ∨ ∃ j, j < c ∧ x = nI j)) (Post := fun y => y = some (some (.int (sp_ext P true n)), I, R, Q)) (n := n) ?_ ?_ (Nat.zero_le _) (a := -nI 1) ⟨rfl, Or.inl rfl⟩
  · intro c x hc ⟨f0, f1⟩
    left
    have h1 : ¬ n ≤ c := by omega
    have h2 : ¬ 25 ≤ c := by omega
    have hf := c_hasFood_k (d := d) (Q := Q) p0 hP hn hn2 hc
    obtain ⟨a0, a1, a2, a3⟩ := hP.1 c (by omega)
    have no : ¬ (¬ P 0 c ≤ 0 ∧ (x = -nI 1 ∨ if true = true then P 2 x.toNatClampNeg < P 2 c else P 2 c < P 2 x.toNatClampNeg)) → x = sp_ext P true (c + 1) := fun q => by
      rw [sp_ext, fold_s, show am_fold _ (-nI 1) c = x from f0.symm, if_neg q]
    have yes : (¬ P 0 c ≤ 0 ∧ (x = -nI 1 ∨ if true = true then P 2 x.toNatClampNeg < P 2 c else P 2 c < P 2 x.toNatClampNeg)) → nI c = sp_ext P true (c + 1) := fun q => by
      rw [sp_ext, fold_s, show am_fold _ (-nI 1) c = x from f0.symm, if_pos q]
    have stay : (x = -nI 1 ∨ ∃ j, j < c + 1 ∧ x = nI j) := f1.imp id fun ⟨j, hj, e⟩ => ⟨j, by omega, e⟩
    rw [s150_13]
    by_cases b0 : P 0 c ≤ 0
    · rw [if_pos b0] at hf
      refine ⟨x, ?_, no (fun q => q.1 b0), stay⟩
      simp (disch := first | omega | assumption) only [s150_0, s150_1, s150_4, s150_7, s150_8, s150_9, s150_10, s150_11, s150_12, s150_14, s150_15, s150_18, s150_21, s150_24, s150_25, s150_28, s150_29, s150_32, s150_35, s150_36, s150_37, s150_40, s150_41, s150_44, s150_47, s150_48, s150_49, s150_50, s150_53, s150_56, s150_57, s150_58, s150_61, s150_62, s150_63, s150_66, s150_69, s150_70, nI_le2, nI_lt2, nI_eq2, nI_lt0, nI_0le, nI_0lt, nI_le0, nI_eq0, nI_clamp, nI_add, bu_nI, bb_0, bb_1, rf_s, rf_n, tl_s, tl_n, am_th_some, if_true, if_false, sI_eq, uI_eq, and_self, true_and, and_true, not_false_eq_true, not_true_eq_false, Nat.reduceEqDiff, Nat.reduceLeDiff, Nat.reduceLT, Nat.reduceAdd, Nat.reduceMul, Nat.reduceSub, Nat.zero_add, r10, h4, h1, hf]
    · rw [if_neg b0] at hf
      rcases f1 with f1 | ⟨j, hj, f1⟩
      · refine ⟨nI c, ?_, yes ⟨b0, Or.inl f1⟩, Or.inr ⟨c, by omega, rfl⟩⟩
        simp (disch := first | omega | assumption) only [s150_0, s150_1, s150_4, s150_7, s150_8, s150_9, s150_10, s150_11, s150_12, s150_14, s150_15, s150_18, s150_21, s150_24, s150_25, s150_28, s150_29, s150_32, s150_35, s150_36, s150_37, s150_40, s150_41, s150_44, s150_47, s150_48, s150_49, s150_50, s150_53, s150_56, s150_57, s150_58, s150_61, s150_62, s150_63, s150_66, s150_69, s150_70, nI_le2, nI_lt2, nI_eq2, nI_lt0, nI_0le, nI_0lt, nI_le0, nI_eq0, nI_clamp, nI_add, bu_nI, bb_0, bb_1, rf_s, rf_n, tl_s, tl_n, am_th_some, if_true, if_false, sI_eq, uI_eq, and_self, true_and, and_true, not_false_eq_true, not_true_eq_false, Nat.reduceEqDiff, Nat.reduceLeDiff, Nat.reduceLT, Nat.reduceAdd, Nat.reduceMul, Nat.reduceSub, Nat.zero_add, r10, h4, h1, hf, f1]
      · have hj1 : (nI j = -nI 1) = False := eq_false (m1_ne (by omega))
        have hjc : x.toNatClampNeg = j := by rw [f1]; exact nI_clamp (by omega)
        have h3 : ¬ 25 ≤ j := by omega
        obtain ⟨c0, c1, c2, c3⟩ := hP.1 j (by omega)
        by_cases q : P 2 c ≤ P 2 j
        · refine ⟨x, ?_, no (fun v => v.2.elim (fun e => m1_ne (show j < 2 ^ 31 by omega) (f1.symm.trans e)) (fun e => by rw [if_pos rfl, hjc] at e; exact Int32.not_lt.mpr q e)), stay⟩
          simp (disch := first | omega | assumption) only [s150_0, s150_1, s150_4, s150_7, s150_8, s150_9, s150_10, s150_11, s150_12, s150_14, s150_15, s150_18, s150_21, s150_24, s150_25, s150_28, s150_29, s150_32, s150_35, s150_36, s150_37, s150_40, s150_41, s150_44, s150_47, s150_48, s150_49, s150_50, s150_53, s150_56, s150_57, s150_58, s150_61, s150_62, s150_63, s150_66, s150_69, s150_70, nI_le2, nI_lt2, nI_eq2, nI_lt0, nI_0le, nI_0lt, nI_le0, nI_eq0, nI_clamp, nI_add, bu_nI, bb_0, bb_1, rf_s, rf_n, tl_s, tl_n, am_th_some, if_true, if_false, sI_eq, uI_eq, and_self, true_and, and_true, not_false_eq_true, not_true_eq_false, Nat.reduceEqDiff, Nat.reduceLeDiff, Nat.reduceLT, Nat.reduceAdd, Nat.reduceMul, Nat.reduceSub, Nat.zero_add, r10, p2, h4, h1, h2, h3, hf, f1, hj1, a2, c2, q]
        · refine ⟨nI c, ?_, yes ⟨b0, Or.inr (by rw [if_pos rfl, hjc]; exact Int32.not_le.mp q)⟩, Or.inr ⟨c, by omega, rfl⟩⟩
          simp (disch := first | omega | assumption) only [s150_0, s150_1, s150_4, s150_7, s150_8, s150_9, s150_10, s150_11, s150_12, s150_14, s150_15, s150_18, s150_21, s150_24, s150_25, s150_28, s150_29, s150_32, s150_35, s150_36, s150_37, s150_40, s150_41, s150_44, s150_47, s150_48, s150_49, s150_50, s150_53, s150_56, s150_57, s150_58, s150_61, s150_62, s150_63, s150_66, s150_69, s150_70, nI_le2, nI_lt2, nI_eq2, nI_lt0, nI_0le, nI_0lt, nI_le0, nI_eq0, nI_clamp, nI_add, bu_nI, bb_0, bb_1, rf_s, rf_n, tl_s, tl_n, am_th_some, if_true, if_false, sI_eq, uI_eq, and_self, true_and, and_true, not_false_eq_true, not_true_eq_false, Nat.reduceEqDiff, Nat.reduceLeDiff, Nat.reduceLT, Nat.reduceAdd, Nat.reduceMul, Nat.reduceSub, Nat.zero_add, r10, p2, h4, h1, h2, h3, hf, f1, hj1, a2, c2, q]
  · intro x ⟨f0, f1⟩
    rw [s150_13, ← f0]
    simp (disch := first | omega | assumption) only [s150_0, s150_1, s150_4, s150_7, s150_8, s150_9, s150_10, s150_11, s150_12, s150_14, s150_15, s150_18, s150_21, s150_24, s150_25, s150_28, s150_29, s150_32, s150_35, s150_36, s150_37, s150_40, s150_41, s150_44, s150_47, s150_48, s150_49, s150_50, s150_53, s150_56, s150_57, s150_58, s150_61, s150_62, s150_63, s150_66, s150_69, s150_70, nI_le2, nI_lt2, nI_eq2, nI_lt0, nI_0le, nI_0lt, nI_le0, nI_eq0, nI_clamp, nI_add, bu_nI, bb_0, bb_1, rf_s, rf_n, tl_s, tl_n, am_th_some, if_true, if_false, sI_eq, uI_eq, and_self, true_and, and_true, not_false_eq_true, not_true_eq_false, Nat.reduceEqDiff, Nat.reduceLeDiff, Nat.reduceLT, Nat.reduceAdd, Nat.reduceMul, Nat.reduceSub, Nat.zero_add, r10, h4, Nat.le_refl]
theorem c_rim (hr : pa_R R) (hk : kk_R R u) (hP : pp_at I 12 P) (hn : P 4 0 = nI n) (hn2 : n ≤ 25) (hn1 : 1 ≤ n) (hB : bs_at I u n B) : am_cal (d + 2) 151 [.ref (am_mk 11 0)] I R Q = some (some (.int (sp_rim B P n)), I, R, Q) := by
  obtain ⟨r8, r10, r12, r11, r13, r14, rp, rl, rl1, ra⟩ := hr
  obtain ⟨p0, p1, p2, p3⟩ := rp 12 (by decide)
  have h4 := hP.2.1.trans hn
  have hL := c_lunch (d := d + 1) (Q := Q) r10 h4 hn2
  rw [if_neg (by omega)] at hL
  rw [s151]
  simp (disch := first | omega | assumption) only [s151_0, s151_1, s151_4, s151_7, s151_8, s151_9, s151_10, s151_11, s151_12, s151_14, s151_15, s151_18, s151_21, s151_24, s151_25, s151_28, s151_29, s151_32, s151_35, s151_36, s151_39, s151_40, s151_43, s151_44, s151_47, s151_48, s151_51, s151_52, s151_53, s151_54, s151_55, s151_56, s151_57, s151_60, s151_63, s151_64, nI_le2, nI_lt2, nI_eq2, nI_lt0, nI_0le, nI_0lt, nI_le0, nI_eq0, nI_clamp, nI_add, bu_nI, bb_0, bb_1, rf_s, rf_n, tl_s, tl_n, am_th_some, if_true, if_false, sI_eq, uI_eq, and_self, true_and, and_true, not_false_eq_true, not_true_eq_false, Nat.reduceEqDiff, Nat.reduceLeDiff, Nat.reduceLT, Nat.reduceAdd, Nat.reduceMul, Nat.reduceSub, Nat.zero_add, hL]
  refine (loop_fold (fun (x : Int32) c => am_ev (d + 2) 151 13 [.ref (am_mk 11 0), .int x, .int (nI c)] [] I R Q) (fun a c => if ¬ P 0 c ≤ 0 ∧ ¬ sp_edges B P c < nI 2 then a ||| nI (2 ^ c) else a) n (fun x c hc => ?_) (nI 0)).trans ?_
  · have h1 : ¬ n ≤ c := by omega
    have hf := c_hasFood_k (d := d + 1) (Q := Q) p0 hP hn hn2 hc
    have he := c_edges (d := d) (Q := Q) hk p0 hP hn hn2 hB hc
    have e1 : nI 1 <<< (nI c &&& 31) = nI (2 ^ c) := nI_bit (by omega)
    rw [s151_13]
    by_cases b0 : P 0 c ≤ 0
    · rw [if_pos b0] at hf
      rw [if_neg (fun q => q.1 b0)]
      simp (disch := first | omega | assumption) only [s151_0, s151_1, s151_4, s151_7, s151_8, s151_9, s151_10, s151_11, s151_12, s151_14, s151_15, s151_18, s151_21, s151_24, s151_25, s151_28, s151_29, s151_32, s151_35, s151_36, s151_39, s151_40, s151_43, s151_44, s151_47, s151_48, s151_51, s151_52, s151_53, s151_54, s151_55, s151_56, s151_57, s151_60, s151_63, s151_64, nI_le2, nI_lt2, nI_eq2, nI_lt0, nI_0le, nI_0lt, nI_le0, nI_eq0, nI_clamp, nI_add, bu_nI, bb_0, bb_1, rf_s, rf_n, tl_s, tl_n, am_th_some, if_true, if_false, sI_eq, uI_eq, and_self, true_and, and_true, not_false_eq_true, not_true_eq_false, Nat.reduceEqDiff, Nat.reduceLeDiff, Nat.reduceLT, Nat.reduceAdd, Nat.reduceMul, Nat.reduceSub, Nat.zero_add, r10, h4, h1, hf]
    · rw [if_neg b0] at hf
      by_cases q : sp_edges B P c < nI 2
      · rw [if_neg (fun v => v.2 q)]
        simp (disch := first | omega | assumption) only [s151_0, s151_1, s151_4, s151_7, s151_8, s151_9, s151_10, s151_11, s151_12, s151_14, s151_15, s151_18, s151_21, s151_24, s151_25, s151_28, s151_29, s151_32, s151_35, s151_36, s151_39, s151_40, s151_43, s151_44, s151_47, s151_48, s151_51, s151_52, s151_53, s151_54, s151_55, s151_56, s151_57, s151_60, s151_63, s151_64, nI_le2, nI_lt2, nI_eq2, nI_lt0, nI_0le, nI_0lt, nI_le0, nI_eq0, nI_clamp, nI_add, bu_nI, bb_0, bb_1, rf_s, rf_n, tl_s, tl_n, am_th_some, if_true, if_false, sI_eq, uI_eq, and_self, true_and, and_true, not_false_eq_true, not_true_eq_false, Nat.reduceEqDiff, Nat.reduceLeDiff, Nat.reduceLT, Nat.reduceAdd, Nat.reduceMul, Nat.reduceSub, Nat.zero_add, r8, r10, h4, h1, hf, he, q]
      · rw [if_pos ⟨b0, q⟩]
        simp (disch := first | omega | assumption) only [s151_0, s151_1, s151_4, s151_7, s151_8, s151_9, s151_10, s151_11, s151_12, s151_14, s151_15, s151_18, s151_21, s151_24, s151_25, s151_28, s151_29, s151_32, s151_35, s151_36, s151_39, s151_40, s151_43, s151_44, s151_47, s151_48, s151_51, s151_52, s151_53, s151_54, s151_55, s151_56, s151_57, s151_60, s151_63, s151_64, nI_le2, nI_lt2, nI_eq2, nI_lt0, nI_0le, nI_0lt, nI_le0, nI_eq0, nI_clamp, nI_add, bu_nI, bb_0, bb_1, rf_s, rf_n, tl_s, tl_n, am_th_some, if_true, if_false, sI_eq, uI_eq, and_self, true_and, and_true, not_false_eq_true, not_true_eq_false, Nat.reduceEqDiff, Nat.reduceLeDiff, Nat.reduceLT, Nat.reduceAdd, Nat.reduceMul, Nat.reduceSub, Nat.zero_add, r8, r10, h4, h1, hf, he, q, e1]
  · rw [s151_13]
    simp (disch := first | omega | assumption) only [s151_0, s151_1, s151_4, s151_7, s151_8, s151_9, s151_10, s151_11, s151_12, s151_14, s151_15, s151_18, s151_21, s151_24, s151_25, s151_28, s151_29, s151_32, s151_35, s151_36, s151_39, s151_40, s151_43, s151_44, s151_47, s151_48, s151_51, s151_52, s151_53, s151_54, s151_55, s151_56, s151_57, s151_60, s151_63, s151_64, nI_le2, nI_lt2, nI_eq2, nI_lt0, nI_0le, nI_0lt, nI_le0, nI_eq0, nI_clamp, nI_add, bu_nI, bb_0, bb_1, rf_s, rf_n, tl_s, tl_n, am_th_some, if_true, if_false, sI_eq, uI_eq, and_self, true_and, and_true, not_false_eq_true, not_true_eq_false, Nat.reduceEqDiff, Nat.reduceLeDiff, Nat.reduceLT, Nat.reduceAdd, Nat.reduceMul, Nat.reduceSub, Nat.zero_add, r10, h4, Nat.le_refl]
    rfl
theorem c_lump (hr : pa_R R) (hP : pp_at I 12 P) (hI : pt_I n b m P) (hn2 : n ≤ 25) (hn1 : 1 ≤ n) : am_cal (d + 1) 152 [.ref (am_mk 11 0)] I R Q = some (some (.int (sp_lmp P n)), I, R, Q) := by
  obtain ⟨r8, r10, r12, r11, r13, r14, rp, rl, rl1, ra⟩ := hr
  obtain ⟨p0, p1, p2, p3⟩ := rp 12 (by decide)
  have h4 := hP.2.1.trans hI.1
  have hL := c_lunch (d := d) (Q := Q) r10 h4 hn2
  rw [if_neg (by omega)] at hL
  have e25 : am_fold (fun a c => if P 1 c ≤ 0 then a else a ||| nI (2 ^ c)) (nI 0) 25 = sp_lmp P n := fold_trunc hn2 fun x c h1 h2 => by
    obtain ⟨t, i, g, uu, e0, e1, e2, e3, l0, l1, l2, l3, z, o⟩ := hI.2.2.2.1 c h2
    have := z (o h1)
    rw [e1, this.1, if_pos (by decide)]
  rw [s152]
  simp (disch := first | omega | assumption) only [s152_0, s152_1, s152_4, s152_7, s152_8, s152_9, s152_10, s152_11, s152_12, s152_14, s152_16, s152_19, s152_20, s152_23, s152_26, s152_27, s152_28, s152_31, s152_32, s152_33, s152_34, s152_35, s152_36, s152_37, s152_40, s152_43, s152_44, nI_le2, nI_lt2, nI_eq2, nI_lt0, nI_0le, nI_0lt, nI_le0, nI_eq0, nI_clamp, nI_add, bu_nI, bb_0, bb_1, rf_s, rf_n, tl_s, tl_n, am_th_some, if_true, if_false, sI_eq, uI_eq, and_self, true_and, and_true, not_false_eq_true, not_true_eq_false, Nat.reduceEqDiff, Nat.reduceLeDiff, Nat.reduceLT, Nat.reduceAdd, Nat.reduceMul, Nat.reduceSub, Nat.zero_add, hL]
  refine (loop_fold (fun (x : Int32) c => am_ev (d + 1) 152 13 [.ref (am_mk 11 0), .int x, .int (nI c)] [] I R Q) (fun a c => if P 1 c ≤ 0 then a else a ||| nI (2 ^ c)) 25 (fun x c hc => ?_) (nI 0)).trans ?_
  · have h1 : ¬ 25 ≤ c := by omega
    obtain ⟨a0, a1, a2, a3⟩ := hP.1 c hc
    have e1 : nI 1 <<< (nI c &&& 31) = nI (2 ^ c) := nI_bit (by omega)
    rw [s152_13]
    by_cases q : P 1 c ≤ 0
    · rw [if_pos q]
      simp (disch := first | omega | assumption) only [s152_0, s152_1, s152_4, s152_7, s152_8, s152_9, s152_10, s152_11, s152_12, s152_14, s152_16, s152_19, s152_20, s152_23, s152_26, s152_27, s152_28, s152_31, s152_32, s152_33, s152_34, s152_35, s152_36, s152_37, s152_40, s152_43, s152_44, nI_le2, nI_lt2, nI_eq2, nI_lt0, nI_0le, nI_0lt, nI_le0, nI_eq0, nI_clamp, nI_add, bu_nI, bb_0, bb_1, rf_s, rf_n, tl_s, tl_n, am_th_some, if_true, if_false, sI_eq, uI_eq, and_self, true_and, and_true, not_false_eq_true, not_true_eq_false, Nat.reduceEqDiff, Nat.reduceLeDiff, Nat.reduceLT, Nat.reduceAdd, Nat.reduceMul, Nat.reduceSub, Nat.zero_add, r10, p1, h1, a1, q]
    · rw [if_neg q]
      simp (disch := first | omega | assumption) only [s152_0, s152_1, s152_4, s152_7, s152_8, s152_9, s152_10, s152_11, s152_12, s152_14, s152_16, s152_19, s152_20, s152_23, s152_26, s152_27, s152_28, s152_31, s152_32, s152_33, s152_34, s152_35, s152_36, s152_37, s152_40, s152_43, s152_44, nI_le2, nI_lt2, nI_eq2, nI_lt0, nI_0le, nI_0lt, nI_le0, nI_eq0, nI_clamp, nI_add, bu_nI, bb_0, bb_1, rf_s, rf_n, tl_s, tl_n, am_th_some, if_true, if_false, sI_eq, uI_eq, and_self, true_and, and_true, not_false_eq_true, not_true_eq_false, Nat.reduceEqDiff, Nat.reduceLeDiff, Nat.reduceLT, Nat.reduceAdd, Nat.reduceMul, Nat.reduceSub, Nat.zero_add, r10, p1, h1, a1, q, e1]
  · rw [e25, s152_13]
    simp (disch := first | omega | assumption) only [s152_0, s152_1, s152_4, s152_7, s152_8, s152_9, s152_10, s152_11, s152_12, s152_14, s152_16, s152_19, s152_20, s152_23, s152_26, s152_27, s152_28, s152_31, s152_32, s152_33, s152_34, s152_35, s152_36, s152_37, s152_40, s152_43, s152_44, nI_le2, nI_lt2, nI_eq2, nI_lt0, nI_0le, nI_0lt, nI_le0, nI_eq0, nI_clamp, nI_add, bu_nI, bb_0, bb_1, rf_s, rf_n, tl_s, tl_n, am_th_some, if_true, if_false, sI_eq, uI_eq, and_self, true_and, and_true, not_false_eq_true, not_true_eq_false, Nat.reduceEqDiff, Nat.reduceLeDiff, Nat.reduceLT, Nat.reduceAdd, Nat.reduceMul, Nat.reduceSub, Nat.zero_add]
end
