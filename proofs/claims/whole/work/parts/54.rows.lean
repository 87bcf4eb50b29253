/-! The class Ahead: rows of heat. -/
def sp_way (T : pl_T) (full : Int32) (w : Nat) (P : Nat → Nat → Int32) : (Nat → Nat → Int32) × Int32 := T (if w = 1 then full else nI 0) (if w = 2 then sp_mix P else P)
def sp_or (r : Nat → Option Nat) (first N : Nat) : Option Nat := am_fold (fun a w => a.or (if w < first then none else r w)) none N
theorem or_some {r : Nat → Option Nat} {first k N x : Nat} (h : sp_or r first k = some x) (hk : k ≤ N) : sp_or r first N = some x := by
  obtain ⟨m, rfl⟩ := Nat.exists_eq_add_of_le hk
  induction m with
  | zero => exact h
  | succ m ih => rw [sp_or, show k + (m + 1) = k + m + 1 from rfl, fold_s, show am_fold _ none (k + m) = some x from ih (by omega)]; rfl
/-- the least row of k TENS behind which it is SAFE and in which nothing BURSTS -/
def sp_row (T : pl_T) (full sf : Int32) (n first : Nat) : Nat → (Nat → Nat → Int32) → Option Nat
  | 0, P => if sp_safe sf n P then some 0 else none
  | k + 1, P => sp_or (fun w => if (sp_way T full w P).2 ≤ 0 then (sp_row T full sf n first k (sp_way T full w P).1).map (fun x => w * 10 ^ k + x) else none) first 3
theorem or_get {r : Nat → Option Nat} {first N x : Nat} (h : sp_or r first N = some x) : ∃ w, w < N ∧ r w = some x := by
  induction N with
  | zero => cases h
  | succ N ih =>
    rw [sp_or, fold_s] at h
    cases e : am_fold (fun a w => a.or (if w < first then none else r w)) none N with
    | some y =>
      rw [e] at h
      obtain ⟨w, hw, hx⟩ := ih (show sp_or r first N = some x by rw [sp_or, e]; exact h)
      exact ⟨w, by omega, hx⟩
    | none =>
      rw [e] at h
      have h : (if N < first then none else r N) = some x := h
      by_cases q : N < first
      · rw [if_pos q] at h; cases h
      · rw [if_neg q] at h; exact ⟨N, by omega, h⟩
theorem row_lt {T : pl_T} {full sf : Int32} {n first : Nat} : ∀ (k : Nat) (P : Nat → Nat → Int32) (x : Nat), sp_row T full sf n first k P = some x → x < 3 * 10 ^ k := by
  intro k
  induction k with
  | zero =>
    intro P x h
    rw [sp_row] at h
    by_cases q : sp_safe sf n P
    · rw [if_pos q] at h; cases h; decide
    · rw [if_neg q] at h; cases h
  | succ k ih =>
    intro P x h
    rw [sp_row] at h
    obtain ⟨w, hw, hx⟩ := or_get h
    by_cases q : (sp_way T full w P).2 ≤ 0
    · rw [if_pos q] at hx
      cases e : sp_row T full sf n first k (sp_way T full w P).1 with
      | none => rw [e] at hx; cases hx
      | some y =>
        rw [e] at hx
        have hx : w * 10 ^ k + y = x := Option.some.inj hx
        have := ih _ _ e
        have h10 : 10 ^ (k + 1) = 10 * 10 ^ k := by rw [Nat.pow_succ, Nat.mul_comm]
        have hw2 : w * 10 ^ k ≤ 2 * 10 ^ k := Nat.mul_le_mul_right _ (by omega)
        omega
    · rw [if_neg q] at hx; cases hx
def sp_oi (o : Option Nat) : Int32 := match o with
  | none => -nI 1
  | some x => nI x
theorem oi_no {o : Option Nat} (h : ∀ x, o = some x → x < 2 ^ 31) : (sp_oi o = -nI 1) = (o = none) := by
  cases o with
  | none => exact propext ⟨fun _ => rfl, fun _ => rfl⟩
  | some x => exact propext ⟨fun q => absurd q (m1_ne (h x rfl)), fun q => by cases q⟩
section
variable {d n b m u q : Nat} {I : am_I} {R : am_R} {Q : am_Q} {P : Nat → Nat → Int32} {T : pl_T}
theorem ten_le {k : Nat} (hk : k ≤ 5) : 10 ^ k ≤ 100000 := Nat.pow_le_pow_right (by decide) hk
theorem c_rowFrom (hr : aa_R R u) (hk : kT T n b) (hb : 1 ≤ b ∧ b ≤ 99) (hn2 : n ≤ 25) (hq : q ≤ 9) {first tens : Nat} (hf : first ≤ 1) (ht : tens ≤ 6) : ∀ (left : Nat) (I : am_I) (P : Nat → Nat → Int32) (m dep : Nat), dep + left = tens → cT T n b R Q I → I 14 u 2 = nI q → pt_I n b m P → m + left < 2 ^ 29 → pp_at I (3 + dep) P → ∃ J, am_cal (d + 9 + left) 9 [.ref (am_mk 1 0), .int (nI dep), .int (nI tens), .int (nI first)] I R Q = some (some (.int (sp_oi (sp_row T (nI q) (I 14 u 5) n first left P))), J, R, Q) ∧ am_fr ah_S I J ∧ am_fr (fun a b _ => ¬ ((a = 9 ∨ a = 19 ∨ a = 20 ∨ a = 21 ∨ a = 22) ∧ b ≤ 3 + dep)) I J := by
  have hr2 := hr
  obtain ⟨r0, r1, r2, r3, r4, r5⟩ := hr
  intro left
  induction left with
  | zero =>
    intro I P m dep hd hT hfu hI hm hP
    obtain rfl : dep = tens := by omega
    have hs := c_isSafe (d := d + 8) (Q := Q) r5 (r4 (3 + dep) (by omega)) hP hI.1 hn2
    refine ⟨I, ?_, fr_rf, fr_rf⟩
    rw [s9]
    by_cases sf : sp_safe (I 14 u 5) n P
    · rw [if_pos sf] at hs
      rw [sp_row, if_pos sf]
      simp (disch := first | omega | assumption) only [s9_0, s9_1, s9_2, s9_5, s9_7, s9_8, s9_9, s9_12, s9_13, s9_15, s9_18, s9_19, s9_22, s9_24, s9_27, s9_30, s9_31, s9_34, s9_35, s9_36, s9_37, s9_38, s9_39, s9_40, s9_43, s9_45, s9_46, s9_48, s9_49, s9_50, s9_51, s9_55, s9_56, s9_59, s9_61, s9_63, s9_64, s9_66, s9_69, s9_72, s9_73, s9_77, s9_78, s9_81, s9_83, s9_85, s9_88, s9_90, s9_91, s9_94, s9_96, s9_99, s9_101, s9_102, s9_105, s9_106, s9_109, s9_112, s9_115, s9_116, s9_117, s9_120, s9_121, s9_123, s9_124, s9_127, s9_129, s9_131, s9_134, s9_136, s9_138, s9_141, s9_142, s9_145, s9_146, s9_147, s9_148, s9_149, s9_150, s9_151, s9_154, s9_156, s9_158, s9_159, s9_162, s9_164, s9_166, s9_167, s9_169, s9_170, s9_171, s9_174, s9_177, s9_178, nI_le2, nI_lt2, nI_eq2, nI_lt0, nI_0le, nI_0lt, nI_le0, nI_eq0, nI_clamp, nI_add, bu_nI, bb_0, bb_1, rf_s, rf_n, tl_s, tl_n, am_th_some, if_true, if_false, sI_eq, uI_eq, and_self, true_and, and_true, not_false_eq_true, not_true_eq_false, Nat.reduceEqDiff, Nat.reduceLeDiff, Nat.reduceLT, Nat.reduceAdd, Nat.reduceMul, Nat.reduceSub, Nat.zero_add, c_plateAt (d := d + 8) hr2 (show dep < 9 by omega), Nat.le_refl, r0, hs, Nat.add_zero]
      rfl
    · rw [if_neg sf] at hs
      rw [sp_row, if_neg sf]
      simp (disch := first | omega | assumption) only [s9_0, s9_1, s9_2, s9_5, s9_7, s9_8, s9_9, s9_12, s9_13, s9_15, s9_18, s9_19, s9_22, s9_24, s9_27, s9_30, s9_31, s9_34, s9_35, s9_36, s9_37, s9_38, s9_39, s9_40, s9_43, s9_45, s9_46, s9_48, s9_49, s9_50, s9_51, s9_55, s9_56, s9_59, s9_61, s9_63, s9_64, s9_66, s9_69, s9_72, s9_73, s9_77, s9_78, s9_81, s9_83, s9_85, s9_88, s9_90, s9_91, s9_94, s9_96, s9_99, s9_101, s9_102, s9_105, s9_106, s9_109, s9_112, s9_115, s9_116, s9_117, s9_120, s9_121, s9_123, s9_124, s9_127, s9_129, s9_131, s9_134, s9_136, s9_138, s9_141, s9_142, s9_145, s9_146, s9_147, s9_148, s9_149, s9_150, s9_151, s9_154, s9_156, s9_158, s9_159, s9_162, s9_164, s9_166, s9_167, s9_169, s9_170, s9_171, s9_174, s9_177, s9_178, nI_le2, nI_lt2, nI_eq2, nI_lt0, nI_0le, nI_0lt, nI_le0, nI_eq0, nI_clamp, nI_add, bu_nI, bb_0, bb_1, rf_s, rf_n, tl_s, tl_n, am_th_some, if_true, if_false, sI_eq, uI_eq, and_self, true_and, and_true, not_false_eq_true, not_true_eq_false, Nat.reduceEqDiff, Nat.reduceLeDiff, Nat.reduceLT, Nat.reduceAdd, Nat.reduceMul, Nat.reduceSub, Nat.zero_add, c_plateAt (d := d + 8) hr2 (show dep < 9 by omega), Nat.le_refl, r0, hs, Nat.add_zero]
      rfl
  | succ left ih =>
    intro I P m dep hd hT hfu hI hm hP
    have e14 : ∀ {J} j, am_fr ah_S I J → J 14 u j = I 14 u j := fun {J} j hf => hf _ _ _ (fun w => by unfold ah_S at w; omega)
    have h1 : ¬ tens ≤ dep := by omega
    have h2 : (dep < 6) = True := eq_true (by omega)
    have h3 : ¬ 6 ≤ dep := by omega
    have worth : ∀ l5 : Value, am_ev (d + 9 + (left + 1)) 9 53 [.ref (am_mk 1 0), .int (nI dep), .int (nI tens), .int (nI first), .ref (am_mk 9 (3 + dep)), l5, .int (nI 1), .int (nI (dep + 1)), am_J, am_J, am_J] [] I R Q = am_ev (d + 9 + (left + 1)) 9 72 [.ref (am_mk 1 0), .int (nI dep), .int (nI tens), .int (nI first), .ref (am_mk 9 (3 + dep)), l5, .int (nI (10 ^ left)), .int (nI tens), am_J, am_J, am_J] [] I R Q := by
      intro l5
      refine loop_inv (f := fun (a : Nat) c => am_ev (d + 9 + (left + 1)) 9 53 [.ref (am_mk 1 0), .int (nI dep), .int (nI tens), .int (nI first), .ref (am_mk 9 (3 + dep)), l5, .int (nI a), .int (nI c), am_J, am_J, am_J] [] I R Q) (Inv := fun c a => a = 10 ^ (c - dep - 1) ∧ dep + 1 ≤ c) (Post := fun y => y = am_ev (d + 9 + (left + 1)) 9 72 [.ref (am_mk 1 0), .int (nI dep), .int (nI tens), .int (nI first), .ref (am_mk 9 (3 + dep)), l5, .int (nI (10 ^ left)), .int (nI tens), am_J, am_J, am_J] [] I R Q) (n := tens) ?_ ?_ (c := dep + 1) (by omega) (a := 1) ⟨by rw [show dep + 1 - dep - 1 = 0 by omega], Nat.le_refl _⟩
      · intro c a hc ⟨ha, hc1⟩
        left
        have h4 : ¬ tens ≤ c := by omega
        refine ⟨a * 10, ?_, by rw [ha, show c + 1 - dep - 1 = c - dep - 1 + 1 by omega, Nat.pow_succ], by omega⟩
        rw [s9_53]
        simp (disch := first | omega | assumption) only [s9_0, s9_1, s9_2, s9_5, s9_7, s9_8, s9_9, s9_12, s9_13, s9_15, s9_18, s9_19, s9_22, s9_24, s9_27, s9_30, s9_31, s9_34, s9_35, s9_36, s9_37, s9_38, s9_39, s9_40, s9_43, s9_45, s9_46, s9_48, s9_49, s9_50, s9_51, s9_55, s9_56, s9_59, s9_61, s9_63, s9_64, s9_66, s9_69, s9_73, s9_77, s9_78, s9_81, s9_83, s9_85, s9_88, s9_90, s9_91, s9_94, s9_96, s9_99, s9_101, s9_102, s9_105, s9_106, s9_109, s9_112, s9_115, s9_116, s9_117, s9_120, s9_121, s9_123, s9_124, s9_127, s9_129, s9_131, s9_134, s9_136, s9_138, s9_141, s9_142, s9_145, s9_146, s9_147, s9_148, s9_149, s9_150, s9_151, s9_154, s9_156, s9_158, s9_159, s9_162, s9_164, s9_166, s9_167, s9_169, s9_170, s9_171, s9_174, s9_177, s9_178, nI_le2, nI_lt2, nI_eq2, nI_lt0, nI_0le, nI_0lt, nI_le0, nI_eq0, nI_clamp, nI_add, bu_nI, bb_0, bb_1, rf_s, rf_n, tl_s, tl_n, am_th_some, if_true, if_false, sI_eq, uI_eq, and_self, true_and, and_true, not_false_eq_true, not_true_eq_false, Nat.reduceEqDiff, Nat.reduceLeDiff, Nat.reduceLT, Nat.reduceAdd, Nat.reduceMul, Nat.reduceSub, Nat.zero_add, h4, nI_mul]
      · intro a ⟨ha, hc1⟩
        rw [s9_53]
        simp (disch := first | omega | assumption) only [s9_0, s9_1, s9_2, s9_5, s9_7, s9_8, s9_9, s9_12, s9_13, s9_15, s9_18, s9_19, s9_22, s9_24, s9_27, s9_30, s9_31, s9_34, s9_35, s9_36, s9_37, s9_38, s9_39, s9_40, s9_43, s9_45, s9_46, s9_48, s9_49, s9_50, s9_51, s9_55, s9_56, s9_59, s9_61, s9_63, s9_64, s9_66, s9_69, s9_73, s9_77, s9_78, s9_81, s9_83, s9_85, s9_88, s9_90, s9_91, s9_94, s9_96, s9_99, s9_101, s9_102, s9_105, s9_106, s9_109, s9_112, s9_115, s9_116, s9_117, s9_120, s9_121, s9_123, s9_124, s9_127, s9_129, s9_131, s9_134, s9_136, s9_138, s9_141, s9_142, s9_145, s9_146, s9_147, s9_148, s9_149, s9_150, s9_151, s9_154, s9_156, s9_158, s9_159, s9_162, s9_164, s9_166, s9_167, s9_169, s9_170, s9_171, s9_174, s9_177, s9_178, nI_le2, nI_lt2, nI_eq2, nI_lt0, nI_0le, nI_0lt, nI_le0, nI_eq0, nI_clamp, nI_add, bu_nI, bb_0, bb_1, rf_s, rf_n, tl_s, tl_n, am_th_some, if_true, if_false, sI_eq, uI_eq, and_self, true_and, and_true, not_false_eq_true, not_true_eq_false, Nat.reduceEqDiff, Nat.reduceLeDiff, Nat.reduceLT, Nat.reduceAdd, Nat.reduceMul, Nat.reduceSub, Nat.zero_add, Nat.le_refl]
        rw [ha, show tens - dep - 1 = left by omega]
    have h10 : 10 ^ left ≤ 100000 := ten_le (by omega)
    let r : Nat → Option Nat := fun w => if (sp_way T (nI q) w P).2 ≤ 0 then (sp_row T (nI q) (I 14 u 5) n first left (sp_way T (nI q) w P).1).map (fun x => w * 10 ^ left + x) else none
    have hrow : sp_row T (nI q) (I 14 u 5) n first (left + 1) P = sp_or r first 3 := rfl
    let FR : Nat → Nat → Nat → Prop := fun a b _ => ¬ ((a = 9 ∨ a = 19 ∨ a = 20 ∨ a = 21 ∨ a = 22) ∧ b ≤ 3 + dep)
    have loop : ∀ l8 l9 l10 : Value, ∃ J, am_ev (d + 9 + (left + 1)) 9 75 [.ref (am_mk 1 0), .int (nI dep), .int (nI tens), .int (nI first), .ref (am_mk 9 (3 + dep)), .ref (am_mk 9 (3 + (dep + 1))), .int (nI (10 ^ left)), .int (nI first), l8, l9, l10] [] I R Q = some (some (.int (sp_oi (sp_or r first 3))), J, R, Q) ∧ am_fr ah_S I J ∧ am_fr FR I J := by
      intro l8 l9 l10
      refine loop_inv (f := fun (a : am_I × Value × Value × Value) c => am_ev (d + 9 + (left + 1)) 9 75 [.ref (am_mk 1 0), .int (nI dep), .int (nI tens), .int (nI first), .ref (am_mk 9 (3 + dep)), .ref (am_mk 9 (3 + (dep + 1))), .int (nI (10 ^ left)), .int (nI c), a.2.1, a.2.2.1, a.2.2.2] [] a.1 R Q) (Inv := fun c a => am_fr ah_S I a.1 ∧ am_fr FR I a.1 ∧ sp_or r first c = none ∧ first ≤ c) (Post := fun y => ∃ J, y = some (some (.int (sp_oi (sp_or r first 3))), J, R, Q) ∧ am_fr ah_S I J ∧ am_fr FR I J) (n := 3) ?_ ?_ (c := first) (by omega) (a := (I, l8, l9, l10)) ⟨fr_rf, fr_rf, ?_, Nat.le_refl _⟩
      · intro w ⟨J, l8, l9, l10⟩ hw ⟨f1, f2, f3, f4⟩
        have f1 : am_fr ah_S I J := f1
        have f2 : am_fr FR I J := f2
        have hPJ : pp_at J (3 + dep) P := pl_fr hP f2 (fun a j ha v => v ⟨ha, Nat.le_refl _⟩)
        obtain ⟨J1, a1, a2, a3⟩ := c_become (d := d + 9 + left) (Q := Q) (r4 (3 + dep) (by omega)) (r4 (3 + (dep + 1)) (by omega)) (by omega) hPJ (pt_bb hI)
        have pF : ∀ a b j, pp_S (3 + (dep + 1)) a b j → FR a b j := fun a b j v w => by unfold pp_S at v; omega
        have kF : ∀ a b j, kk_S (3 + (dep + 1)) a b j → FR a b j := fun a b j v w => by unfold kk_S at v; omega
        have f1' := fr_x f1 a2 (pS_ah (by omega) (by omega))
        have f2' := fr_x f2 a2 pF
        -- stirred, or not
        obtain ⟨J2, s1, s2, s3, s4⟩ : ∃ J2, am_ev (d + 9 + (left + 1)) 9 75 [.ref (am_mk 1 0), .int (nI dep), .int (nI tens), .int (nI first), .ref (am_mk 9 (3 + dep)), .ref (am_mk 9 (3 + (dep + 1))), .int (nI (10 ^ left)), .int (nI w), l8, l9, l10] [] J R Q = am_ev (d + 9 + (left + 1)) 9 99 [.ref (am_mk 1 0), .int (nI dep), .int (nI tens), .int (nI first), .ref (am_mk 9 (3 + dep)), .ref (am_mk 9 (3 + (dep + 1))), .int (nI (10 ^ left)), .int (nI w), l8, l9, l10] [] J2 R Q ∧ am_fr ah_S I J2 ∧ am_fr FR I J2 ∧ pp_at J2 (3 + (dep + 1)) (if w = 2 then sp_mix P else P) := by
          have h4 : ¬ 3 ≤ w := by omega
          by_cases e : w = 2
          · obtain ⟨J2, b1, b2, b3⟩ := c_mix (d := d + 7 + left) (Q := Q) (r4 (3 + (dep + 1)) (by omega)) a3
            rw [show d + 7 + left + 2 = d + 9 + left by omega] at b1
            refine ⟨J2, ?_, fr_x f1' b2 (pS_ah (by omega) (by omega)), fr_x f2' b2 pF, by rw [if_pos e]; exact b3⟩
            subst e
            rw [s9_75]
            rw [show d + 9 + (left + 1) = d + 9 + left + 1 by omega]
            simp (disch := first | omega | assumption) only [s9_0, s9_1, s9_2, s9_5, s9_7, s9_8, s9_9, s9_12, s9_13, s9_15, s9_18, s9_19, s9_22, s9_24, s9_27, s9_30, s9_31, s9_34, s9_35, s9_36, s9_37, s9_38, s9_39, s9_40, s9_43, s9_45, s9_46, s9_48, s9_49, s9_50, s9_51, s9_55, s9_56, s9_59, s9_61, s9_63, s9_64, s9_66, s9_69, s9_72, s9_73, s9_77, s9_78, s9_81, s9_83, s9_85, s9_88, s9_90, s9_91, s9_94, s9_96, s9_101, s9_102, s9_105, s9_106, s9_109, s9_112, s9_115, s9_116, s9_117, s9_120, s9_121, s9_123, s9_124, s9_127, s9_129, s9_131, s9_134, s9_136, s9_138, s9_141, s9_142, s9_145, s9_146, s9_147, s9_148, s9_149, s9_150, s9_151, s9_154, s9_156, s9_158, s9_159, s9_162, s9_164, s9_166, s9_167, s9_169, s9_170, s9_171, s9_174, s9_177, s9_178, nI_le2, nI_lt2, nI_eq2, nI_lt0, nI_0le, nI_0lt, nI_le0, nI_eq0, nI_clamp, nI_add, bu_nI, bb_0, bb_1, rf_s, rf_n, tl_s, tl_n, am_th_some, if_true, if_false, sI_eq, uI_eq, and_self, true_and, and_true, not_false_eq_true, not_true_eq_false, Nat.reduceEqDiff, Nat.reduceLeDiff, Nat.reduceLT, Nat.reduceAdd, Nat.reduceMul, Nat.reduceSub, Nat.zero_add, a1, b1]
          · refine ⟨J1, ?_, f1', f2', by rw [if_neg e]; exact a3⟩
            rw [s9_75]
            rw [show d + 9 + (left + 1) = d + 9 + left + 1 by omega]
            simp (disch := first | omega | assumption) only [s9_0, s9_1, s9_2, s9_5, s9_7, s9_8, s9_9, s9_12, s9_13, s9_15, s9_18, s9_19, s9_22, s9_24, s9_27, s9_30, s9_31, s9_34, s9_35, s9_36, s9_37, s9_38, s9_39, s9_40, s9_43, s9_45, s9_46, s9_48, s9_49, s9_50, s9_51, s9_55, s9_56, s9_59, s9_61, s9_63, s9_64, s9_66, s9_69, s9_72, s9_73, s9_77, s9_78, s9_81, s9_83, s9_85, s9_88, s9_90, s9_91, s9_94, s9_96, s9_101, s9_102, s9_105, s9_106, s9_109, s9_112, s9_115, s9_116, s9_117, s9_120, s9_121, s9_123, s9_124, s9_127, s9_129, s9_131, s9_134, s9_136, s9_138, s9_141, s9_142, s9_145, s9_146, s9_147, s9_148, s9_149, s9_150, s9_151, s9_154, s9_156, s9_158, s9_159, s9_162, s9_164, s9_166, s9_167, s9_169, s9_170, s9_171, s9_174, s9_177, s9_178, nI_le2, nI_lt2, nI_eq2, nI_lt0, nI_0le, nI_0lt, nI_le0, nI_eq0, nI_clamp, nI_add, bu_nI, bb_0, bb_1, rf_s, rf_n, tl_s, tl_n, am_th_some, if_true, if_false, sI_eq, uI_eq, and_self, true_and, and_true, not_false_eq_true, not_true_eq_false, Nat.reduceEqDiff, Nat.reduceLeDiff, Nat.reduceLT, Nat.reduceAdd, Nat.reduceMul, Nat.reduceSub, Nat.zero_add, h4, a1, e]
        have hIx : pt_I n b m (if w = 2 then sp_mix P else P) := by
          by_cases e : w = 2
          · rw [if_pos e]; exact mix_I hb hI
          · rw [if_neg e]; exact hI
        obtain ⟨pq, hpq, epq⟩ : ∃ pq, pq ≤ 9 ∧ (if w = 1 then nI q else nI 0) = nI pq := by
          by_cases e : w = 1
          · exact ⟨q, hq, by rw [if_pos e]⟩
          · exact ⟨0, by decide, by rw [if_neg e]⟩
        obtain ⟨J3, g1, g2, g3⟩ := hT (d + 1 + left) J2 (3 + (dep + 1)) m pq _ (fr_mo s2 ah_ev) (by omega) s4 hIx (by omega) hpq
        rw [show d + 1 + left + 8 = d + 9 + left by omega] at g1
        rw [← epq] at g1 g3
        obtain ⟨k1, uu, hu, k2⟩ := hk m pq _ hIx
        rw [← epq] at k1 k2
        have f5 := fr_x s2 g2 (kS_ah (by omega) (by omega))
        have f6 := fr_x s3 g2 kF
        have hway : sp_way T (nI q) w P = T (if w = 1 then nI q else nI 0) (if w = 2 then sp_mix P else P) := rfl
        have e2 := (e14 2 s2).trans hfu
        have bu2 : am_bu (nI 2) 6 = True := bu_nI (by decide)
        obtain ⟨k0, k1', k2', k3, k4, k5⟩ := r5
        have toT : am_ev (d + 9 + (left + 1)) 9 99 [.ref (am_mk 1 0), .int (nI dep), .int (nI tens), .int (nI first), .ref (am_mk 9 (3 + dep)), .ref (am_mk 9 (3 + (dep + 1))), .int (nI (10 ^ left)), .int (nI w), l8, l9, l10] [] J2 R Q = am_ev (d + 9 + (left + 1)) 9 136 [.ref (am_mk 1 0), .int (nI dep), .int (nI tens), .int (nI first), .ref (am_mk 9 (3 + dep)), .ref (am_mk 9 (3 + (dep + 1))), .int (nI (10 ^ left)), .int (nI w), .int (if w = 1 then nI q else nI 0), .int (nI uu), l10] [] J3 R Q := by
          rw [show d + 9 + (left + 1) = d + 9 + left + 1 by omega]
          by_cases e : w = 1
          · rw [k2, if_pos e] at g1
            rw [if_pos e]
            simp (disch := first | omega | assumption) only [s9_0, s9_1, s9_2, s9_5, s9_7, s9_8, s9_9, s9_12, s9_13, s9_15, s9_18, s9_19, s9_22, s9_24, s9_27, s9_30, s9_31, s9_34, s9_35, s9_36, s9_37, s9_38, s9_39, s9_40, s9_43, s9_45, s9_46, s9_48, s9_49, s9_50, s9_51, s9_55, s9_56, s9_59, s9_61, s9_63, s9_64, s9_66, s9_69, s9_72, s9_73, s9_77, s9_78, s9_81, s9_83, s9_85, s9_88, s9_90, s9_91, s9_94, s9_96, s9_99, s9_101, s9_102, s9_105, s9_106, s9_109, s9_112, s9_115, s9_116, s9_117, s9_120, s9_121, s9_123, s9_124, s9_127, s9_129, s9_131, s9_134, s9_138, s9_141, s9_142, s9_145, s9_146, s9_147, s9_148, s9_149, s9_150, s9_151, s9_154, s9_156, s9_158, s9_159, s9_162, s9_164, s9_166, s9_167, s9_169, s9_170, s9_171, s9_174, s9_177, s9_178, nI_le2, nI_lt2, nI_eq2, nI_lt0, nI_0le, nI_0lt, nI_le0, nI_eq0, nI_clamp, nI_add, bu_nI, bb_0, bb_1, rf_s, rf_n, tl_s, tl_n, am_th_some, if_true, if_false, sI_eq, uI_eq, and_self, true_and, and_true, not_false_eq_true, not_true_eq_false, Nat.reduceEqDiff, Nat.reduceLeDiff, Nat.reduceLT, Nat.reduceAdd, Nat.reduceMul, Nat.reduceSub, Nat.zero_add, e, r0, k0, k3, e2, bu2, g1]
          · rw [k2, if_neg e] at g1
            rw [if_neg e]
            simp (disch := first | omega | assumption) only [s9_0, s9_1, s9_2, s9_5, s9_7, s9_8, s9_9, s9_12, s9_13, s9_15, s9_18, s9_19, s9_22, s9_24, s9_27, s9_30, s9_31, s9_34, s9_35, s9_36, s9_37, s9_38, s9_39, s9_40, s9_43, s9_45, s9_46, s9_48, s9_49, s9_50, s9_51, s9_55, s9_56, s9_59, s9_61, s9_63, s9_64, s9_66, s9_69, s9_72, s9_73, s9_77, s9_78, s9_81, s9_83, s9_85, s9_88, s9_90, s9_91, s9_94, s9_96, s9_99, s9_101, s9_102, s9_105, s9_106, s9_109, s9_112, s9_115, s9_116, s9_117, s9_120, s9_121, s9_123, s9_124, s9_127, s9_129, s9_131, s9_134, s9_138, s9_141, s9_142, s9_145, s9_146, s9_147, s9_148, s9_149, s9_150, s9_151, s9_154, s9_156, s9_158, s9_159, s9_162, s9_164, s9_166, s9_167, s9_169, s9_170, s9_171, s9_174, s9_177, s9_178, nI_le2, nI_lt2, nI_eq2, nI_lt0, nI_0le, nI_0lt, nI_le0, nI_eq0, nI_clamp, nI_add, bu_nI, bb_0, bb_1, rf_s, rf_n, tl_s, tl_n, am_th_some, if_true, if_false, sI_eq, uI_eq, and_self, true_and, and_true, not_false_eq_true, not_true_eq_false, Nat.reduceEqDiff, Nat.reduceLeDiff, Nat.reduceLT, Nat.reduceAdd, Nat.reduceMul, Nat.reduceSub, Nat.zero_add, e, r0, g1]
        by_cases hu0 : uu = 0
        · have hle : (sp_way T (nI q) w P).2 ≤ 0 := by rw [hway, k2, hu0]; decide
          obtain ⟨J4, i1, i2, i3⟩ := ih J3 (sp_way T (nI q) w P).1 (m + 1) (dep + 1) (by omega) (cT_fr hT (fr_mo f5 ah_ev)) ((e14 2 f5).trans hfu) (by rw [hway]; exact k1) (by omega) (by rw [hway]; exact g3)
          rw [e14 5 f5] at i1
          have i3' : am_fr FR J3 J4 := fr_mo i3 (fun a b j v w => v ⟨w.1, by omega⟩)
          cases ho : sp_row T (nI q) (I 14 u 5) n first left (sp_way T (nI q) w P).1 with
          | none =>
            left
            rw [ho] at i1
            have i1 : am_cal (d + 9 + left) 9 [.ref (am_mk 1 0), .int (nI (dep + 1)), .int (nI tens), .int (nI first)] J3 R Q = some (some (.int (-nI 1)), J4, R, Q) := i1
            have hrw : r w = none := by show (if _ then _ else _) = _; rw [if_pos hle, ho]; rfl
            refine ⟨(J4, .int (if w = 1 then nI q else nI 0), .int (nI uu), .int (-nI 1)), (s1.trans toT).trans ?_, fr_tr f5 i2, fr_tr f6 i3', ?_, by omega⟩
            · rw [show d + 9 + (left + 1) = d + 9 + left + 1 by omega, hu0]
              simp (disch := first | omega | assumption) only [s9_0, s9_1, s9_2, s9_5, s9_7, s9_8, s9_9, s9_12, s9_13, s9_15, s9_18, s9_19, s9_22, s9_24, s9_27, s9_30, s9_31, s9_34, s9_35, s9_36, s9_37, s9_38, s9_39, s9_40, s9_43, s9_45, s9_46, s9_48, s9_49, s9_50, s9_51, s9_55, s9_56, s9_59, s9_61, s9_63, s9_64, s9_66, s9_69, s9_72, s9_73, s9_77, s9_78, s9_81, s9_83, s9_85, s9_88, s9_90, s9_91, s9_94, s9_96, s9_99, s9_101, s9_102, s9_105, s9_106, s9_109, s9_112, s9_115, s9_116, s9_117, s9_120, s9_121, s9_123, s9_124, s9_127, s9_129, s9_131, s9_134, s9_136, s9_138, s9_141, s9_142, s9_145, s9_146, s9_147, s9_148, s9_149, s9_150, s9_151, s9_154, s9_156, s9_158, s9_159, s9_162, s9_164, s9_166, s9_167, s9_169, s9_170, s9_171, s9_174, s9_177, s9_178, nI_le2, nI_lt2, nI_eq2, nI_lt0, nI_0le, nI_0lt, nI_le0, nI_eq0, nI_clamp, nI_add, bu_nI, bb_0, bb_1, rf_s, rf_n, tl_s, tl_n, am_th_some, if_true, if_false, sI_eq, uI_eq, and_self, true_and, and_true, not_false_eq_true, not_true_eq_false, Nat.reduceEqDiff, Nat.reduceLeDiff, Nat.reduceLT, Nat.reduceAdd, Nat.reduceMul, Nat.reduceSub, Nat.zero_add, i1] <;> rfl
            · rw [sp_or, fold_s, show am_fold _ none w = none from f3, hrw]
              split <;> rfl
          | some x =>
            right
            rw [ho] at i1
            have i1 : am_cal (d + 9 + left) 9 [.ref (am_mk 1 0), .int (nI (dep + 1)), .int (nI tens), .int (nI first)] J3 R Q = some (some (.int (nI x)), J4, R, Q) := i1
            have hx := row_lt _ _ _ ho
            have hne : (nI x = -nI 1) = False := eq_false (m1_ne (by omega))
            have hrw : r w = some (w * 10 ^ left + x) := by show (if _ then _ else _) = _; rw [if_pos hle, ho]; rfl
            have hor : sp_or r first 3 = some (w * 10 ^ left + x) := or_some (k := w + 1) (by
              rw [sp_or, fold_s, show am_fold _ none w = none from f3, hrw, if_neg (by omega)]; rfl) (by omega)
            refine ⟨J4, (s1.trans toT).trans ?_, fr_tr f5 i2, fr_tr f6 i3'⟩
            rw [show d + 9 + (left + 1) = d + 9 + left + 1 by omega, hu0, hor]
            simp (disch := first | omega | assumption) only [s9_0, s9_1, s9_2, s9_5, s9_7, s9_8, s9_9, s9_12, s9_13, s9_15, s9_18, s9_19, s9_22, s9_24, s9_27, s9_30, s9_31, s9_34, s9_35, s9_36, s9_37, s9_38, s9_39, s9_40, s9_43, s9_45, s9_46, s9_48, s9_49, s9_50, s9_51, s9_55, s9_56, s9_59, s9_61, s9_63, s9_64, s9_66, s9_69, s9_72, s9_73, s9_77, s9_78, s9_81, s9_83, s9_85, s9_88, s9_90, s9_91, s9_94, s9_96, s9_99, s9_101, s9_102, s9_105, s9_106, s9_109, s9_112, s9_115, s9_116, s9_117, s9_120, s9_121, s9_123, s9_124, s9_127, s9_129, s9_131, s9_134, s9_136, s9_138, s9_141, s9_142, s9_145, s9_146, s9_147, s9_148, s9_149, s9_150, s9_151, s9_154, s9_156, s9_158, s9_159, s9_162, s9_164, s9_166, s9_167, s9_169, s9_170, s9_171, s9_174, s9_177, s9_178, nI_le2, nI_lt2, nI_eq2, nI_lt0, nI_0le, nI_0lt, nI_le0, nI_eq0, nI_clamp, nI_add, bu_nI, bb_0, bb_1, rf_s, rf_n, tl_s, tl_n, am_th_some, if_true, if_false, sI_eq, uI_eq, and_self, true_and, and_true, not_false_eq_true, not_true_eq_false, Nat.reduceEqDiff, Nat.reduceLeDiff, Nat.reduceLT, Nat.reduceAdd, Nat.reduceMul, Nat.reduceSub, Nat.zero_add, i1, hne, nI_mul]
            rfl
        · left
          have hle : ¬ (sp_way T (nI q) w P).2 ≤ 0 := by rw [hway, k2, nI_le0 (by omega)]; exact hu0
          have hrw : r w = none := by show (if _ then _ else _) = _; rw [if_neg hle]
          refine ⟨(J3, .int (if w = 1 then nI q else nI 0), .int (nI uu), .int (-nI 1)), (s1.trans toT).trans ?_, f5, f6, ?_, by omega⟩
          · rw [show d + 9 + (left + 1) = d + 9 + left + 1 by omega]
            simp (disch := first | omega | assumption) only [s9_0, s9_1, s9_2, s9_5, s9_7, s9_8, s9_9, s9_12, s9_13, s9_15, s9_18, s9_19, s9_22, s9_24, s9_27, s9_30, s9_31, s9_34, s9_35, s9_36, s9_37, s9_38, s9_39, s9_40, s9_43, s9_45, s9_46, s9_48, s9_49, s9_50, s9_51, s9_55, s9_56, s9_59, s9_61, s9_63, s9_64, s9_66, s9_69, s9_72, s9_73, s9_77, s9_78, s9_81, s9_83, s9_85, s9_88, s9_90, s9_91, s9_94, s9_96, s9_99, s9_101, s9_102, s9_105, s9_106, s9_109, s9_112, s9_115, s9_116, s9_117, s9_120, s9_121, s9_123, s9_124, s9_127, s9_129, s9_131, s9_134, s9_136, s9_138, s9_141, s9_142, s9_145, s9_146, s9_147, s9_148, s9_149, s9_150, s9_151, s9_154, s9_156, s9_158, s9_159, s9_162, s9_164, s9_166, s9_167, s9_169, s9_170, s9_171, s9_174, s9_177, s9_178, nI_le2, nI_lt2, nI_eq2, nI_lt0, nI_0le, nI_0lt, nI_le0, nI_eq0, nI_clamp, nI_add, bu_nI, bb_0, bb_1, rf_s, rf_n, tl_s, tl_n, am_th_some, if_true, if_false, sI_eq, uI_eq, and_self, true_and, and_true, not_false_eq_true, not_true_eq_false, Nat.reduceEqDiff, Nat.reduceLeDiff, Nat.reduceLT, Nat.reduceAdd, Nat.reduceMul, Nat.reduceSub, Nat.zero_add, hu0] <;> rfl
          · rw [sp_or, fold_s, show am_fold _ none w = none from f3, hrw]
            split <;> rfl
      · intro ⟨J, l8, l9, l10⟩ ⟨f1, f2, f3, f4⟩
        refine ⟨J, ?_, f1, f2⟩
        rw [s9_75]
        simp (disch := first | omega | assumption) only [s9_0, s9_1, s9_2, s9_5, s9_7, s9_8, s9_9, s9_12, s9_13, s9_15, s9_18, s9_19, s9_22, s9_24, s9_27, s9_30, s9_31, s9_34, s9_35, s9_36, s9_37, s9_38, s9_39, s9_40, s9_43, s9_45, s9_46, s9_48, s9_49, s9_50, s9_51, s9_55, s9_56, s9_59, s9_61, s9_63, s9_64, s9_66, s9_69, s9_72, s9_73, s9_77, s9_78, s9_81, s9_83, s9_85, s9_88, s9_90, s9_91, s9_94, s9_96, s9_99, s9_101, s9_102, s9_105, s9_106, s9_109, s9_112, s9_115, s9_116, s9_117, s9_120, s9_121, s9_123, s9_124, s9_127, s9_129, s9_131, s9_134, s9_136, s9_138, s9_141, s9_142, s9_145, s9_146, s9_147, s9_148, s9_149, s9_150, s9_151, s9_154, s9_156, s9_158, s9_159, s9_162, s9_164, s9_166, s9_167, s9_169, s9_170, s9_171, s9_174, s9_177, s9_178, nI_le2, nI_lt2, nI_eq2, nI_lt0, nI_0le, nI_0lt, nI_le0, nI_eq0, nI_clamp, nI_add, bu_nI, bb_0, bb_1, rf_s, rf_n, tl_s, tl_n, am_th_some, if_true, if_false, sI_eq, uI_eq, and_self, true_and, and_true, not_false_eq_true, not_true_eq_false, Nat.reduceEqDiff, Nat.reduceLeDiff, Nat.reduceLT, Nat.reduceAdd, Nat.reduceMul, Nat.reduceSub, Nat.zero_add, Nat.le_refl]
        rw [f3]
        rfl
      · rcases (show first = 0 ∨ first = 1 by omega) with e | e
        · subst e; rfl
        · subst e; rfl
    obtain ⟨J, g1, g2, g3⟩ := loop am_J am_J am_J
    refine ⟨J, ?_, g2, g3⟩
    rw [s9, hrow]
    rw [show d + 9 + (left + 1) = d + 9 + left + 1 by omega] at worth g1 ⊢
    simp (disch := first | omega | assumption) only [s9_0, s9_1, s9_2, s9_5, s9_7, s9_8, s9_9, s9_12, s9_13, s9_15, s9_18, s9_19, s9_22, s9_24, s9_27, s9_30, s9_31, s9_34, s9_35, s9_36, s9_37, s9_38, s9_39, s9_40, s9_43, s9_45, s9_46, s9_48, s9_49, s9_50, s9_51, s9_55, s9_56, s9_59, s9_61, s9_63, s9_64, s9_66, s9_69, s9_72, s9_73, s9_77, s9_78, s9_81, s9_83, s9_85, s9_88, s9_90, s9_91, s9_94, s9_96, s9_99, s9_101, s9_102, s9_105, s9_106, s9_109, s9_112, s9_115, s9_116, s9_117, s9_120, s9_121, s9_123, s9_124, s9_127, s9_129, s9_131, s9_134, s9_136, s9_138, s9_141, s9_142, s9_145, s9_146, s9_147, s9_148, s9_149, s9_150, s9_151, s9_154, s9_156, s9_158, s9_159, s9_162, s9_164, s9_166, s9_167, s9_169, s9_170, s9_171, s9_174, s9_177, s9_178, nI_le2, nI_lt2, nI_eq2, nI_lt0, nI_0le, nI_0lt, nI_le0, nI_eq0, nI_clamp, nI_add, bu_nI, bb_0, bb_1, rf_s, rf_n, tl_s, tl_n, am_th_some, if_true, if_false, sI_eq, uI_eq, and_self, true_and, and_true, not_false_eq_true, not_true_eq_false, Nat.reduceEqDiff, Nat.reduceLeDiff, Nat.reduceLT, Nat.reduceAdd, Nat.reduceMul, Nat.reduceSub, Nat.zero_add, c_plateAt (d := d + 9 + left) hr2 (show dep < 9 by omega), c_plateAt (d := d + 9 + left) hr2 (show dep + 1 < 9 by omega), h1, h2, h3]
    rw [worth]
    simp (disch := first | omega | assumption) only [s9_0, s9_1, s9_2, s9_5, s9_7, s9_8, s9_9, s9_12, s9_13, s9_15, s9_18, s9_19, s9_22, s9_24, s9_27, s9_30, s9_31, s9_34, s9_35, s9_36, s9_37, s9_38, s9_39, s9_40, s9_43, s9_45, s9_46, s9_48, s9_49, s9_50, s9_51, s9_55, s9_56, s9_59, s9_61, s9_63, s9_64, s9_66, s9_69, s9_72, s9_73, s9_77, s9_78, s9_81, s9_83, s9_85, s9_88, s9_90, s9_91, s9_94, s9_96, s9_99, s9_101, s9_102, s9_105, s9_106, s9_109, s9_112, s9_115, s9_116, s9_117, s9_120, s9_121, s9_123, s9_124, s9_127, s9_129, s9_131, s9_134, s9_136, s9_138, s9_141, s9_142, s9_145, s9_146, s9_147, s9_148, s9_149, s9_150, s9_151, s9_154, s9_156, s9_158, s9_159, s9_162, s9_164, s9_166, s9_167, s9_169, s9_170, s9_171, s9_174, s9_177, s9_178, nI_le2, nI_lt2, nI_eq2, nI_lt0, nI_0le, nI_0lt, nI_le0, nI_eq0, nI_clamp, nI_add, bu_nI, bb_0, bb_1, rf_s, rf_n, tl_s, tl_n, am_th_some, if_true, if_false, sI_eq, uI_eq, and_self, true_and, and_true, not_false_eq_true, not_true_eq_false, Nat.reduceEqDiff, Nat.reduceLeDiff, Nat.reduceLT, Nat.reduceAdd, Nat.reduceMul, Nat.reduceSub, Nat.zero_add]
    exact g1
end
