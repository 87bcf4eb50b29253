/-! The TAPE: signs of a row, numbers; the class. -/
def st_at (I : am_I) : Prop := ∀ j i, j < 8 → i < (am_strs.getD j []).length → I 101 j i = nI ((am_strs.getD j []).getD i 0)
theorem find_or (f : Nat → Int32) (c : Int32) : ∀ n i, (∃ k, i ≤ k ∧ k < i + n ∧ f k = c ∧ am_find f c n i = nI k) ∨ ((∀ k, i ≤ k → k < i + n → ¬ f k = c) ∧ am_find f c n i = -nI 1) := by
  intro n
  induction n with
  | zero => intro i; exact Or.inr ⟨fun k h1 h2 => by omega, rfl⟩
  | succ n ih =>
    intro i
    by_cases e : f i = c
    · exact Or.inl ⟨i, Nat.le_refl _, by omega, e, by rw [am_find, if_pos e]; rfl⟩
    · rw [am_find, if_neg e]
      rcases ih (i + 1) with ⟨k, h1, h2, h3, h4⟩ | ⟨h1, h2⟩
      · exact Or.inl ⟨k, by omega, by omega, h3, h4⟩
      · refine Or.inr ⟨fun k k1 k2 => ?_, h2⟩
        by_cases q : k = i
        · rw [q]; exact e
        · exact h1 k (by omega) (by omega)
theorem i2c_nI : ∀ v, v < 256 → ((nI v).toUInt32 % 65536).toInt32 = nI v := by decide +kernel
theorem getD_in {l : List Nat} {i : Nat} (h : i < l.length) : l.getD i 0 = l[i] := by rw [List.getD_eq_getElem?_getD, List.getElem?_eq_getElem h]; rfl
/-- is it a sign of the j-th row? -/
abbrev sp_in (j x : Nat) : Prop := x ∈ am_strs.getD j []
theorem strs_lt : ∀ j, j < 8 → ∀ i, i < (am_strs.getD j []).length → 0 < (am_strs.getD j []).getD i 0 ∧ (am_strs.getD j []).getD i 0 < 256 := by decide
theorem strs_0 : ∀ j, j < 8 → ¬ sp_in j 0 := by decide
theorem strs_8 : am_strs.length = 8 := rfl
/-- digits from a on, f at most: what they make, where they end -/
def sp_dg (L : Nat) (B : Nat → Nat) : Nat → Nat → Nat → Nat × Nat
  | 0, v, a => (v, a)
  | f + 1, v, a => if 48 ≤ sp_hr L B a ∧ sp_hr L B a ≤ 57 then sp_dg L B f (v * 10 + sp_hr L B a - 48) (a + 1) else (v, a)
theorem hr_lt {L a : Nat} {B : Nat → Nat} (h : 48 ≤ sp_hr L B a) : a < L := by
  unfold sp_hr at h
  by_cases e : a < L
  · exact e
  · rw [if_neg e] at h; omega
section
variable {d L a : Nat} {I : am_I} {R : am_R} {Q : am_Q} {B : Nat → Nat}
theorem c_indexOf {j : Nat} (hj : j < 8) {x : Int32} : am_cal d 900 [.ref (am_mk 100 j), .int x] I R Q = some (some (.int (am_find (I 101 j) x (am_strs.getD j []).length 0)), I, R, Q) := by
  have h1 : am_mk 100 j % 128 = 100 := am_mk_kd (by decide)
  have h2 : am_mk 100 j / 128 = j := am_mk_in (by decide)
  show (am_ext 900 [.ref (am_mk 100 j), .int x] I).map _ = _
  rw [am_ext, h1, h2, if_pos ⟨rfl, rfl, by rw [strs_8]; exact hj⟩]
  rfl
theorem c_oneOf (hr : tc_R R) (hk : tp_ok L B) (h : tc_at I L B) (hs : st_at I) (ha : I 10 0 2 = nI a) (haL : a ≤ L) {j : Nat} (hj : j < 8) : ∃ J, am_cal (d + 2) 91 [.ref (am_mk 10 0), .ref (am_mk 100 j)] I R Q = some (some (.int (if sp_in j (sp_hr L B (sp_sk L B a)) then nI 1 else nI 0)), J, R, Q) ∧ am_fr tc_S I J ∧ J 10 0 2 = nI (sp_sk L B a) := by
  obtain ⟨J, g1, g2, g3⟩ := c_sign (d := d) (Q := Q) hr hk h ha haL
  refine ⟨J, ?_, g2, g3⟩
  have hle := hr_le (a := sp_sk L B a) hk
  generalize sp_hr L B (sp_sk L B a) = x at g1 hle
  by_cases e0 : x = 0
  · subst e0
    rw [if_neg (strs_0 j hj), s91]
    simp (disch := first | omega | assumption) only [s91_0, s91_1, s91_4, s91_5, s91_6, s91_9, s91_10, s91_11, s91_12, s91_15, s91_18, s91_19, s91_22, s91_23, nI_le2, nI_lt2, nI_eq2, nI_lt0, nI_0le, nI_0lt, nI_le0, nI_eq0, nI_clamp, nI_add, bu_nI, bb_0, bb_1, rf_s, rf_n, tl_s, tl_n, am_th_some, if_true, if_false, sI_eq, uI_eq, and_self, true_and, and_true, not_false_eq_true, not_true_eq_false, Nat.reduceEqDiff, Nat.reduceLeDiff, Nat.reduceLT, Nat.reduceAdd, Nat.reduceMul, Nat.reduceSub, Nat.zero_add, g1]
  · have hc := i2c_nI x (by omega)
    have hi := c_indexOf (d := d + 1) (I := J) (R := R) (Q := Q) hj (x := nI x)
    have hb : ∀ i, i < (am_strs.getD j []).length → J 101 j i = nI ((am_strs.getD j []).getD i 0) := fun i hi => (g2 _ _ _ (fun w => by unfold tc_S at w; omega)).trans (hs j i hj hi)
    rw [s91]
    rcases find_or (J 101 j) (nI x) (am_strs.getD j []).length 0 with ⟨k, k1, k2, k3, k4⟩ | ⟨k1, k2⟩
    · have hkl : k < (am_strs.getD j []).length := by omega
      have hv := strs_lt j hj k hkl
      rw [hb k hkl, nI_eq2 (by omega) (by omega)] at k3
      have hin : sp_in j x := by
        rw [← k3, getD_in hkl]
        exact List.getElem_mem hkl
      have hk31 : ¬ nI k < 0 := nI_pos (by
        have : ∀ j, j < 8 → (am_strs.getD j []).length ≤ 14 := by decide
        have := this j hj
        omega)
      rw [k4] at hi
      rw [if_pos hin]
      simp (disch := first | omega | assumption) only [s91_0, s91_1, s91_4, s91_5, s91_6, s91_9, s91_10, s91_11, s91_12, s91_15, s91_18, s91_19, s91_22, s91_23, nI_le2, nI_lt2, nI_eq2, nI_lt0, nI_0le, nI_0lt, nI_le0, nI_eq0, nI_clamp, nI_add, bu_nI, bb_0, bb_1, rf_s, rf_n, tl_s, tl_n, am_th_some, if_true, if_false, sI_eq, uI_eq, and_self, true_and, and_true, not_false_eq_true, not_true_eq_false, Nat.reduceEqDiff, Nat.reduceLeDiff, Nat.reduceLT, Nat.reduceAdd, Nat.reduceMul, Nat.reduceSub, Nat.zero_add, g1, e0, hc, hi, hk31]
    · have hnin : ¬ sp_in j x := fun w => by
        obtain ⟨k, hkl, e⟩ := List.mem_iff_getElem.mp w
        refine k1 k (Nat.zero_le _) (by omega) ?_
        rw [hb k hkl, getD_in hkl, e]
      have hm : (-nI 1 : Int32) < 0 := by decide
      rw [k2] at hi
      rw [if_neg hnin]
      simp (disch := first | omega | assumption) only [s91_0, s91_1, s91_4, s91_5, s91_6, s91_9, s91_10, s91_11, s91_12, s91_15, s91_18, s91_19, s91_22, s91_23, nI_le2, nI_lt2, nI_eq2, nI_lt0, nI_0le, nI_0lt, nI_le0, nI_eq0, nI_clamp, nI_add, bu_nI, bb_0, bb_1, rf_s, rf_n, tl_s, tl_n, am_th_some, if_true, if_false, sI_eq, uI_eq, and_self, true_and, and_true, not_false_eq_true, not_true_eq_false, Nat.reduceEqDiff, Nat.reduceLeDiff, Nat.reduceLT, Nat.reduceAdd, Nat.reduceMul, Nat.reduceSub, Nat.zero_add, g1, e0, hc, hi, hm]
theorem c_number (hr : tc_R R) (hk : tp_ok L B) (h : tc_at I L B) (ha : I 10 0 2 = nI a) (haL : a ≤ L) {f : Nat} (hf : f ≤ 4) : ∃ J, am_cal (d + 2) 95 [.ref (am_mk 10 0), .int (nI f)] I R Q = some (some (.int (if (sp_dg L B f 0 (sp_sk L B a)).2 = sp_sk L B a ∨ (48 ≤ sp_hr L B (sp_dg L B f 0 (sp_sk L B a)).2 ∧ sp_hr L B (sp_dg L B f 0 (sp_sk L B a)).2 ≤ 57) then -nI 1 else nI (sp_dg L B f 0 (sp_sk L B a)).1)), J, R, Q) ∧ am_fr tc_S I J ∧ J 10 0 2 = nI (sp_dg L B f 0 (sp_sk L B a)).2 ∧ (sp_dg L B f 0 (sp_sk L B a)).2 ≤ L ∧ sp_sk L B a ≤ (sp_dg L B f 0 (sp_sk L B a)).2 ∧ (sp_dg L B f 0 (sp_sk L B a)).1 < 100000 := by
  obtain ⟨J0, g1, g2, g3⟩ := c_sign (d := d) (Q := Q) hr hk h ha haL
  have hs := sk_L (B := B) haL
  have hL := hk.1
  generalize sp_sk L B a = s at g1 g3 hs
  -- at the end
  have fin : ∀ (J : am_I) (v c : Nat), am_fr tc_S I J → J 10 0 2 = nI (s + c) → s + c ≤ L → c ≤ 4 → v < 10 ^ c → (¬ c < f ∨ ¬ (48 ≤ sp_hr L B (s + c) ∧ sp_hr L B (s + c) ≤ 57)) → am_ev (d + 2) 95 9 [.ref (am_mk 10 0), .int (nI f), .int (nI v), .int (nI c)] [] J R Q = some (some (.int (if s + c = s ∨ (48 ≤ sp_hr L B (s + c) ∧ sp_hr L B (s + c) ≤ 57) then -nI 1 else nI v)), J, R, Q) := by
    intro J v c f1 f2 f3 f4 f5 f6
    have hd := c_digit (d := d) (Q := Q) hr hk (tc_fr h f1 (fun w => by unfold tc_S at w; omega) (fun j w => by unfold tc_S at w; omega)) f2 f3
    rw [s95_9]
    by_cases e : 48 ≤ sp_hr L B (s + c) ∧ sp_hr L B (s + c) ≤ 57
    · rw [if_pos e] at hd
      rw [if_pos (Or.inr e)]
      have e1 : f ≤ c := by have := f6.resolve_right (fun w => w e); omega
      by_cases e0 : c = 0
      · subst e0
        simp (disch := first | omega | assumption) only [s95_0, s95_1, s95_4, s95_5, s95_6, s95_7, s95_8, s95_10, s95_11, s95_14, s95_15, s95_18, s95_21, s95_22, s95_24, s95_25, s95_26, s95_29, s95_30, s95_32, s95_33, s95_34, s95_37, s95_38, s95_39, s95_42, s95_43, s95_44, s95_47, s95_50, s95_51, s95_54, s95_55, s95_58, s95_61, s95_62, s95_65, s95_66, nI_le2, nI_lt2, nI_eq2, nI_lt0, nI_0le, nI_0lt, nI_le0, nI_eq0, nI_clamp, nI_add, bu_nI, bb_0, bb_1, rf_s, rf_n, tl_s, tl_n, am_th_some, if_true, if_false, sI_eq, uI_eq, and_self, true_and, and_true, not_false_eq_true, not_true_eq_false, Nat.reduceEqDiff, Nat.reduceLeDiff, Nat.reduceLT, Nat.reduceAdd, Nat.reduceMul, Nat.reduceSub, Nat.zero_add, e1, hd]
      · simp (disch := first | omega | assumption) only [s95_0, s95_1, s95_4, s95_5, s95_6, s95_7, s95_8, s95_10, s95_11, s95_14, s95_15, s95_18, s95_21, s95_22, s95_24, s95_25, s95_26, s95_29, s95_30, s95_32, s95_33, s95_34, s95_37, s95_38, s95_39, s95_42, s95_43, s95_44, s95_47, s95_50, s95_51, s95_54, s95_55, s95_58, s95_61, s95_62, s95_65, s95_66, nI_le2, nI_lt2, nI_eq2, nI_lt0, nI_0le, nI_0lt, nI_le0, nI_eq0, nI_clamp, nI_add, bu_nI, bb_0, bb_1, rf_s, rf_n, tl_s, tl_n, am_th_some, if_true, if_false, sI_eq, uI_eq, and_self, true_and, and_true, not_false_eq_true, not_true_eq_false, Nat.reduceEqDiff, Nat.reduceLeDiff, Nat.reduceLT, Nat.reduceAdd, Nat.reduceMul, Nat.reduceSub, Nat.zero_add, e1, hd, e0]
    · rw [if_neg e] at hd
      by_cases e0 : c = 0
      · subst e0
        rw [if_pos (Or.inl (Nat.add_zero s))]
        by_cases e1 : f ≤ 0
        · simp (disch := first | omega | assumption) only [s95_0, s95_1, s95_4, s95_5, s95_6, s95_7, s95_8, s95_10, s95_11, s95_14, s95_15, s95_18, s95_21, s95_22, s95_24, s95_25, s95_26, s95_29, s95_30, s95_32, s95_33, s95_34, s95_37, s95_38, s95_39, s95_42, s95_43, s95_44, s95_47, s95_50, s95_51, s95_54, s95_55, s95_58, s95_61, s95_62, s95_65, s95_66, nI_le2, nI_lt2, nI_eq2, nI_lt0, nI_0le, nI_0lt, nI_le0, nI_eq0, nI_clamp, nI_add, bu_nI, bb_0, bb_1, rf_s, rf_n, tl_s, tl_n, am_th_some, if_true, if_false, sI_eq, uI_eq, and_self, true_and, and_true, not_false_eq_true, not_true_eq_false, Nat.reduceEqDiff, Nat.reduceLeDiff, Nat.reduceLT, Nat.reduceAdd, Nat.reduceMul, Nat.reduceSub, Nat.zero_add, e1, hd]
        · simp (disch := first | omega | assumption) only [s95_0, s95_1, s95_4, s95_5, s95_6, s95_7, s95_8, s95_10, s95_11, s95_14, s95_15, s95_18, s95_21, s95_22, s95_24, s95_25, s95_26, s95_29, s95_30, s95_32, s95_33, s95_34, s95_37, s95_38, s95_39, s95_42, s95_43, s95_44, s95_47, s95_50, s95_51, s95_54, s95_55, s95_58, s95_61, s95_62, s95_65, s95_66, nI_le2, nI_lt2, nI_eq2, nI_lt0, nI_0le, nI_0lt, nI_le0, nI_eq0, nI_clamp, nI_add, bu_nI, bb_0, bb_1, rf_s, rf_n, tl_s, tl_n, am_th_some, if_true, if_false, sI_eq, uI_eq, and_self, true_and, and_true, not_false_eq_true, not_true_eq_false, Nat.reduceEqDiff, Nat.reduceLeDiff, Nat.reduceLT, Nat.reduceAdd, Nat.reduceMul, Nat.reduceSub, Nat.zero_add, e1, hd]
      · rw [if_neg (fun w => w.elim (fun w => by omega) e)]
        by_cases e1 : f ≤ c
        · simp (disch := first | omega | assumption) only [s95_0, s95_1, s95_4, s95_5, s95_6, s95_7, s95_8, s95_10, s95_11, s95_14, s95_15, s95_18, s95_21, s95_22, s95_24, s95_25, s95_26, s95_29, s95_30, s95_32, s95_33, s95_34, s95_37, s95_38, s95_39, s95_42, s95_43, s95_44, s95_47, s95_50, s95_51, s95_54, s95_55, s95_58, s95_61, s95_62, s95_65, s95_66, nI_le2, nI_lt2, nI_eq2, nI_lt0, nI_0le, nI_0lt, nI_le0, nI_eq0, nI_clamp, nI_add, bu_nI, bb_0, bb_1, rf_s, rf_n, tl_s, tl_n, am_th_some, if_true, if_false, sI_eq, uI_eq, and_self, true_and, and_true, not_false_eq_true, not_true_eq_false, Nat.reduceEqDiff, Nat.reduceLeDiff, Nat.reduceLT, Nat.reduceAdd, Nat.reduceMul, Nat.reduceSub, Nat.zero_add, e1, hd, e0]
        · simp (disch := first | omega | assumption) only [s95_0, s95_1, s95_4, s95_5, s95_6, s95_7, s95_8, s95_10, s95_11, s95_14, s95_15, s95_18, s95_21, s95_22, s95_24, s95_25, s95_26, s95_29, s95_30, s95_32, s95_33, s95_34, s95_37, s95_38, s95_39, s95_42, s95_43, s95_44, s95_47, s95_50, s95_51, s95_54, s95_55, s95_58, s95_61, s95_62, s95_65, s95_66, nI_le2, nI_lt2, nI_eq2, nI_lt0, nI_0le, nI_0lt, nI_le0, nI_eq0, nI_clamp, nI_add, bu_nI, bb_0, bb_1, rf_s, rf_n, tl_s, tl_n, am_th_some, if_true, if_false, sI_eq, uI_eq, and_self, true_and, and_true, not_false_eq_true, not_true_eq_false, Nat.reduceEqDiff, Nat.reduceLeDiff, Nat.reduceLT, Nat.reduceAdd, Nat.reduceMul, Nat.reduceSub, Nat.zero_add, e1, hd, e0]
  let Post : Option am_X → Prop := fun y => ∃ J, y = some (some (.int (if (sp_dg L B f 0 s).2 = s ∨ (48 ≤ sp_hr L B (sp_dg L B f 0 s).2 ∧ sp_hr L B (sp_dg L B f 0 s).2 ≤ 57) then -nI 1 else nI (sp_dg L B f 0 s).1)), J, R, Q) ∧ am_fr tc_S I J ∧ J 10 0 2 = nI (sp_dg L B f 0 s).2 ∧ (sp_dg L B f 0 s).2 ≤ L ∧ s ≤ (sp_dg L B f 0 s).2 ∧ (sp_dg L B f 0 s).1 < 100000
  have loop : Post (am_ev (d + 2) 95 9 [.ref (am_mk 10 0), .int (nI f), .int (nI 0), .int (nI 0)] [] J0 R Q) := by
    have p5 : ∀ c, c ≤ 4 → 10 ^ c ≤ 10000 := by decide
    refine loop_inv (f := fun (b : am_I × Nat) c => am_ev (d + 2) 95 9 [.ref (am_mk 10 0), .int (nI f), .int (nI b.2), .int (nI c)] [] b.1 R Q) (Inv := fun c b => am_fr tc_S I b.1 ∧ b.1 10 0 2 = nI (s + c) ∧ s + c ≤ L ∧ b.2 < 10 ^ c ∧ sp_dg L B f 0 s = sp_dg L B (f - c) b.2 (s + c)) (Post := Post) (n := f) ?_ ?_ (Nat.zero_le _) (a := (J0, 0)) ⟨g2, g3, hs.2, by show 0 < 1; decide, rfl⟩
    · intro c ⟨J, v⟩ hc ⟨f1, f2, f3, f4, f5⟩
      have f1 : am_fr tc_S I J := f1
      have f2 : J 10 0 2 = nI (s + c) := f2
      have f4 : v < 10 ^ c := f4
      have f5 : sp_dg L B f 0 s = sp_dg L B (f - c) v (s + c) := f5
      by_cases e : 48 ≤ sp_hr L B (s + c) ∧ sp_hr L B (s + c) ≤ 57
      · left
        have hT := tc_fr h f1 (fun w => by unfold tc_S at w; omega) (fun j w => by unfold tc_S at w; omega)
        have hd := c_digit (d := d) (Q := Q) hr hk hT f2 f3
        have hh := c_here (d := d + 1) (Q := Q) hr hk hT f2 f3
        rw [if_pos e] at hd
        have hlt := hr_lt e.1
        have hp := p5 c (by omega)
        have h1 : ¬ f ≤ c := by omega
        have e1 : nI (v * 10 + sp_hr L B (s + c)) - nI 48 = nI (v * 10 + sp_hr L B (s + c) - 48) := nI_sub (by omega)
        refine ⟨(am_sI J 10 0 (am_uI (J 10 0) 2 (nI (s + c + 1))), v * 10 + sp_hr L B (s + c) - 48), ?_, fr_s f1 ⟨rfl, rfl⟩, by dsimp only; rw [sI_eq, uI_eq]; rfl, by omega, ?_, ?_⟩
        · rw [s95_9]
          simp (disch := first | omega | assumption) only [s95_0, s95_1, s95_4, s95_5, s95_6, s95_7, s95_8, s95_10, s95_11, s95_14, s95_15, s95_18, s95_21, s95_22, s95_24, s95_25, s95_26, s95_29, s95_30, s95_32, s95_33, s95_34, s95_37, s95_38, s95_39, s95_42, s95_43, s95_44, s95_47, s95_50, s95_51, s95_54, s95_55, s95_58, s95_61, s95_62, s95_65, s95_66, nI_le2, nI_lt2, nI_eq2, nI_lt0, nI_0le, nI_0lt, nI_le0, nI_eq0, nI_clamp, nI_add, bu_nI, bb_0, bb_1, rf_s, rf_n, tl_s, tl_n, am_th_some, if_true, if_false, sI_eq, uI_eq, and_self, true_and, and_true, not_false_eq_true, not_true_eq_false, Nat.reduceEqDiff, Nat.reduceLeDiff, Nat.reduceLT, Nat.reduceAdd, Nat.reduceMul, Nat.reduceSub, Nat.zero_add, h1, hd, hh, nI_mul, nI_add, e1, f2]
        · show v * 10 + sp_hr L B (s + c) - 48 < 10 ^ (c + 1)
          rw [Nat.pow_succ]
          have := e.2
          omega
        · show sp_dg L B f 0 s = sp_dg L B (f - (c + 1)) (v * 10 + sp_hr L B (s + c) - 48) (s + c + 1)
          rw [f5, show f - c = f - (c + 1) + 1 by omega, sp_dg, if_pos e]
      · right
        have hv : sp_dg L B f 0 s = (v, s + c) := by rw [f5, show f - c = f - (c + 1) + 1 by omega, sp_dg, if_neg e]
        refine ⟨J, ?_, f1, by rw [hv]; exact f2, by rw [hv]; exact f3, by rw [hv]; exact Nat.le_add_right _ _, ?_⟩
        · rw [hv]
          exact fin J v c f1 f2 f3 (by omega) f4 (Or.inr e)
        · rw [hv]
          have := p5 c (by omega)
          show v < 100000
          omega
    · intro ⟨J, v⟩ ⟨f1, f2, f3, f4, f5⟩
      have f1 : am_fr tc_S I J := f1
      have f2 : J 10 0 2 = nI (s + f) := f2
      have f4 : v < 10 ^ f := f4
      have hv : sp_dg L B f 0 s = (v, s + f) := by rw [f5, Nat.sub_self]; rfl
      refine ⟨J, ?_, f1, by rw [hv]; exact f2, by rw [hv]; exact f3, by rw [hv]; exact Nat.le_add_right _ _, ?_⟩
      · rw [hv]
        exact fin J v f f1 f2 f3 hf f4 (Or.inl (Nat.lt_irrefl _))
      · rw [hv]
        have := p5 f hf
        show v < 100000
        omega
  obtain ⟨J, k1, k2⟩ := loop
  refine ⟨J, ?_, k2⟩
  rw [s95]
  simp (disch := first | omega | assumption) only [s95_0, s95_1, s95_4, s95_5, s95_6, s95_7, s95_8, s95_10, s95_11, s95_14, s95_15, s95_18, s95_21, s95_22, s95_24, s95_25, s95_26, s95_29, s95_30, s95_32, s95_33, s95_34, s95_37, s95_38, s95_39, s95_42, s95_43, s95_44, s95_47, s95_50, s95_51, s95_54, s95_55, s95_58, s95_61, s95_62, s95_65, s95_66, nI_le2, nI_lt2, nI_eq2, nI_lt0, nI_0le, nI_0lt, nI_le0, nI_eq0, nI_clamp, nI_add, bu_nI, bb_0, bb_1, rf_s, rf_n, tl_s, tl_n, am_th_some, if_true, if_false, sI_eq, uI_eq, and_self, true_and, and_true, not_false_eq_true, not_true_eq_false, Nat.reduceEqDiff, Nat.reduceLeDiff, Nat.reduceLT, Nat.reduceAdd, Nat.reduceMul, Nat.reduceSub, Nat.zero_add, g1]
  exact k1
end
