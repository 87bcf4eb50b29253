/-! HOW: by which POWERS and TENS all that was set is so, both sides. -/
/-- of one POWER -/
def sp_hi (T : pl_T) (k : Nat) (N : Nat → Nat → Nat) (P : Nat → Nat → Int32) (q t : Nat) : List Nat := am_fold (fun L j => if sp_hs k N (sp_it T (nI q) P (j + 1)) then L ++ [100 * q + (j + 1)] else L) [] t
/-- of all POWERS up to a -/
def sp_ho (T : pl_T) (k : Nat) (N : Nat → Nat → Nat) (P : Nat → Nat → Int32) (a : Nat) : List Nat := am_fold (fun L j => L ++ sp_hi T k N P (j + 1) 20) [] a
theorem fold_pre {α : Type} {F : List α → Nat → List α} (hF : ∀ L j, ∃ r, F L j = L ++ r) {s t : Nat} (h : s ≤ t) : ∃ r, am_fold F [] t = am_fold F [] s ++ r := by
  obtain ⟨m, rfl⟩ := Nat.exists_eq_add_of_le h
  induction m with
  | zero => exact ⟨[], (List.append_nil _).symm⟩
  | succ m ih =>
    obtain ⟨r, hr⟩ := ih (by omega)
    obtain ⟨r', hr'⟩ := hF (am_fold F [] (s + m)) (s + m)
    exact ⟨r ++ r', by rw [show s + (m + 1) = s + m + 1 from rfl, fold_s, hr', hr, List.append_assoc]⟩
section
variable {d n b m u v k p q : Nat} {I : am_I} {R : am_R} {Q : am_Q} {N : Nat → Nat → Nat} {P : Nat → Nat → Int32} {T : pl_T} {i : Int32}
theorem hi_s {t : Nat} : sp_hi T k N P q (t + 1) = if sp_hs k N (sp_it T (nI q) P (t + 1)) then sp_hi T k N P q t ++ [100 * q + (t + 1)] else sp_hi T k N P q t := rfl
theorem ho_s {a : Nat} : sp_ho T k N P (a + 1) = sp_ho T k N P a ++ sp_hi T k N P (a + 1) 20 := rfl
theorem hi_pre {s t : Nat} (h : s ≤ t) : ∃ r, sp_hi T k N P q t = sp_hi T k N P q s ++ r := fold_pre (fun L j => by
  by_cases e : sp_hs k N (sp_it T (nI q) P (j + 1))
  · exact ⟨_, if_pos e⟩
  · exact ⟨[], (if_neg e).trans (List.append_nil _).symm⟩) h
theorem ho_pre {s t : Nat} (h : s ≤ t) : ∃ r, sp_ho T k N P t = sp_ho T k N P s ++ r := fold_pre (fun L j => ⟨_, rfl⟩) h
theorem hi_len {t : Nat} : (sp_hi T k N P q t).length ≤ t := by
  induction t with
  | zero => exact Nat.le_refl _
  | succ t ih =>
    rw [hi_s]
    by_cases e : sp_hs k N (sp_it T (nI q) P (t + 1))
    · rw [if_pos e, List.length_append, List.length_singleton]; omega
    · rw [if_neg e]; omega
theorem ho_len {a : Nat} : (sp_ho T k N P a).length ≤ 20 * a := by
  induction a with
  | zero => exact Nat.le_refl _
  | succ a ih =>
    rw [ho_s, List.length_append]
    have := hi_len (T := T) (k := k) (N := N) (P := P) (q := a + 1) (t := 20)
    omega
/-- what was found at i -/
def sp_lk (L : List Nat) (i : Int32) : Int32 := if i < 0 then -nI 1 else match L[i.toNatClampNeg]? with
  | some s => nI s
  | none => -nI 1
theorem weak_lk {L : List Nat} : sp_weak L i = if i = -nI 1 then nI L.length else sp_lk L i := rfl
theorem lk_app {L : List Nat} {s : Nat} (hL : L.length < 2 ^ 31) : sp_lk (L ++ [s]) i = if nI L.length = i then nI s else sp_lk L i := by
  by_cases e : nI L.length = i
  · rw [if_pos e, sp_lk, if_neg (by rw [← e]; exact nI_pos hL), ← e, nI_clamp hL, List.getElem?_append_right (Nat.le_refl _), Nat.sub_self]
    rfl
  · rw [if_neg e, sp_lk, sp_lk]
    by_cases e2 : i < 0
    · rw [if_pos e2, if_pos e2]
    · rw [if_neg e2, if_neg e2]
      obtain ⟨j, hj, rfl⟩ := nI_of e2
      rw [nI_clamp hj]
      by_cases e3 : j < L.length
      · rw [List.getElem?_append_left e3]
      · have : ¬ j = L.length := fun w => e (by rw [w])
        rw [List.getElem?_eq_none (by rw [List.length_append, List.length_singleton]; omega), List.getElem?_eq_none (by omega)]
theorem it_thick (hT0 : ∀ (x : Int32) (X : Nat → Nat → Int32) (c : Nat), (T x X).1 0 c = X 0 c) (x : Int32) (c : Nat) : ∀ t, sp_it T x P t 0 c = P 0 c := by
  intro t
  induction t with
  | zero => rfl
  | succ t ih => exact (hT0 _ _ _).trans ih
theorem c_howSet (hr : aa_R R u) (ht : R 6 u 6 = some (am_mk 9 p)) (hp : p < 54) (hp2 : p < 2 ∨ 11 < p) (hP : pp_at I p P) (hT : cT T n b R Q I) (hk : kT T n b) (hT0 : ∀ (x : Int32) (X : Nat → Nat → Int32) (c : Nat), (T x X).1 0 c = X 0 c) (hn2 : n ≤ 25) (hI : pt_I n b m P) (hm : m < 2 ^ 28) (hq : I 14 u 2 = nI q) (hq9 : q ≤ 9) (nr : nt_R R v) (nk : nt_ok k N) (nh : nt_at I v k N) (hF : ∀ i, i < k → N 0 i < n ∧ ¬ P 0 (N 0 i) ≤ 0) : ∃ J, am_cal (d + 9) 14 [.ref (am_mk 1 0), .ref (am_mk 8 v), .int i] I R Q = some (some (.int (sp_weak (sp_ho T k N P q) i)), J, R, Q) ∧ am_fr ah_S I J := by
  obtain ⟨r0, r1, r2, r3, r4, r5⟩ := hr
  obtain ⟨k0, k1, k2, k3, k4, k5⟩ := r5
  have hLl := ho_len (T := T) (k := k) (N := N) (P := P) (a := q)
  let Post : Option am_X → Prop := fun y => ∃ J, y = some (some (.int (sp_weak (sp_ho T k N P q) i)), J, R, Q) ∧ am_fr ah_S I J
  have inner : ∀ (a : Nat) (J : am_I), a < q → am_fr ah_S I J → (∀ f, f < (sp_ho T k N P a).length → ¬ nI f = i) → ∀ l5 : Value, (∃ J', am_ev (d + 9) 14 5 [.ref (am_mk 1 0), .ref (am_mk 8 v), .int i, .int (nI (sp_ho T k N P a).length), .int (nI (a + 1)), l5] [] J R Q = am_ev (d + 9) 14 5 [.ref (am_mk 1 0), .ref (am_mk 8 v), .int i, .int (nI (sp_ho T k N P (a + 1)).length), .int (nI (a + 1 + 1)), .int (nI 21)] [] J' R Q ∧ am_fr ah_S I J' ∧ (∀ f, f < (sp_ho T k N P (a + 1)).length → ¬ nI f = i)) ∨ Post (am_ev (d + 9) 14 5 [.ref (am_mk 1 0), .ref (am_mk 8 v), .int i, .int (nI (sp_ho T k N P a).length), .int (nI (a + 1)), l5] [] J R Q) := by
    intro a J ha f1 f2 l5
    have hq' : J 14 u 2 = nI q := (f1 _ _ _ (fun w => by unfold ah_S at w; omega)).trans hq
    obtain ⟨J0, a1, a2, a3⟩ := c_become (d := d + 8) (Q := Q) (r4 p hp) (r4 2 (by decide)) (by omega) (pl_fr hP f1 (fun a j ha w => by unfold ah_S at w; omega)) (pt_bb hI)
    have h0 : ¬ q < a + 1 := by omega
    have start : am_ev (d + 9) 14 5 [.ref (am_mk 1 0), .ref (am_mk 8 v), .int i, .int (nI (sp_ho T k N P a).length), .int (nI (a + 1)), l5] [] J R Q = am_ev (d + 9) 14 42 [.ref (am_mk 1 0), .ref (am_mk 8 v), .int i, .int (nI (sp_ho T k N P a).length), .int (nI (a + 1)), .int (nI 1)] [] J0 R Q := by
      rw [s14_5]
      simp (disch := first | omega | assumption) only [s14_0, s14_1, s14_2, s14_3, s14_7, s14_8, s14_11, s14_14, s14_17, s14_18, s14_19, s14_22, s14_23, s14_26, s14_27, s14_30, s14_33, s14_36, s14_39, s14_40, s14_44, s14_46, s14_49, s14_50, s14_53, s14_54, s14_57, s14_59, s14_62, s14_63, s14_64, s14_65, s14_68, s14_71, s14_74, s14_75, s14_76, s14_79, s14_81, s14_83, s14_84, s14_86, s14_87, s14_88, s14_91, s14_94, s14_97, s14_100, s14_103, s14_104, s14_105, s14_108, s14_109, s14_112, s14_113, nI_le2, nI_lt2, nI_eq2, nI_lt0, nI_0le, nI_0lt, nI_le0, nI_eq0, nI_clamp, nI_add, bu_nI, bb_0, bb_1, rf_s, rf_n, tl_s, tl_n, am_th_some, if_true, if_false, sI_eq, uI_eq, and_self, true_and, and_true, not_false_eq_true, not_true_eq_false, Nat.reduceEqDiff, Nat.reduceLeDiff, Nat.reduceLT, Nat.reduceAdd, Nat.reduceMul, Nat.reduceSub, Nat.zero_add, r0, k0, k3, ht, hq', h0, r1, a1]
    rw [start]
    obtain ⟨rr, hrr⟩ := ho_pre (T := T) (k := k) (N := N) (P := P) (show a + 1 ≤ q by omega)
    have key := loop_inv (f := fun J t => am_ev (d + 9) 14 42 [.ref (am_mk 1 0), .ref (am_mk 8 v), .int i, .int (nI (sp_ho T k N P a ++ sp_hi T k N P (a + 1) t).length), .int (nI (a + 1)), .int (nI (t + 1))] [] J R Q) (Inv := fun t J => am_fr ah_S I J ∧ pp_at J 2 (sp_it T (nI (a + 1)) P t) ∧ ∀ f, f < (sp_ho T k N P a ++ sp_hi T k N P (a + 1) t).length → ¬ nI f = i) (Post := fun y => (∃ J', y = am_ev (d + 9) 14 5 [.ref (am_mk 1 0), .ref (am_mk 8 v), .int i, .int (nI (sp_ho T k N P (a + 1)).length), .int (nI (a + 1 + 1)), .int (nI 21)] [] J' R Q ∧ am_fr ah_S I J' ∧ (∀ f, f < (sp_ho T k N P (a + 1)).length → ¬ nI f = i)) ∨ Post y) (n := 20) ?_ ?_ (Nat.zero_le _) (a := J0) ⟨fr_tr f1 (fr_mo a2 (pS_ah (by decide) (by decide))), a3, by rw [show sp_hi T k N P (a + 1) 0 = [] from rfl, List.append_nil]; exact f2⟩
    · rw [show sp_hi T k N P (a + 1) 0 = [] from rfl, List.append_nil] at key
      exact key
    · intro t J ht' ⟨g1, g2, g3⟩
      have h1 : ¬ 20 < t + 1 := by omega
      obtain ⟨K, w1, w2, w3⟩ := hT d J 2 (m + t) (a + 1) _ (fr_mo g1 ah_ev) (by decide) g2 (it_I hk hI t) (by omega) (by omega)
      have hII := it_I (q := a + 1) hk hI (t + 1)
      have gK : am_fr ah_S I K := fr_x g1 w2 (kS_ah (by decide) (by decide))
      have so := c_isSo (d := d + 7) (Q := Q) nr nk (nt_fr nh gK (fun w => by unfold ah_S at w; omega) (fun a i ha w => by unfold ah_S at w; omega)) (r4 2 (by decide)) w3 hII hn2 (fun j hj => ⟨(hF j hj).1, by rw [show (T (nI (a + 1)) (sp_it T (nI (a + 1)) P t)).1 0 (N 0 j) = P 0 (N 0 j) from it_thick hT0 _ _ (t + 1)]; exact (hF j hj).2⟩)
      have hle := hi_len (T := T) (k := k) (N := N) (P := P) (q := a + 1) (t := t)
      have hoe := ho_len (T := T) (k := k) (N := N) (P := P) (a := a)
      obtain ⟨r2', hr2'⟩ := hi_pre (T := T) (k := k) (N := N) (P := P) (q := a + 1) (show t + 1 ≤ 20 by omega)
      have hlen : (sp_ho T k N P a ++ sp_hi T k N P (a + 1) t).length < 2 ^ 31 := by rw [List.length_append]; omega
      by_cases q1 : sp_hs k N (T (nI (a + 1)) (sp_it T (nI (a + 1)) P t)).1
      · rw [if_pos q1] at so
        have e1 : sp_hi T k N P (a + 1) (t + 1) = sp_hi T k N P (a + 1) t ++ [100 * (a + 1) + (t + 1)] := by rw [hi_s]; exact if_pos q1
        have e2 : (sp_ho T k N P a ++ sp_hi T k N P (a + 1) (t + 1)).length = (sp_ho T k N P a ++ sp_hi T k N P (a + 1) t).length + 1 := by rw [e1]; simp only [List.length_append, List.length_singleton]; omega
        by_cases hfi : nI (sp_ho T k N P a ++ sp_hi T k N P (a + 1) t).length = i
        · right; right
          refine ⟨K, ?_, gK⟩
          have hfull : sp_ho T k N P q = (sp_ho T k N P a ++ sp_hi T k N P (a + 1) t) ++ (100 * (a + 1) + (t + 1)) :: (r2' ++ rr) := by
            rw [hrr, ho_s, hr2', e1]; simp only [List.append_assoc, List.singleton_append, List.cons_append, List.nil_append]
          rw [weak_found hfull hlen hfi, s14_42]
          simp (disch := first | omega | assumption) only [s14_0, s14_1, s14_2, s14_3, s14_7, s14_8, s14_11, s14_14, s14_17, s14_18, s14_19, s14_22, s14_23, s14_26, s14_27, s14_30, s14_33, s14_36, s14_39, s14_40, s14_44, s14_46, s14_49, s14_50, s14_53, s14_54, s14_57, s14_59, s14_62, s14_63, s14_64, s14_65, s14_68, s14_71, s14_74, s14_75, s14_76, s14_79, s14_81, s14_83, s14_84, s14_86, s14_87, s14_88, s14_91, s14_94, s14_97, s14_100, s14_103, s14_104, s14_105, s14_108, s14_109, s14_112, s14_113, nI_le2, nI_lt2, nI_eq2, nI_lt0, nI_0le, nI_0lt, nI_le0, nI_eq0, nI_clamp, nI_add, bu_nI, bb_0, bb_1, rf_s, rf_n, tl_s, tl_n, am_th_some, if_true, if_false, sI_eq, uI_eq, and_self, true_and, and_true, not_false_eq_true, not_true_eq_false, Nat.reduceEqDiff, Nat.reduceLeDiff, Nat.reduceLT, Nat.reduceAdd, Nat.reduceMul, Nat.reduceSub, Nat.zero_add, h1, r0, r1, w1, so, hfi, nI_mul, nI_add]
        · left
          refine ⟨K, ?_, gK, w3, ?_⟩
          · rw [e2, s14_42]
            simp (disch := first | omega | assumption) only [s14_0, s14_1, s14_2, s14_3, s14_7, s14_8, s14_11, s14_14, s14_17, s14_18, s14_19, s14_22, s14_23, s14_26, s14_27, s14_30, s14_33, s14_36, s14_39, s14_40, s14_44, s14_46, s14_49, s14_50, s14_53, s14_54, s14_57, s14_59, s14_62, s14_63, s14_64, s14_65, s14_68, s14_71, s14_74, s14_75, s14_76, s14_79, s14_81, s14_83, s14_84, s14_86, s14_87, s14_88, s14_91, s14_94, s14_97, s14_100, s14_103, s14_104, s14_105, s14_108, s14_109, s14_112, s14_113, nI_le2, nI_lt2, nI_eq2, nI_lt0, nI_0le, nI_0lt, nI_le0, nI_eq0, nI_clamp, nI_add, bu_nI, bb_0, bb_1, rf_s, rf_n, tl_s, tl_n, am_th_some, if_true, if_false, sI_eq, uI_eq, and_self, true_and, and_true, not_false_eq_true, not_true_eq_false, Nat.reduceEqDiff, Nat.reduceLeDiff, Nat.reduceLT, Nat.reduceAdd, Nat.reduceMul, Nat.reduceSub, Nat.zero_add, h1, r0, r1, w1, so, hfi]
          · rw [e2]
            exact fun f hf => (Nat.lt_succ_iff_lt_or_eq.mp hf).elim (g3 f) (fun e => by rw [e]; exact hfi)
      · rw [if_neg q1] at so
        have e1 : sp_hi T k N P (a + 1) (t + 1) = sp_hi T k N P (a + 1) t := by rw [hi_s]; exact if_neg q1
        left
        refine ⟨K, ?_, gK, w3, by rw [e1]; exact g3⟩
        rw [e1, s14_42]
        simp (disch := first | omega | assumption) only [s14_0, s14_1, s14_2, s14_3, s14_7, s14_8, s14_11, s14_14, s14_17, s14_18, s14_19, s14_22, s14_23, s14_26, s14_27, s14_30, s14_33, s14_36, s14_39, s14_40, s14_44, s14_46, s14_49, s14_50, s14_53, s14_54, s14_57, s14_59, s14_62, s14_63, s14_64, s14_65, s14_68, s14_71, s14_74, s14_75, s14_76, s14_79, s14_81, s14_83, s14_84, s14_86, s14_87, s14_88, s14_91, s14_94, s14_97, s14_100, s14_103, s14_104, s14_105, s14_108, s14_109, s14_112, s14_113, nI_le2, nI_lt2, nI_eq2, nI_lt0, nI_0le, nI_0lt, nI_le0, nI_eq0, nI_clamp, nI_add, bu_nI, bb_0, bb_1, rf_s, rf_n, tl_s, tl_n, am_th_some, if_true, if_false, sI_eq, uI_eq, and_self, true_and, and_true, not_false_eq_true, not_true_eq_false, Nat.reduceEqDiff, Nat.reduceLeDiff, Nat.reduceLT, Nat.reduceAdd, Nat.reduceMul, Nat.reduceSub, Nat.zero_add, h1, r0, r1, w1, so]
    · intro J ⟨g1, g2, g3⟩
      left
      refine ⟨J, ?_, g1, g3⟩
      rw [← ho_s, s14_42]
      simp (disch := first | omega | assumption) only [s14_0, s14_1, s14_2, s14_3, s14_7, s14_8, s14_11, s14_14, s14_17, s14_18, s14_19, s14_22, s14_23, s14_26, s14_27, s14_30, s14_33, s14_36, s14_39, s14_40, s14_44, s14_46, s14_49, s14_50, s14_53, s14_54, s14_57, s14_59, s14_62, s14_63, s14_64, s14_65, s14_68, s14_71, s14_74, s14_75, s14_76, s14_79, s14_81, s14_83, s14_84, s14_86, s14_87, s14_88, s14_91, s14_94, s14_97, s14_100, s14_103, s14_104, s14_105, s14_108, s14_109, s14_112, s14_113, nI_le2, nI_lt2, nI_eq2, nI_lt0, nI_0le, nI_0lt, nI_le0, nI_eq0, nI_clamp, nI_add, bu_nI, bb_0, bb_1, rf_s, rf_n, tl_s, tl_n, am_th_some, if_true, if_false, sI_eq, uI_eq, and_self, true_and, and_true, not_false_eq_true, not_true_eq_false, Nat.reduceEqDiff, Nat.reduceLeDiff, Nat.reduceLT, Nat.reduceAdd, Nat.reduceMul, Nat.reduceSub, Nat.zero_add]
  have loop : ∀ l5 : Value, Post (am_ev (d + 9) 14 5 [.ref (am_mk 1 0), .ref (am_mk 8 v), .int i, .int (nI 0), .int (nI 1), l5] [] I R Q) := by
    intro l5
    refine loop_inv (f := fun (a : am_I × Value) c => am_ev (d + 9) 14 5 [.ref (am_mk 1 0), .ref (am_mk 8 v), .int i, .int (nI (sp_ho T k N P c).length), .int (nI (c + 1)), a.2] [] a.1 R Q) (Inv := fun c a => am_fr ah_S I a.1 ∧ ∀ f, f < (sp_ho T k N P c).length → ¬ nI f = i) (Post := Post) (n := q) ?_ ?_ (Nat.zero_le _) (a := (I, l5)) ⟨fr_rf, fun f hf => absurd hf (Nat.not_lt_zero _)⟩
    · intro c ⟨J, l5⟩ hc ⟨f1, f2⟩
      rcases inner c J hc f1 f2 l5 with ⟨J', g1, g2, g3⟩ | h
      · exact Or.inl ⟨(J', _), g1, g2, g3⟩
      · exact Or.inr h
    · intro ⟨J, l5⟩ ⟨f1, f2⟩
      have hq' : J 14 u 2 = nI q := (f1 _ _ _ (fun w => by unfold ah_S at w; omega)).trans hq
      have h0 : q < q + 1 := by omega
      refine ⟨J, ?_, f1⟩
      rw [weak_end (by omega) f2, s14_5]
      by_cases e : i = -nI 1
      · rw [if_pos e]
        simp (disch := first | omega | assumption) only [s14_0, s14_1, s14_2, s14_3, s14_7, s14_8, s14_11, s14_14, s14_17, s14_18, s14_19, s14_22, s14_23, s14_26, s14_27, s14_30, s14_33, s14_36, s14_39, s14_40, s14_44, s14_46, s14_49, s14_50, s14_53, s14_54, s14_57, s14_59, s14_62, s14_63, s14_64, s14_65, s14_68, s14_71, s14_74, s14_75, s14_76, s14_79, s14_81, s14_83, s14_84, s14_86, s14_87, s14_88, s14_91, s14_94, s14_97, s14_100, s14_103, s14_104, s14_105, s14_108, s14_109, s14_112, s14_113, nI_le2, nI_lt2, nI_eq2, nI_lt0, nI_0le, nI_0lt, nI_le0, nI_eq0, nI_clamp, nI_add, bu_nI, bb_0, bb_1, rf_s, rf_n, tl_s, tl_n, am_th_some, if_true, if_false, sI_eq, uI_eq, and_self, true_and, and_true, not_false_eq_true, not_true_eq_false, Nat.reduceEqDiff, Nat.reduceLeDiff, Nat.reduceLT, Nat.reduceAdd, Nat.reduceMul, Nat.reduceSub, Nat.zero_add, r0, k0, k3, hq', h0, e]
      · rw [if_neg e]
        simp (disch := first | omega | assumption) only [s14_0, s14_1, s14_2, s14_3, s14_7, s14_8, s14_11, s14_14, s14_17, s14_18, s14_19, s14_22, s14_23, s14_26, s14_27, s14_30, s14_33, s14_36, s14_39, s14_40, s14_44, s14_46, s14_49, s14_50, s14_53, s14_54, s14_57, s14_59, s14_62, s14_63, s14_64, s14_65, s14_68, s14_71, s14_74, s14_75, s14_76, s14_79, s14_81, s14_83, s14_84, s14_86, s14_87, s14_88, s14_91, s14_94, s14_97, s14_100, s14_103, s14_104, s14_105, s14_108, s14_109, s14_112, s14_113, nI_le2, nI_lt2, nI_eq2, nI_lt0, nI_0le, nI_0lt, nI_le0, nI_eq0, nI_clamp, nI_add, bu_nI, bb_0, bb_1, rf_s, rf_n, tl_s, tl_n, am_th_some, if_true, if_false, sI_eq, uI_eq, and_self, true_and, and_true, not_false_eq_true, not_true_eq_false, Nat.reduceEqDiff, Nat.reduceLeDiff, Nat.reduceLT, Nat.reduceAdd, Nat.reduceMul, Nat.reduceSub, Nat.zero_add, r0, k0, k3, hq', h0, e]
  obtain ⟨J, g1, g2⟩ := loop am_J
  refine ⟨J, ?_, g2⟩
  rw [s14]
  simp (disch := first | omega | assumption) only [s14_0, s14_1, s14_2, s14_3, s14_7, s14_8, s14_11, s14_14, s14_17, s14_18, s14_19, s14_22, s14_23, s14_26, s14_27, s14_30, s14_33, s14_36, s14_39, s14_40, s14_44, s14_46, s14_49, s14_50, s14_53, s14_54, s14_57, s14_59, s14_62, s14_63, s14_64, s14_65, s14_68, s14_71, s14_74, s14_75, s14_76, s14_79, s14_81, s14_83, s14_84, s14_86, s14_87, s14_88, s14_91, s14_94, s14_97, s14_100, s14_103, s14_104, s14_105, s14_108, s14_109, s14_112, s14_113, nI_le2, nI_lt2, nI_eq2, nI_lt0, nI_0le, nI_0lt, nI_le0, nI_eq0, nI_clamp, nI_add, bu_nI, bb_0, bb_1, rf_s, rf_n, tl_s, tl_n, am_th_some, if_true, if_false, sI_eq, uI_eq, and_self, true_and, and_true, not_false_eq_true, not_true_eq_false, Nat.reduceEqDiff, Nat.reduceLeDiff, Nat.reduceLT, Nat.reduceAdd, Nat.reduceMul, Nat.reduceSub, Nat.zero_add]
  exact g1
end
