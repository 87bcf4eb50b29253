/-! WEAK and LOOK, both sides. -/
theorem i32_mv (x y z : Int32) : x - y + z = x + z + z - (y + z) := by
  have h : x + z + z - (y + z) = (x + z) + z - z - y := by
    rw [Int32.add_comm y z, Int32.sub_eq_add_neg, Int32.neg_add, Int32.sub_eq_add_neg, Int32.sub_eq_add_neg, Int32.sub_eq_add_neg, Int32.add_assoc (x + z + z)]
  rw [h, Int32.add_sub_cancel, Int32.sub_eq_add_neg, Int32.sub_eq_add_neg, Int32.add_assoc, Int32.add_assoc, Int32.add_comm (-y)]
theorem i32_mv2 (x y z : Int32) : x - y + -z = x - (y + z) := by
  rw [Int32.sub_eq_add_neg, Int32.sub_eq_add_neg, Int32.neg_add, Int32.sub_eq_add_neg, Int32.add_assoc]
theorem nx_sort : ∀ (F : List Nat), F.Pairwise (· < ·) → ∀ j s, F[j]? = some s → F.find? (fun x => decide (s < x)) = F[j + 1]? := by
  intro F
  induction F with
  | nil => intro _ j s h; simp at h
  | cons a F ih =>
    intro hs j s h
    obtain ⟨h1, h2⟩ := List.pairwise_cons.mp hs
    cases j with
    | zero =>
      have : a = s := by simpa using h
      subst this
      rw [List.find?_cons_of_neg (by simp)]
      cases F with
      | nil => rfl
      | cons c F => rw [List.find?_cons_of_pos (by simpa using h1 c List.mem_cons_self)]; rfl
    | succ j =>
      have h : F[j]? = some s := by simpa using h
      have hm : s ∈ F := List.mem_of_getElem? h
      rw [List.find?_cons_of_neg (by have := h1 s hm; simp; omega), ih h2 j s h]
      rfl
section
variable {d n k kk v : Nat} {I : am_I} {R : am_R} {Q : am_Q} {N : Nat → Nat → Nat} {i : Int32}
theorem nx_none : sp_nx k N kk n none = (sp_fit k N kk n)[0]? := by
  have e : sp_nx k N kk n none = (sp_fit k N kk n).find? (fun _ => true) := by
    rw [sp_fit, List.find?_filter, sp_nx]
    congr 1
    funext x
    rw [Bool.eq_iff_iff]
    constructor
    · intro q
      have q := (@decide_eq_true_iff _ (Classical.propDecidable _)).mp q
      simpa using q.1
    · intro q
      refine (@decide_eq_true_iff _ (Classical.propDecidable _)).mpr ⟨?_, trivial⟩
      simpa using q
  rw [e]
  cases sp_fit k N kk n with
  | nil => rfl
  | cons a F => rw [List.find?_cons_of_pos rfl]; rfl
theorem nx_some {j s : Nat} (h : (sp_fit k N kk n)[j]? = some s) : sp_nx k N kk n (some s) = (sp_fit k N kk n)[j + 1]? := by
  have e : sp_nx k N kk n (some s) = (sp_fit k N kk n).find? (fun x => decide (s < x)) := by
    rw [sp_fit, List.find?_filter, sp_nx]
    congr 1
    funext x
    rw [Bool.eq_iff_iff]
    constructor
    · intro q
      have q := (@decide_eq_true_iff _ (Classical.propDecidable _)).mp q
      have q2 : s < x := q.2
      simpa using And.intro q.1 q2
    · intro q
      have q : sp_so k N x ∧ s < x := by simpa using q
      exact (@decide_eq_true_iff _ (Classical.propDecidable _)).mpr q
  rw [e]
  exact nx_sort _ (List.Pairwise.filter _ ws_sort) j s h
/-- the j-th fitting set, as the model has it -/
def sp_el (F : List Nat) (j : Nat) : Int32 := sp_pi F[j]?
theorem fit_mem {s : Nat} (hn : n ≤ 25) (h : s ∈ sp_fit k N kk n) : 0 < s ∧ s < 2 ^ 25 := by
  have h : s ∈ sp_ws kk n := (List.mem_filter.mp h).1
  refine ⟨?_, Nat.lt_of_lt_of_le (ws_lt h) (Nat.pow_le_pow_right (by decide) hn)⟩
  obtain ⟨c, hc, hm⟩ := List.mem_flatMap.mp h
  by_cases e : kk = 1
  · rw [if_pos e] at hm
    rw [List.mem_singleton.mp hm]
    exact Nat.two_pow_pos _
  · rw [if_neg e] at hm
    obtain ⟨l, hl, rfl⟩ := List.mem_map.mp hm
    exact Nat.lt_of_lt_of_le (Nat.two_pow_pos c) Nat.left_le_or
theorem m_next0 (hr : mm_R R) (hk : nt_ok k N) (h : mn_at I k N) (hn : n ≤ 25) (hc4 : I 12 0 30 = nI n) (hkk : kk = 1 ∨ kk = 2) : am_cal (d + 2) 255 [.ref (am_mk 12 0), .int (nI kk), .int (-nI 1)] I R Q = some (some (.int (sp_el (sp_fit k N kk n) 0)), I, R, Q) := by
  have := m_nextWeak (d := d) (Q := Q) hr hk h hn hc4 hkk (p := none) (fun s hs => by cases hs)
  rw [nx_none] at this
  exact this
theorem m_nextS (hr : mm_R R) (hk : nt_ok k N) (h : mn_at I k N) (hn : n ≤ 25) (hc4 : I 12 0 30 = nI n) (hkk : kk = 1 ∨ kk = 2) {j s : Nat} (hs : (sp_fit k N kk n)[j]? = some s) : am_cal (d + 2) 255 [.ref (am_mk 12 0), .int (nI kk), .int (nI s)] I R Q = some (some (.int (sp_el (sp_fit k N kk n) (j + 1))), I, R, Q) := by
  have := m_nextWeak (d := d) (Q := Q) hr hk h hn hc4 hkk (p := some s) (fun t ht => by cases ht; exact fit_mem hn (List.mem_of_getElem? hs))
  rw [nx_some hs] at this
  exact this
theorem m_weak (hr : mm_R R) (hk : nt_ok k N) (h : mn_at I k N) (hn : n ≤ 25) (hn0 : 1 ≤ n) (hc4 : I 12 0 30 = nI n) (hkk : kk = 1 ∨ kk = 2) : am_cal (d + 3) 257 [.ref (am_mk 12 0), .int (nI kk), .int i] I R Q = some (some (.int (sp_weak (sp_fit k N kk n) i)), I, R, Q) := by
  have hFl : (sp_fit k N kk n).length ≤ 625 := Nat.le_trans fit_len (Nat.le_trans (ws_len hn) (by omega))
  have hl : ¬ I 12 0 30 ≤ 0 := by rw [hc4, nI_le0 (by omega)]; omega
  have hw : am_cal (d + 2) 256 [.ref (am_mk 12 0), .int (nI kk)] I R Q = some (some (.int (nI 1)), I, R, Q) := by
    have k1 : ¬ kk < 1 := by omega
    have k2 : ¬ 2 < kk := by omega
    rw [s256]
    simp (disch := first | omega | assumption) only [s256_0, s256_1, s256_4, s256_7, s256_8, s256_9, s256_10, s256_13, s256_16, s256_17, s256_20, s256_21, nI_le2, nI_lt2, nI_eq2, nI_lt0, nI_0le, nI_0lt, nI_le0, nI_eq0, nI_clamp, nI_add, bu_nI, bb_0, bb_1, rf_s, rf_n, tl_s, tl_n, am_th_some, if_true, if_false, sI_eq, uI_eq, and_self, true_and, and_true, not_false_eq_true, not_true_eq_false, Nat.reduceEqDiff, Nat.reduceLeDiff, Nat.reduceLT, Nat.reduceAdd, Nat.reduceMul, Nat.reduceSub, Nat.zero_add, m_isLunch (d := d + 1), hl, m_in (d := d + 1), k1, k2]
  have loop : ∀ (hi : ¬ i < -nI 1), am_ev (d + 3) 257 25 [.ref (am_mk 12 0), .int (nI kk), .int i, .int (nI 0), .int (sp_el (sp_fit k N kk n) 0)] [] I R Q = some (some (.int (sp_weak (sp_fit k N kk n) i)), I, R, Q) := by
    intro hi
    refine loop_inv (f := fun (_ : Unit) j => am_ev (d + 3) 257 25 [.ref (am_mk 12 0), .int (nI kk), .int i, .int (nI j), .int (sp_el (sp_fit k N kk n) j)] [] I R Q) (Inv := fun j _ => ∀ f, f < j → ¬ nI f = i) (Post := fun y => y = some (some (.int (sp_weak (sp_fit k N kk n) i)), I, R, Q)) (n := (sp_fit k N kk n).length) ?_ ?_ (Nat.zero_le _) (a := ()) (fun f hf => absurd hf (Nat.not_lt_zero _))
    · intro j _ hj hf
      obtain ⟨s, hs⟩ : ∃ s, (sp_fit k N kk n)[j]? = some s := ⟨_, List.getElem?_eq_getElem hj⟩
      have hel : sp_el (sp_fit k N kk n) j = nI s := by rw [sp_el, hs]; rfl
      have hsn : (nI s = -nI 1) = False := eq_false (m1_ne (by have := (fit_mem hn (List.mem_of_getElem? hs)).2; omega))
      have hnx := m_nextS (d := d) (Q := Q) hr hk h hn hc4 hkk hs
      rw [s257_25, hel]
      by_cases e : nI j = i
      · right
        have hsw : sp_weak (sp_fit k N kk n) i = nI s := by
          rw [sp_weak, if_neg (fun q => m1_ne (show j < 2 ^ 31 by omega) (e.trans q)), if_neg (by rw [← e]; exact nI_pos (by omega)), ← e, nI_clamp (by omega), hs]
        rw [hsw]
        simp (disch := first | omega | assumption) only [s257_0, s257_1, s257_2, s257_5, s257_8, s257_9, s257_10, s257_13, s257_14, s257_15, s257_16, s257_17, s257_18, s257_19, s257_20, s257_23, s257_27, s257_28, s257_31, s257_32, s257_33, s257_36, s257_38, s257_39, s257_42, s257_43, s257_44, s257_46, s257_49, s257_51, s257_54, s257_55, s257_56, s257_59, s257_60, s257_63, s257_64, nI_le2, nI_lt2, nI_eq2, nI_lt0, nI_0le, nI_0lt, nI_le0, nI_eq0, nI_clamp, nI_add, bu_nI, bb_0, bb_1, rf_s, rf_n, tl_s, tl_n, am_th_some, if_true, if_false, sI_eq, uI_eq, and_self, true_and, and_true, not_false_eq_true, not_true_eq_false, Nat.reduceEqDiff, Nat.reduceLeDiff, Nat.reduceLT, Nat.reduceAdd, Nat.reduceMul, Nat.reduceSub, Nat.zero_add, hsn, e]
      · left
        refine ⟨(), ?_, fun f hf' => (Nat.lt_succ_iff_lt_or_eq.mp hf').elim (hf f) (fun q => by rw [q]; exact e)⟩
        simp (disch := first | omega | assumption) only [s257_0, s257_1, s257_2, s257_5, s257_8, s257_9, s257_10, s257_13, s257_14, s257_15, s257_16, s257_17, s257_18, s257_19, s257_20, s257_23, s257_27, s257_28, s257_31, s257_32, s257_33, s257_36, s257_38, s257_39, s257_42, s257_43, s257_44, s257_46, s257_49, s257_51, s257_54, s257_55, s257_56, s257_59, s257_60, s257_63, s257_64, nI_le2, nI_lt2, nI_eq2, nI_lt0, nI_0le, nI_0lt, nI_le0, nI_eq0, nI_clamp, nI_add, bu_nI, bb_0, bb_1, rf_s, rf_n, tl_s, tl_n, am_th_some, if_true, if_false, sI_eq, uI_eq, and_self, true_and, and_true, not_false_eq_true, not_true_eq_false, Nat.reduceEqDiff, Nat.reduceLeDiff, Nat.reduceLT, Nat.reduceAdd, Nat.reduceMul, Nat.reduceSub, Nat.zero_add, hsn, e, hnx]
    · intro _ hf
      have hel : sp_el (sp_fit k N kk n) (sp_fit k N kk n).length = -nI 1 := by rw [sp_el, List.getElem?_eq_none (Nat.le_refl _)]; rfl
      rw [weak_end (by omega) hf, s257_25, hel]
      by_cases e : i = -nI 1
      · rw [if_pos e]
        simp (disch := first | omega | assumption) only [s257_0, s257_1, s257_2, s257_5, s257_8, s257_9, s257_10, s257_13, s257_14, s257_15, s257_16, s257_17, s257_18, s257_19, s257_20, s257_23, s257_27, s257_28, s257_31, s257_32, s257_33, s257_36, s257_38, s257_39, s257_42, s257_43, s257_44, s257_46, s257_49, s257_51, s257_54, s257_55, s257_56, s257_59, s257_60, s257_63, s257_64, nI_le2, nI_lt2, nI_eq2, nI_lt0, nI_0le, nI_0lt, nI_le0, nI_eq0, nI_clamp, nI_add, bu_nI, bb_0, bb_1, rf_s, rf_n, tl_s, tl_n, am_th_some, if_true, if_false, sI_eq, uI_eq, and_self, true_and, and_true, not_false_eq_true, not_true_eq_false, Nat.reduceEqDiff, Nat.reduceLeDiff, Nat.reduceLT, Nat.reduceAdd, Nat.reduceMul, Nat.reduceSub, Nat.zero_add, e]
      · rw [if_neg e]
        simp (disch := first | omega | assumption) only [s257_0, s257_1, s257_2, s257_5, s257_8, s257_9, s257_10, s257_13, s257_14, s257_15, s257_16, s257_17, s257_18, s257_19, s257_20, s257_23, s257_27, s257_28, s257_31, s257_32, s257_33, s257_36, s257_38, s257_39, s257_42, s257_43, s257_44, s257_46, s257_49, s257_51, s257_54, s257_55, s257_56, s257_59, s257_60, s257_63, s257_64, nI_le2, nI_lt2, nI_eq2, nI_lt0, nI_0le, nI_0lt, nI_le0, nI_eq0, nI_clamp, nI_add, bu_nI, bb_0, bb_1, rf_s, rf_n, tl_s, tl_n, am_th_some, if_true, if_false, sI_eq, uI_eq, and_self, true_and, and_true, not_false_eq_true, not_true_eq_false, Nat.reduceEqDiff, Nat.reduceLeDiff, Nat.reduceLT, Nat.reduceAdd, Nat.reduceMul, Nat.reduceSub, Nat.zero_add, e]
  rw [s257]
  by_cases hi : i < -nI 1
  · have h1 : ¬ -nI 1 ≤ i := Int32.not_le.mpr hi
    have h0 : sp_weak (sp_fit k N kk n) i = -nI 1 := by
      rw [sp_weak, if_neg (fun q => by rw [q] at hi; exact Int32.lt_irrefl hi), if_pos (Int32.lt_trans hi (by decide))]
    rw [h0]
    simp (disch := first | omega | assumption) only [s257_0, s257_1, s257_2, s257_5, s257_8, s257_9, s257_10, s257_13, s257_14, s257_15, s257_16, s257_17, s257_18, s257_19, s257_20, s257_23, s257_27, s257_28, s257_31, s257_32, s257_33, s257_36, s257_38, s257_39, s257_42, s257_43, s257_44, s257_46, s257_49, s257_51, s257_54, s257_55, s257_56, s257_59, s257_60, s257_63, s257_64, nI_le2, nI_lt2, nI_eq2, nI_lt0, nI_0le, nI_0lt, nI_le0, nI_eq0, nI_clamp, nI_add, bu_nI, bb_0, bb_1, rf_s, rf_n, tl_s, tl_n, am_th_some, if_true, if_false, sI_eq, uI_eq, and_self, true_and, and_true, not_false_eq_true, not_true_eq_false, Nat.reduceEqDiff, Nat.reduceLeDiff, Nat.reduceLT, Nat.reduceAdd, Nat.reduceMul, Nat.reduceSub, Nat.zero_add, hw, h1]
  · have h1 : (-nI 1 ≤ i) = True := eq_true (Int32.not_lt.mp hi)
    simp (disch := first | omega | assumption) only [s257_0, s257_1, s257_2, s257_5, s257_8, s257_9, s257_10, s257_13, s257_14, s257_15, s257_16, s257_17, s257_18, s257_19, s257_20, s257_23, s257_27, s257_28, s257_31, s257_32, s257_33, s257_36, s257_38, s257_39, s257_42, s257_43, s257_44, s257_46, s257_49, s257_51, s257_54, s257_55, s257_56, s257_59, s257_60, s257_63, s257_64, nI_le2, nI_lt2, nI_eq2, nI_lt0, nI_0le, nI_0lt, nI_le0, nI_eq0, nI_clamp, nI_add, bu_nI, bb_0, bb_1, rf_s, rf_n, tl_s, tl_n, am_th_some, if_true, if_false, sI_eq, uI_eq, and_self, true_and, and_true, not_false_eq_true, not_true_eq_false, Nat.reduceEqDiff, Nat.reduceLeDiff, Nat.reduceLT, Nat.reduceAdd, Nat.reduceMul, Nat.reduceSub, Nat.zero_add, hw, h1, m_next0 (d := d) hr hk h hn hc4 hkk]
    exact loop hi
/-- the CELL by which yes and no are least apart: of how many (FAR apart at first) -/
abbrev sp_abs (x : Int32) : Int32 := if 0 ≤ x then x else 0 - x
def sp_bs1 (F : List Nat) (a : Int32 × Int32) (c : Nat) : Int32 × Int32 := if sp_abs (nI F.length - nI 2 * nI (sp_cnt F c)) < a.1 then (sp_abs (nI F.length - nI 2 * nI (sp_cnt F c)), nI c) else a
def sp_best (F : List Nat) (n : Nat) : Int32 := if F.length = 0 then -nI 1 else (am_fold (sp_bs1 F) (nI 1000000000, -nI 1) n).2
theorem cnt_le (F : List Nat) (c : Nat) : sp_cnt F c ≤ F.length := List.length_filter_le _ _
theorem abs_lt {a b : Nat} (ha : a ≤ 1000) (hb : b ≤ a) : sp_abs (nI a - nI 2 * nI b) < nI 1000000000 := by
  rw [nI_mul]
  by_cases e : 2 * b ≤ a
  · rw [nI_sub e, sp_abs, if_pos (nI_pos' (by omega)), nI_lt2 (by omega) (by decide)]; omega
  · have e1 : nI a - nI (2 * b) = -nI (2 * b - a) := by rw [← nI_sub (show a ≤ 2 * b by omega), Int32.neg_sub]
    have e2 : ¬ 0 ≤ nI a - nI (2 * b) := by
      intro q
      have := sub_neg (show a ≤ 2 * b by omega) (show 2 * b < 2 ^ 31 by omega)
      rw [nI_0] at this
      rcases Int32.lt_or_eq_of_le q with w | w
      · exact this w
      · have h3 := congrArg Int32.toInt w
        rw [e1, Int32.toInt_neg, nI_toInt (by omega), bm_32 (by omega) (by omega)] at h3
        have h4 : (0 : Int32).toInt = 0 := rfl
        omega
    rw [sp_abs, if_neg e2, e1, Int32.sub_neg, Int32.zero_add, nI_lt2 (by omega) (by decide)]
    omega
theorem c_whereToLook (hr : nt_R R v) (hk : nt_ok k N) (h : nt_at I v k N) (hn : n ≤ 25) (hkk : kk = 1 ∨ kk = 2) : ∃ J, am_cal (d + 2) 73 [.ref (am_mk 8 v), .int (nI n), .int (nI kk)] I R Q = some (some (.int (sp_best (sp_fit k N kk n) n)), J, R, Q) ∧ am_fr (nt_S v) I J := by
  obtain ⟨J, g1, g2, g3⟩ := c_weakCells (d := d) (Q := Q) (i := -nI 1) hr hk h hn hkk
  have g3 := g3 rfl
  obtain ⟨r0, r1, r2, r3⟩ := hr
  have hFl : (sp_fit k N kk n).length ≤ 625 := Nat.le_trans fit_len (Nat.le_trans (ws_len hn) (by omega))
  rw [sp_weak, if_pos rfl] at g1
  generalize sp_fit k N kk n = F at g1 g3 hFl
  refine ⟨J, ?_, g2⟩
  by_cases hF : F.length = 0
  · rw [s73, sp_best, if_pos hF]
    rw [hF] at g1
    simp (disch := first | omega | assumption) only [s73_0, s73_1, s73_2, s73_3, s73_4, s73_7, s73_8, s73_9, s73_11, s73_13, s73_15, s73_16, s73_19, s73_22, s73_24, s73_25, s73_28, s73_30, s73_32, s73_35, s73_36, s73_37, s73_38, s73_41, s73_43, s73_44, s73_45, s73_46, s73_49, s73_51, s73_53, s73_55, s73_58, s73_60, s73_62, s73_64, s73_66, s73_69, s73_72, s73_74, nI_le2, nI_lt2, nI_eq2, nI_lt0, nI_0le, nI_0lt, nI_le0, nI_eq0, nI_clamp, nI_add, bu_nI, bb_0, bb_1, rf_s, rf_n, tl_s, tl_n, am_th_some, if_true, if_false, sI_eq, uI_eq, and_self, true_and, and_true, not_false_eq_true, not_true_eq_false, Nat.reduceEqDiff, Nat.reduceLeDiff, Nat.reduceLT, Nat.reduceAdd, Nat.reduceMul, Nat.reduceSub, Nat.zero_add, g1]
    rw [s73_18]
    simp (disch := first | omega | assumption) only [s73_0, s73_1, s73_2, s73_3, s73_4, s73_7, s73_8, s73_9, s73_11, s73_13, s73_15, s73_16, s73_19, s73_22, s73_24, s73_25, s73_28, s73_30, s73_32, s73_35, s73_36, s73_37, s73_38, s73_41, s73_43, s73_44, s73_45, s73_46, s73_49, s73_51, s73_53, s73_55, s73_58, s73_60, s73_62, s73_64, s73_66, s73_69, s73_72, s73_74, nI_le2, nI_lt2, nI_eq2, nI_lt0, nI_0le, nI_0lt, nI_le0, nI_eq0, nI_clamp, nI_add, bu_nI, bb_0, bb_1, rf_s, rf_n, tl_s, tl_n, am_th_some, if_true, if_false, sI_eq, uI_eq, and_self, true_and, and_true, not_false_eq_true, not_true_eq_false, Nat.reduceEqDiff, Nat.reduceLeDiff, Nat.reduceLT, Nat.reduceAdd, Nat.reduceMul, Nat.reduceSub, Nat.zero_add]
  · have loop : ∀ l7 : Value, am_ev (d + 2) 73 18 [.ref (am_mk 8 v), .int (nI n), .int (nI kk), .int (nI F.length), .int (-nI 1), .int (nI 1000000000), .int (nI 0), l7] [] J R Q = some (some (.int (sp_best F n)), J, R, Q) := by
      intro l7
      refine loop_inv (f := fun (a : (Int32 × Int32) × Value) c => am_ev (d + 2) 73 18 [.ref (am_mk 8 v), .int (nI n), .int (nI kk), .int (nI F.length), .int a.1.2, .int a.1.1, .int (nI c), a.2] [] J R Q) (Inv := fun c a => a.1 = am_fold (sp_bs1 F) (nI 1000000000, -nI 1) c) (Post := fun y => y = some (some (.int (sp_best F n)), J, R, Q)) (n := n) ?_ ?_ (Nat.zero_le _) (a := ((nI 1000000000, -nI 1), l7)) rfl
      · intro c ⟨a, l7⟩ hc hi
        left
        have hi : a = am_fold (sp_bs1 F) (nI 1000000000, -nI 1) c := hi
        have h1 : ¬ n ≤ c := by omega
        have h2 : ¬ 25 ≤ c := by omega
        have e := g3 c (by omega)
        by_cases q : sp_abs (nI F.length - nI 2 * nI (sp_cnt F c)) < a.1
        · refine ⟨((sp_abs (nI F.length - nI 2 * nI (sp_cnt F c)), nI c), .int (sp_abs (nI F.length - nI 2 * nI (sp_cnt F c)))), ?_, by rw [fold_s, ← hi, sp_bs1, if_pos q]⟩
          have q' := Int32.not_le.mpr q
          rw [s73_18]
          simp (disch := first | omega | assumption) only [s73_0, s73_1, s73_2, s73_3, s73_4, s73_7, s73_8, s73_9, s73_11, s73_13, s73_15, s73_16, s73_19, s73_22, s73_24, s73_25, s73_28, s73_30, s73_32, s73_35, s73_36, s73_37, s73_38, s73_41, s73_43, s73_44, s73_45, s73_46, s73_49, s73_51, s73_53, s73_55, s73_58, s73_60, s73_62, s73_64, s73_66, s73_69, s73_72, s73_74, nI_le2, nI_lt2, nI_eq2, nI_lt0, nI_0le, nI_0lt, nI_le0, nI_eq0, nI_clamp, nI_add, bu_nI, bb_0, bb_1, rf_s, rf_n, tl_s, tl_n, am_th_some, if_true, if_false, sI_eq, uI_eq, and_self, true_and, and_true, not_false_eq_true, not_true_eq_false, Nat.reduceEqDiff, Nat.reduceLeDiff, Nat.reduceLT, Nat.reduceAdd, Nat.reduceMul, Nat.reduceSub, Nat.zero_add, hF, h1, h2, r3, e, q']
        · refine ⟨(a, .int (sp_abs (nI F.length - nI 2 * nI (sp_cnt F c)))), ?_, by rw [fold_s, ← hi, sp_bs1, if_neg q]⟩
          have q' := Int32.not_lt.mp q
          rw [s73_18]
          simp (disch := first | omega | assumption) only [s73_0, s73_1, s73_2, s73_3, s73_4, s73_7, s73_8, s73_9, s73_11, s73_13, s73_15, s73_16, s73_19, s73_22, s73_24, s73_25, s73_28, s73_30, s73_32, s73_35, s73_36, s73_37, s73_38, s73_41, s73_43, s73_44, s73_45, s73_46, s73_49, s73_51, s73_53, s73_55, s73_58, s73_60, s73_62, s73_64, s73_66, s73_69, s73_72, s73_74, nI_le2, nI_lt2, nI_eq2, nI_lt0, nI_0le, nI_0lt, nI_le0, nI_eq0, nI_clamp, nI_add, bu_nI, bb_0, bb_1, rf_s, rf_n, tl_s, tl_n, am_th_some, if_true, if_false, sI_eq, uI_eq, and_self, true_and, and_true, not_false_eq_true, not_true_eq_false, Nat.reduceEqDiff, Nat.reduceLeDiff, Nat.reduceLT, Nat.reduceAdd, Nat.reduceMul, Nat.reduceSub, Nat.zero_add, hF, h1, h2, r3, e, q']
      · intro ⟨a, l7⟩ hi
        have hi : a = am_fold (sp_bs1 F) (nI 1000000000, -nI 1) n := hi
        rw [s73_18, sp_best, if_neg hF]
        simp (disch := first | omega | assumption) only [s73_0, s73_1, s73_2, s73_3, s73_4, s73_7, s73_8, s73_9, s73_11, s73_13, s73_15, s73_16, s73_19, s73_22, s73_24, s73_25, s73_28, s73_30, s73_32, s73_35, s73_36, s73_37, s73_38, s73_41, s73_43, s73_44, s73_45, s73_46, s73_49, s73_51, s73_53, s73_55, s73_58, s73_60, s73_62, s73_64, s73_66, s73_69, s73_72, s73_74, nI_le2, nI_lt2, nI_eq2, nI_lt0, nI_0le, nI_0lt, nI_le0, nI_eq0, nI_clamp, nI_add, bu_nI, bb_0, bb_1, rf_s, rf_n, tl_s, tl_n, am_th_some, if_true, if_false, sI_eq, uI_eq, and_self, true_and, and_true, not_false_eq_true, not_true_eq_false, Nat.reduceEqDiff, Nat.reduceLeDiff, Nat.reduceLT, Nat.reduceAdd, Nat.reduceMul, Nat.reduceSub, Nat.zero_add, hF, Nat.le_refl]
        rw [hi]
    rw [s73]
    simp (disch := first | omega | assumption) only [s73_0, s73_1, s73_2, s73_3, s73_4, s73_7, s73_8, s73_9, s73_11, s73_13, s73_15, s73_16, s73_19, s73_22, s73_24, s73_25, s73_28, s73_30, s73_32, s73_35, s73_36, s73_37, s73_38, s73_41, s73_43, s73_44, s73_45, s73_46, s73_49, s73_51, s73_53, s73_55, s73_58, s73_60, s73_62, s73_64, s73_66, s73_69, s73_72, s73_74, nI_le2, nI_lt2, nI_eq2, nI_lt0, nI_0le, nI_0lt, nI_le0, nI_eq0, nI_clamp, nI_add, bu_nI, bb_0, bb_1, rf_s, rf_n, tl_s, tl_n, am_th_some, if_true, if_false, sI_eq, uI_eq, and_self, true_and, and_true, not_false_eq_true, not_true_eq_false, Nat.reduceEqDiff, Nat.reduceLeDiff, Nat.reduceLT, Nat.reduceAdd, Nat.reduceMul, Nat.reduceSub, Nat.zero_add, g1]
    exact loop _
theorem abs_swap {a b : Nat} (ha : a ≤ 10000) (hb : b ≤ 10000) : sp_abs (nI a - nI b) = sp_abs (nI b - nI a) := by
  have key : ∀ x y : Nat, y ≤ x → x ≤ 10000 → sp_abs (nI x - nI y) = nI (x - y) ∧ sp_abs (nI y - nI x) = nI (x - y) := by
    intro x y hxy hx
    refine ⟨by rw [nI_sub hxy, sp_abs, if_pos (nI_pos' (by omega))], ?_⟩
    have e1 : nI y - nI x = -nI (x - y) := by rw [← nI_sub hxy, Int32.neg_sub]
    by_cases e : x = y
    · subst e; rw [Int32.sub_self, Nat.sub_self, sp_abs, if_pos (by decide)]; rfl
    · have e2 : ¬ 0 ≤ nI y - nI x := by
        intro q
        have := sub_neg hxy (show x < 2 ^ 31 by omega)
        rw [nI_0] at this
        rcases Int32.lt_or_eq_of_le q with w | w
        · exact this w
        · have h3 := congrArg Int32.toInt w
          rw [e1, Int32.toInt_neg, nI_toInt (by omega), bm_32 (by omega) (by omega)] at h3
          have h4 : (0 : Int32).toInt = 0 := rfl
          omega
      rw [sp_abs, if_neg e2, e1, Int32.sub_neg, Int32.zero_add]
  by_cases e : b ≤ a
  · obtain ⟨h1, h2⟩ := key a b e ha
    rw [h1, h2]
  · obtain ⟨h1, h2⟩ := key b a (by omega) hb
    rw [h1, h2]
theorem m_best (hr : mm_R R) (hk : nt_ok k N) (h : mn_at I k N) (hn : n ≤ 25) (hn0 : 1 ≤ n) (hc4 : I 12 0 30 = nI n) (hkk : kk = 1 ∨ kk = 2) : am_cal (d + 3) 258 [.ref (am_mk 12 0), .int (nI kk)] I R Q = some (some (.int (sp_best (sp_fit k N kk n) n)), I, R, Q) := by
  have hFl : (sp_fit k N kk n).length ≤ 625 := Nat.le_trans fit_len (Nat.le_trans (ws_len hn) (by omega))
  have hl : ¬ I 12 0 30 ≤ 0 := by rw [hc4, nI_le0 (by omega)]; omega
  have hw : am_cal (d + 2) 256 [.ref (am_mk 12 0), .int (nI kk)] I R Q = some (some (.int (nI 1)), I, R, Q) := by
    have k1 : ¬ kk < 1 := by omega
    have k2 : ¬ 2 < kk := by omega
    rw [s256]
    simp (disch := first | omega | assumption) only [s256_0, s256_1, s256_4, s256_7, s256_8, s256_9, s256_10, s256_13, s256_16, s256_17, s256_20, s256_21, nI_le2, nI_lt2, nI_eq2, nI_lt0, nI_0le, nI_0lt, nI_le0, nI_eq0, nI_clamp, nI_add, bu_nI, bb_0, bb_1, rf_s, rf_n, tl_s, tl_n, am_th_some, if_true, if_false, sI_eq, uI_eq, and_self, true_and, and_true, not_false_eq_true, not_true_eq_false, Nat.reduceEqDiff, Nat.reduceLeDiff, Nat.reduceLT, Nat.reduceAdd, Nat.reduceMul, Nat.reduceSub, Nat.zero_add, m_isLunch (d := d + 1), hl, m_in (d := d + 1), k1, k2]
  have hne : ((nI 1 : Int32) = 0) = False := eq_false (by decide)
  have hn0' := m_next0 (d := d) (Q := Q) hr hk h hn hc4 hkk
  have hfm : ∀ j, j < (sp_fit k N kk n).length → ∃ s, (sp_fit k N kk n)[j]? = some s ∧ s < 2 ^ 25 := fun j hj => ⟨_, List.getElem?_eq_getElem hj, (fit_mem hn (List.getElem_mem hj)).2⟩
  have hnS : ∀ j s, (sp_fit k N kk n)[j]? = some s → am_cal (d + 2) 255 [.ref (am_mk 12 0), .int (nI kk), .int (nI s)] I R Q = some (some (.int (sp_el (sp_fit k N kk n) (j + 1))), I, R, Q) := fun j s hs => m_nextS (d := d) (Q := Q) hr hk h hn hc4 hkk hs
  generalize sp_fit k N kk n = F at hFl hn0' hfm hnS
  have hend : sp_el F F.length = -nI 1 := by rw [sp_el, List.getElem?_eq_none (Nat.le_refl _)]; rfl
  by_cases hF : F.length = 0
  · rw [s258, sp_best, if_pos hF]
    rw [hF] at hend
    rw [hend] at hn0'
    simp (disch := first | omega | assumption) only [s258_0, s258_1, s258_2, s258_5, s258_8, s258_9, s258_10, s258_11, s258_14, s258_15, s258_18, s258_19, s258_20, s258_21, s258_22, s258_23, s258_24, s258_25, s258_29, s258_30, s258_33, s258_36, s258_37, s258_39, s258_40, s258_41, s258_42, s258_45, s258_49, s258_50, s258_53, s258_55, s258_57, s258_59, s258_62, s258_65, s258_66, s258_69, s258_70, s258_71, s258_73, s258_74, s258_75, s258_77, s258_80, s258_82, s258_85, s258_86, s258_87, s258_90, s258_92, s258_95, s258_96, s258_99, s258_101, s258_102, s258_104, s258_107, s258_108, s258_111, s258_114, s258_115, nI_le2, nI_lt2, nI_eq2, nI_lt0, nI_0le, nI_0lt, nI_le0, nI_eq0, nI_clamp, nI_add, bu_nI, bb_0, bb_1, rf_s, rf_n, tl_s, tl_n, am_th_some, if_true, if_false, sI_eq, uI_eq, and_self, true_and, and_true, not_false_eq_true, not_true_eq_false, Nat.reduceEqDiff, Nat.reduceLeDiff, Nat.reduceLT, Nat.reduceAdd, Nat.reduceMul, Nat.reduceSub, Nat.zero_add, hw, hn0']
  · obtain ⟨s0, hs0, hs0'⟩ := hfm 0 (by omega)
    have hel0 : sp_el F 0 = nI s0 := by rw [sp_el, hs0]; rfl
    have hs0n : (nI s0 = -nI 1) = False := eq_false (m1_ne (by omega))
    have hs0i : (nI s0 = nI s0) = True := eq_true rfl
    have tk : ∀ j c, j < F.length → ∀ s, F[j]? = some s → sp_cnt (F.take (j + 1)) c = sp_cnt (F.take j) c + if s.testBit c = true then 1 else 0 := fun j c hj s hs => by
      rw [List.take_add_one, hs, cnt_app]
      congr 1
      by_cases q : s.testBit c = true
      · rw [if_pos q, sp_cnt]; simp [q]
      · rw [if_neg q, sp_cnt]; simp [q]
    have inner : ∀ (c : Nat) (x y : Int32), c < n → am_ev (d + 3) 258 47 [.ref (am_mk 12 0), .int (nI kk), .int x, .int y, .int (nI c), .int (nI 0), .int (sp_el F 0)] [] I R Q = am_ev (d + 3) 258 47 [.ref (am_mk 12 0), .int (nI kk), .int x, .int y, .int (nI c), .int (nI (2 * sp_cnt F c) - nI F.length), .int (-nI 1)] [] I R Q := by
      intro c x y hc
      have key := loop_inv (f := fun (_ : Unit) j => am_ev (d + 3) 258 47 [.ref (am_mk 12 0), .int (nI kk), .int x, .int y, .int (nI c), .int (nI (2 * sp_cnt (F.take j) c) - nI j), .int (sp_el F j)] [] I R Q) (Inv := fun _ _ => True) (Post := fun z => z = am_ev (d + 3) 258 47 [.ref (am_mk 12 0), .int (nI kk), .int x, .int y, .int (nI c), .int (nI (2 * sp_cnt F c) - nI F.length), .int (-nI 1)] [] I R Q) (n := F.length) ?_ ?_ (Nat.zero_le _) (a := ()) trivial
      · have e0 : nI (2 * sp_cnt (F.take 0) c) - nI 0 = nI 0 := by rw [List.take_zero]; show nI 0 - nI 0 = nI 0; decide
        rw [e0] at key
        exact key
      · intro j _ hj _
        left
        obtain ⟨s, hs, hs'⟩ := hfm j hj
        have hel : sp_el F j = nI s := by rw [sp_el, hs]; rfl
        have hsn : (nI s = -nI 1) = False := eq_false (m1_ne (by omega))
        have hh := m_has (d := d + 2) (a := nI s) (b := nI c) (I := I) (R := R) (Q := Q)
        have hbit := bit_has (s := s) (c := c) (by omega) (by omega)
        refine ⟨(), ?_, trivial⟩
        rw [s258_47, hel, tk j c hj s hs]
        by_cases q : s.testBit c = true
        · rw [if_pos (by rw [hbit]; exact q)] at hh
          have e : nI (2 * sp_cnt (F.take j) c) - nI j + nI 1 = nI (2 * (sp_cnt (F.take j) c + 1)) - nI (j + 1) := by
            have gen : ∀ x y z : Int32, x - y + z = x + z + z - (y + z) := by intro x y z; exact i32_mv x y z
            have e1 : nI (2 * (sp_cnt (F.take j) c + 1)) = nI (2 * sp_cnt (F.take j) c) + nI 1 + nI 1 := by
              rw [nI_add, nI_add]; congr 1
            rw [e1, ← nI_add j 1]
            exact gen _ _ _
          rw [if_pos q]
          simp (disch := first | omega | assumption) only [s258_0, s258_1, s258_2, s258_5, s258_8, s258_9, s258_10, s258_11, s258_14, s258_15, s258_18, s258_19, s258_20, s258_21, s258_22, s258_23, s258_24, s258_25, s258_29, s258_30, s258_33, s258_36, s258_37, s258_39, s258_40, s258_41, s258_42, s258_45, s258_49, s258_50, s258_53, s258_55, s258_57, s258_59, s258_62, s258_65, s258_66, s258_69, s258_70, s258_71, s258_73, s258_74, s258_75, s258_77, s258_80, s258_82, s258_85, s258_86, s258_87, s258_90, s258_92, s258_95, s258_96, s258_99, s258_101, s258_102, s258_104, s258_107, s258_108, s258_111, s258_114, s258_115, nI_le2, nI_lt2, nI_eq2, nI_lt0, nI_0le, nI_0lt, nI_le0, nI_eq0, nI_clamp, nI_add, bu_nI, bb_0, bb_1, rf_s, rf_n, tl_s, tl_n, am_th_some, if_true, if_false, sI_eq, uI_eq, and_self, true_and, and_true, not_false_eq_true, not_true_eq_false, Nat.reduceEqDiff, Nat.reduceLeDiff, Nat.reduceLT, Nat.reduceAdd, Nat.reduceMul, Nat.reduceSub, Nat.zero_add, hsn, hh, hnS j s hs, e]
        · rw [if_neg (by rw [hbit]; exact q)] at hh
          have e : nI (2 * sp_cnt (F.take j) c) - nI j + -nI 1 = nI (2 * (sp_cnt (F.take j) c + 0)) - nI (j + 1) := by
            rw [Nat.add_zero, ← nI_add j 1]
            exact i32_mv2 _ _ _
          rw [if_neg q]
          simp (disch := first | omega | assumption) only [s258_0, s258_1, s258_2, s258_5, s258_8, s258_9, s258_10, s258_11, s258_14, s258_15, s258_18, s258_19, s258_20, s258_21, s258_22, s258_23, s258_24, s258_25, s258_29, s258_30, s258_33, s258_36, s258_37, s258_39, s258_40, s258_41, s258_42, s258_45, s258_49, s258_50, s258_53, s258_55, s258_57, s258_59, s258_62, s258_65, s258_66, s258_69, s258_70, s258_71, s258_73, s258_74, s258_75, s258_77, s258_80, s258_82, s258_85, s258_86, s258_87, s258_90, s258_92, s258_95, s258_96, s258_99, s258_101, s258_102, s258_104, s258_107, s258_108, s258_111, s258_114, s258_115, nI_le2, nI_lt2, nI_eq2, nI_lt0, nI_0le, nI_0lt, nI_le0, nI_eq0, nI_clamp, nI_add, bu_nI, bb_0, bb_1, rf_s, rf_n, tl_s, tl_n, am_th_some, if_true, if_false, sI_eq, uI_eq, and_self, true_and, and_true, not_false_eq_true, not_true_eq_false, Nat.reduceEqDiff, Nat.reduceLeDiff, Nat.reduceLT, Nat.reduceAdd, Nat.reduceMul, Nat.reduceSub, Nat.zero_add, hsn, hh, hnS j s hs, e]
      · intro _ _
        show am_ev _ _ _ _ _ _ _ _ = _
        rw [List.take_length, hend]
    have loop : ∀ l5 l6 : Value, am_ev (d + 3) 258 27 [.ref (am_mk 12 0), .int (nI kk), .int (-nI 1), .int (nI 0), .int (nI 0), l5, l6] [] I R Q = some (some (.int (sp_best F n)), I, R, Q) := by
      intro l5 l6
      refine loop_inv (f := fun (a : (Int32 × Int32) × Value × Value) c => am_ev (d + 3) 258 27 [.ref (am_mk 12 0), .int (nI kk), .int a.1.2, .int a.1.1, .int (nI c), a.2.1, a.2.2] [] I R Q) (Inv := fun c a => (c = 0 ∧ a.1.2 = -nI 1) ∨ (a.1 = am_fold (sp_bs1 F) (nI 1000000000, -nI 1) c ∧ ∃ j, j < c ∧ a.1.2 = nI j)) (Post := fun z => z = some (some (.int (sp_best F n)), I, R, Q)) (n := n) ?_ ?_ (Nat.zero_le _) (a := ((nI 0, -nI 1), l5, l6)) (Or.inl ⟨rfl, rfl⟩)
      · intro c ⟨a, l5, l6⟩ hc hi
        left
        have hi : (c = 0 ∧ a.2 = -nI 1) ∨ (a = am_fold (sp_bs1 F) (nI 1000000000, -nI 1) c ∧ ∃ j, j < c ∧ a.2 = nI j) := hi
        have h1 : ¬ n ≤ c := by omega
        have hcl := cnt_le F c
        have hsw : sp_abs (nI (2 * sp_cnt F c) - nI F.length) = sp_abs (nI F.length - nI 2 * nI (sp_cnt F c)) := by
          rw [nI_mul]
          exact abs_swap (by omega) (by omega)
        have go : am_ev (d + 3) 258 27 [.ref (am_mk 12 0), .int (nI kk), .int a.2, .int a.1, .int (nI c), l5, l6] [] I R Q = am_ev (d + 3) 258 85 [.ref (am_mk 12 0), .int (nI kk), .int a.2, .int a.1, .int (nI c), .int (nI (2 * sp_cnt F c) - nI F.length), .int (-nI 1)] [] I R Q := by
          have e : am_ev (d + 3) 258 27 [.ref (am_mk 12 0), .int (nI kk), .int a.2, .int a.1, .int (nI c), l5, l6] [] I R Q = am_ev (d + 3) 258 47 [.ref (am_mk 12 0), .int (nI kk), .int a.2, .int a.1, .int (nI c), .int (nI 0), .int (sp_el F 0)] [] I R Q := by
            rw [s258_27]
            simp (disch := first | omega | assumption) only [s258_0, s258_1, s258_2, s258_5, s258_8, s258_9, s258_10, s258_11, s258_14, s258_15, s258_18, s258_19, s258_20, s258_21, s258_22, s258_23, s258_24, s258_25, s258_29, s258_30, s258_33, s258_36, s258_37, s258_39, s258_40, s258_41, s258_42, s258_45, s258_49, s258_50, s258_53, s258_55, s258_57, s258_59, s258_62, s258_65, s258_66, s258_69, s258_70, s258_71, s258_73, s258_74, s258_75, s258_77, s258_80, s258_82, s258_85, s258_86, s258_87, s258_90, s258_92, s258_95, s258_96, s258_99, s258_101, s258_102, s258_104, s258_107, s258_108, s258_111, s258_114, s258_115, nI_le2, nI_lt2, nI_eq2, nI_lt0, nI_0le, nI_0lt, nI_le0, nI_eq0, nI_clamp, nI_add, bu_nI, bb_0, bb_1, rf_s, rf_n, tl_s, tl_n, am_th_some, if_true, if_false, sI_eq, uI_eq, and_self, true_and, and_true, not_false_eq_true, not_true_eq_false, Nat.reduceEqDiff, Nat.reduceLeDiff, Nat.reduceLT, Nat.reduceAdd, Nat.reduceMul, Nat.reduceSub, Nat.zero_add, hc4, h1, hn0']
          rw [e, inner c _ _ hc, s258_47]
          simp (disch := first | omega | assumption) only [s258_0, s258_1, s258_2, s258_5, s258_8, s258_9, s258_10, s258_11, s258_14, s258_15, s258_18, s258_19, s258_20, s258_21, s258_22, s258_23, s258_24, s258_25, s258_29, s258_30, s258_33, s258_36, s258_37, s258_39, s258_40, s258_41, s258_42, s258_45, s258_49, s258_50, s258_53, s258_55, s258_57, s258_59, s258_62, s258_65, s258_66, s258_69, s258_70, s258_71, s258_73, s258_74, s258_75, s258_77, s258_80, s258_82, s258_86, s258_87, s258_90, s258_92, s258_95, s258_96, s258_99, s258_101, s258_102, s258_104, s258_107, s258_108, s258_111, s258_114, s258_115, nI_le2, nI_lt2, nI_eq2, nI_lt0, nI_0le, nI_0lt, nI_le0, nI_eq0, nI_clamp, nI_add, bu_nI, bb_0, bb_1, rf_s, rf_n, tl_s, tl_n, am_th_some, if_true, if_false, sI_eq, uI_eq, and_self, true_and, and_true, not_false_eq_true, not_true_eq_false, Nat.reduceEqDiff, Nat.reduceLeDiff, Nat.reduceLT, Nat.reduceAdd, Nat.reduceMul, Nat.reduceSub, Nat.zero_add]
        have take : ∀ (hcond : a.2 = -nI 1 ∨ sp_abs (nI F.length - nI 2 * nI (sp_cnt F c)) < a.1), am_ev (d + 3) 258 85 [.ref (am_mk 12 0), .int (nI kk), .int a.2, .int a.1, .int (nI c), .int (nI (2 * sp_cnt F c) - nI F.length), .int (-nI 1)] [] I R Q = am_ev (d + 3) 258 27 [.ref (am_mk 12 0), .int (nI kk), .int (nI c), .int (sp_abs (nI F.length - nI 2 * nI (sp_cnt F c))), .int (nI (c + 1)), .int (nI (2 * sp_cnt F c) - nI F.length), .int (-nI 1)] [] I R Q := by
          intro hcond
          by_cases q : a.2 = -nI 1
          · simp (disch := first | omega | assumption) only [s258_0, s258_1, s258_2, s258_5, s258_8, s258_9, s258_10, s258_11, s258_14, s258_15, s258_18, s258_19, s258_20, s258_21, s258_22, s258_23, s258_24, s258_25, s258_29, s258_30, s258_33, s258_36, s258_37, s258_39, s258_40, s258_41, s258_42, s258_45, s258_49, s258_50, s258_53, s258_55, s258_57, s258_59, s258_62, s258_65, s258_66, s258_69, s258_70, s258_71, s258_73, s258_74, s258_75, s258_77, s258_80, s258_82, s258_85, s258_86, s258_87, s258_90, s258_92, s258_95, s258_96, s258_99, s258_101, s258_102, s258_104, s258_107, s258_108, s258_111, s258_114, s258_115, nI_le2, nI_lt2, nI_eq2, nI_lt0, nI_0le, nI_0lt, nI_le0, nI_eq0, nI_clamp, nI_add, bu_nI, bb_0, bb_1, rf_s, rf_n, tl_s, tl_n, am_th_some, if_true, if_false, sI_eq, uI_eq, and_self, true_and, and_true, not_false_eq_true, not_true_eq_false, Nat.reduceEqDiff, Nat.reduceLeDiff, Nat.reduceLT, Nat.reduceAdd, Nat.reduceMul, Nat.reduceSub, Nat.zero_add, q, hsw]
          · have q' := Int32.not_le.mpr (hcond.resolve_left q)
            simp (disch := first | omega | assumption) only [s258_0, s258_1, s258_2, s258_5, s258_8, s258_9, s258_10, s258_11, s258_14, s258_15, s258_18, s258_19, s258_20, s258_21, s258_22, s258_23, s258_24, s258_25, s258_29, s258_30, s258_33, s258_36, s258_37, s258_39, s258_40, s258_41, s258_42, s258_45, s258_49, s258_50, s258_53, s258_55, s258_57, s258_59, s258_62, s258_65, s258_66, s258_69, s258_70, s258_71, s258_73, s258_74, s258_75, s258_77, s258_80, s258_82, s258_85, s258_86, s258_87, s258_90, s258_92, s258_95, s258_96, s258_99, s258_101, s258_102, s258_104, s258_107, s258_108, s258_111, s258_114, s258_115, nI_le2, nI_lt2, nI_eq2, nI_lt0, nI_0le, nI_0lt, nI_le0, nI_eq0, nI_clamp, nI_add, bu_nI, bb_0, bb_1, rf_s, rf_n, tl_s, tl_n, am_th_some, if_true, if_false, sI_eq, uI_eq, and_self, true_and, and_true, not_false_eq_true, not_true_eq_false, Nat.reduceEqDiff, Nat.reduceLeDiff, Nat.reduceLT, Nat.reduceAdd, Nat.reduceMul, Nat.reduceSub, Nat.zero_add, q, hsw, q']
        rcases hi with ⟨hc0, e1⟩ | ⟨e1, j, hj, e2⟩
        · refine ⟨((sp_abs (nI F.length - nI 2 * nI (sp_cnt F c)), nI c), _, _), go.trans (take (Or.inl e1)), Or.inr ⟨?_, c, by omega, rfl⟩⟩
          subst hc0
          rw [fold_s]
          show _ = sp_bs1 F (nI 1000000000, -nI 1) 0
          rw [sp_bs1, if_pos (abs_lt (by omega) (cnt_le F 0))]
        · by_cases q : sp_abs (nI F.length - nI 2 * nI (sp_cnt F c)) < a.1
          · refine ⟨((sp_abs (nI F.length - nI 2 * nI (sp_cnt F c)), nI c), _, _), go.trans (take (Or.inr q)), Or.inr ⟨by rw [fold_s, ← e1, sp_bs1, if_pos q], c, by omega, rfl⟩⟩
          · have q' := Int32.not_lt.mp q
            have hj1 : (nI j = -nI 1) = False := eq_false (m1_ne (by omega))
            refine ⟨(a, .int (nI (2 * sp_cnt F c) - nI F.length), .int (-nI 1)), go.trans ?_, Or.inr ⟨by rw [fold_s, ← e1, sp_bs1, if_neg q], j, by omega, e2⟩⟩
            simp (disch := first | omega | assumption) only [s258_0, s258_1, s258_2, s258_5, s258_8, s258_9, s258_10, s258_11, s258_14, s258_15, s258_18, s258_19, s258_20, s258_21, s258_22, s258_23, s258_24, s258_25, s258_29, s258_30, s258_33, s258_36, s258_37, s258_39, s258_40, s258_41, s258_42, s258_45, s258_49, s258_50, s258_53, s258_55, s258_57, s258_59, s258_62, s258_65, s258_66, s258_69, s258_70, s258_71, s258_73, s258_74, s258_75, s258_77, s258_80, s258_82, s258_85, s258_86, s258_87, s258_90, s258_92, s258_95, s258_96, s258_99, s258_101, s258_102, s258_104, s258_107, s258_108, s258_111, s258_114, s258_115, nI_le2, nI_lt2, nI_eq2, nI_lt0, nI_0le, nI_0lt, nI_le0, nI_eq0, nI_clamp, nI_add, bu_nI, bb_0, bb_1, rf_s, rf_n, tl_s, tl_n, am_th_some, if_true, if_false, sI_eq, uI_eq, and_self, true_and, and_true, not_false_eq_true, not_true_eq_false, Nat.reduceEqDiff, Nat.reduceLeDiff, Nat.reduceLT, Nat.reduceAdd, Nat.reduceMul, Nat.reduceSub, Nat.zero_add, e2, hj1, hsw, q']
      · intro ⟨a, l5, l6⟩ hi
        have hi : (n = 0 ∧ a.2 = -nI 1) ∨ (a = am_fold (sp_bs1 F) (nI 1000000000, -nI 1) n ∧ ∃ j, j < n ∧ a.2 = nI j) := hi
        have e : a.2 = sp_best F n := by
          rcases hi with ⟨e1, -⟩ | ⟨e1, -⟩
          · omega
          · rw [sp_best, if_neg hF, ← e1]
        rw [s258_27]
        simp (disch := first | omega | assumption) only [s258_0, s258_1, s258_2, s258_5, s258_8, s258_9, s258_10, s258_11, s258_14, s258_15, s258_18, s258_19, s258_20, s258_21, s258_22, s258_23, s258_24, s258_25, s258_29, s258_30, s258_33, s258_36, s258_37, s258_39, s258_40, s258_41, s258_42, s258_45, s258_49, s258_50, s258_53, s258_55, s258_57, s258_59, s258_62, s258_65, s258_66, s258_69, s258_70, s258_71, s258_73, s258_74, s258_75, s258_77, s258_80, s258_82, s258_85, s258_86, s258_87, s258_90, s258_92, s258_95, s258_96, s258_99, s258_101, s258_102, s258_104, s258_107, s258_108, s258_111, s258_114, s258_115, nI_le2, nI_lt2, nI_eq2, nI_lt0, nI_0le, nI_0lt, nI_le0, nI_eq0, nI_clamp, nI_add, bu_nI, bb_0, bb_1, rf_s, rf_n, tl_s, tl_n, am_th_some, if_true, if_false, sI_eq, uI_eq, and_self, true_and, and_true, not_false_eq_true, not_true_eq_false, Nat.reduceEqDiff, Nat.reduceLeDiff, Nat.reduceLT, Nat.reduceAdd, Nat.reduceMul, Nat.reduceSub, Nat.zero_add, hc4, Nat.le_refl, e]
    rw [s258]
    rw [hel0] at hn0'
    simp (disch := first | omega | assumption) only [s258_0, s258_1, s258_2, s258_5, s258_8, s258_9, s258_10, s258_11, s258_14, s258_15, s258_18, s258_19, s258_20, s258_21, s258_22, s258_23, s258_24, s258_25, s258_29, s258_30, s258_33, s258_36, s258_37, s258_39, s258_40, s258_41, s258_42, s258_45, s258_49, s258_50, s258_53, s258_55, s258_57, s258_59, s258_62, s258_65, s258_66, s258_69, s258_70, s258_71, s258_73, s258_74, s258_75, s258_77, s258_80, s258_82, s258_85, s258_86, s258_87, s258_90, s258_92, s258_95, s258_96, s258_99, s258_101, s258_102, s258_104, s258_107, s258_108, s258_111, s258_114, s258_115, nI_le2, nI_lt2, nI_eq2, nI_lt0, nI_0le, nI_0lt, nI_le0, nI_eq0, nI_clamp, nI_add, bu_nI, bb_0, bb_1, rf_s, rf_n, tl_s, tl_n, am_th_some, if_true, if_false, sI_eq, uI_eq, and_self, true_and, and_true, not_false_eq_true, not_true_eq_false, Nat.reduceEqDiff, Nat.reduceLeDiff, Nat.reduceLT, Nat.reduceAdd, Nat.reduceMul, Nat.reduceSub, Nat.zero_add, hw, hn0', hs0n]
    exact loop _ _
end
