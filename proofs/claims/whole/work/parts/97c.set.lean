/-! What was told of FOOD: is there FOOD in it? The model. -/
section
variable {d n f : Nat} {I : am_I} {R : am_R} {Q : am_Q} {P : Nat → Nat → Int32} {C : Nat → Nat} {x : Int32}
theorem md_food (hD : md_at I f n C P) (hpos : ∀ j, j < f → C j < n ∧ ¬ P 0 (C j) ≤ 0) (hn2 : n ≤ 25) : pp_f P x ↔ ∃ j, j < f ∧ nI (C j) = x := by
  obtain ⟨b1, b2, b3, b4, b5, b6, b7, b8, b9, b10⟩ := hD
  constructor
  · intro h
    obtain ⟨k, hk, rfl, hf⟩ := pp_f_of b8 hn2 h
    refine Classical.byContradiction fun hno => ?_
    have := (b6 k (by omega) (fun j hj e => hno ⟨j, hj, by rw [e]⟩)).1
    rw [this] at hf
    exact hf (by decide)
  · intro ⟨j, hj, e⟩
    rw [← e]
    exact (pp_f_k b8 hn2 (by have := (hpos j hj).1; omega)).mpr (hpos j hj)
theorem m_toldFood (hr : mm_R R) (hD : md_at I f n C P) (hpos : ∀ j, j < f → C j < n ∧ ¬ P 0 (C j) ≤ 0) (hn2 : n ≤ 25) : am_cal d 267 [.ref (am_mk 12 0), .int x] I R Q = some (some (.int (if pp_f P x then nI 1 else nI 0)), I, R, Q) := by
  have hiff := md_food (x := x) hD hpos hn2
  obtain ⟨b1, b2, b3, b4, b5, b6, b7, b8, b9, b10⟩ := hD
  rw [s267]
  simp (disch := first | omega | assumption) only [s267_0, s267_1, s267_3, s267_4, s267_7, s267_10, s267_11, s267_14, s267_15, s267_16, s267_17, s267_18, s267_19, s267_22, s267_23, s267_24, s267_27, s267_30, s267_31, nI_le2, nI_lt2, nI_eq2, nI_lt0, nI_0le, nI_0lt, nI_le0, nI_eq0, nI_clamp, nI_add, bu_nI, bb_0, bb_1, rf_s, rf_n, tl_s, tl_n, am_th_some, if_true, if_false, sI_eq, uI_eq, and_self, true_and, and_true, not_false_eq_true, not_true_eq_false, Nat.reduceEqDiff, Nat.reduceLeDiff, Nat.reduceLT, Nat.reduceAdd, Nat.reduceMul, Nat.reduceSub, Nat.zero_add]
  refine loop_inv (f := fun (_ : Unit) c => am_ev d 267 2 [.ref (am_mk 12 0), .int x, .int (nI c)] [] I R Q) (Inv := fun c _ => ∀ j, j < c → ¬ nI (C j) = x) (Post := fun y => y = some (some (.int (if pp_f P x then nI 1 else nI 0)), I, R, Q)) (n := f) ?_ ?_ (Nat.zero_le _) (a := ()) (fun j hj => absurd hj (Nat.not_lt_zero _))
  · intro c _ hc hi
    have h1 : ¬ f ≤ c := by omega
    have h2 : 4 * c < 48 := by omega
    have e := (b5 c hc).1
    by_cases q : nI (C c) = x
    · right
      have q' := eq_true q
      rw [if_pos (hiff.mpr ⟨c, hc, q⟩), s267_2]
      simp (disch := first | omega | assumption) only [s267_0, s267_1, s267_3, s267_4, s267_7, s267_10, s267_11, s267_14, s267_15, s267_16, s267_17, s267_18, s267_19, s267_22, s267_23, s267_24, s267_27, s267_30, s267_31, nI_le2, nI_lt2, nI_eq2, nI_lt0, nI_0le, nI_0lt, nI_le0, nI_eq0, nI_clamp, nI_add, bu_nI, bb_0, bb_1, rf_s, rf_n, tl_s, tl_n, am_th_some, if_true, if_false, sI_eq, uI_eq, and_self, true_and, and_true, not_false_eq_true, not_true_eq_false, Nat.reduceEqDiff, Nat.reduceLeDiff, Nat.reduceLT, Nat.reduceAdd, Nat.reduceMul, Nat.reduceSub, Nat.zero_add, mr25 hr, b1, h1, h2, nI_mul, e, q']
    · left
      refine ⟨(), ?_, fun j hj => (Nat.lt_succ_iff_lt_or_eq.mp hj).elim (hi j) (fun w => by rw [w]; exact q)⟩
      rw [s267_2]
      simp (disch := first | omega | assumption) only [s267_0, s267_1, s267_3, s267_4, s267_7, s267_10, s267_11, s267_14, s267_15, s267_16, s267_17, s267_18, s267_19, s267_22, s267_23, s267_24, s267_27, s267_30, s267_31, nI_le2, nI_lt2, nI_eq2, nI_lt0, nI_0le, nI_0lt, nI_le0, nI_eq0, nI_clamp, nI_add, bu_nI, bb_0, bb_1, rf_s, rf_n, tl_s, tl_n, am_th_some, if_true, if_false, sI_eq, uI_eq, and_self, true_and, and_true, not_false_eq_true, not_true_eq_false, Nat.reduceEqDiff, Nat.reduceLeDiff, Nat.reduceLT, Nat.reduceAdd, Nat.reduceMul, Nat.reduceSub, Nat.zero_add, mr25 hr, b1, h1, h2, nI_mul, e, q]
  · intro _ hi
    rw [if_neg (fun w => by obtain ⟨j, hj, e⟩ := hiff.mp w; exact hi j hj e), s267_2]
    simp (disch := first | omega | assumption) only [s267_0, s267_1, s267_3, s267_4, s267_7, s267_10, s267_11, s267_14, s267_15, s267_16, s267_17, s267_18, s267_19, s267_22, s267_23, s267_24, s267_27, s267_30, s267_31, nI_le2, nI_lt2, nI_eq2, nI_lt0, nI_0le, nI_0lt, nI_le0, nI_eq0, nI_clamp, nI_add, bu_nI, bb_0, bb_1, rf_s, rf_n, tl_s, tl_n, am_th_some, if_true, if_false, sI_eq, uI_eq, and_self, true_and, and_true, not_false_eq_true, not_true_eq_false, Nat.reduceEqDiff, Nat.reduceLeDiff, Nat.reduceLT, Nat.reduceAdd, Nat.reduceMul, Nat.reduceSub, Nat.zero_add, b1, Nat.le_refl]
end
