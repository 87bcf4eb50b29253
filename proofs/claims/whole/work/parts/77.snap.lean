/-! The model's pictures of the plate and its LOG. -/
theorem bdc_100 : am_bdc (nI 0) (nI 100) 100 := by unfold am_bdc; decide
theorem cpy_100 {f g : Nat → Int32} {c : Nat} (h : c < 100) : va_cpy f g 0 0 100 c = f c := by
  unfold va_cpy
  rw [if_pos (by omega)]
  congr 1
  omega
/-- a picture in array a from off on -/
def sn_at (I : am_I) (a off : Nat) (P : Nat → Nat → Int32) (t : Nat) (E : Nat → Nat → Int32) : Prop := (∀ c, c < 25 → I a 0 (off + c) = P 0 c ∧ I a 0 (off + (25 + c)) = P 1 c ∧ I a 0 (off + (50 + c)) = P 2 c ∧ I a 0 (off + (75 + c)) = P 3 c) ∧ I a 0 (off + 101) = P 4 1 ∧ I a 0 (off + 100) = P 4 2 ∧ I a 0 (off + 102) = nI (min t 60) ∧ ∀ j w, j < min t 60 → w < 3 → I a 0 (off + (103 + 3 * j + w)) = E (t - min t 60 + 1 + j) w
theorem sn_cp {I J : am_I} {a b off off' t : Nat} {P : Nat → Nat → Int32} {E : Nat → Nat → Int32} (h : sn_at I a off P t E) (e : ∀ i, i < 283 → J b 0 (off' + i) = I a 0 (off + i)) : sn_at J b off' P t E := by
  obtain ⟨h1, h2, h3, h4, h5⟩ := h
  refine ⟨fun c hc => ?_, (e 101 (by decide)).trans h2, (e 100 (by decide)).trans h3, (e 102 (by decide)).trans h4, fun j w hj hw => (e _ (by omega)).trans (h5 j w hj hw)⟩
  obtain ⟨a0, a1, a2, a3⟩ := h1 c hc
  exact ⟨(e _ (by omega)).trans a0, (e _ (by omega)).trans a1, (e _ (by omega)).trans a2, (e _ (by omega)).trans a3⟩
theorem sn_E {I : am_I} {a off t : Nat} {P : Nat → Nat → Int32} {E E' : Nat → Nat → Int32} (h : sn_at I a off P t E) (e : ∀ x w, x ≤ t → E' x w = E x w) : sn_at I a off P t E' := by
  obtain ⟨h1, h2, h3, h4, h5⟩ := h
  exact ⟨h1, h2, h3, h4, fun j w hj hw => (h5 j w hj hw).trans (e _ w (by omega)).symm⟩
theorem sn_mm {I : am_I} {t : Nat} {P : Nat → Nat → Int32} {E : Nat → Nat → Int32} (h : sn_at I 60 0 P t E) (hc : I 12 0 30 = P 4 0) : mm_at I P := by
  obtain ⟨h1, h2, h3, h4, h5⟩ := h
  refine ⟨fun c hc => ?_, hc, by rw [← h2, Nat.zero_add], by rw [← h3, Nat.zero_add]⟩
  obtain ⟨a0, a1, a2, a3⟩ := h1 c hc
  rw [Nat.zero_add] at a0 a1 a2 a3
  exact ⟨a0, a1, a2, a3⟩
/-- the plate changed, the LOG not -/
theorem sn_of {I J : am_I} {t : Nat} {P P' : Nat → Nat → Int32} {E : Nat → Nat → Int32} (h : sn_at I 60 0 P t E) (hm : mm_at J P') (e : ∀ j, 102 ≤ j → j < 283 → J 60 0 j = I 60 0 j) : sn_at J 60 0 P' t E := by
  obtain ⟨h1, h2, h3, h4, h5⟩ := h
  obtain ⟨m1, m2, m3, m4⟩ := hm
  refine ⟨fun c hc => ?_, by rw [Nat.zero_add]; exact m3, by rw [Nat.zero_add]; exact m4, by rw [Nat.zero_add, e _ (by omega) (by omega), ← h4, Nat.zero_add], fun j w hj hw => ?_⟩
  · rw [Nat.zero_add, Nat.zero_add, Nat.zero_add, Nat.zero_add]; exact m1 c hc
  · have := h5 j w hj hw
    rw [Nat.zero_add] at this ⊢
    rw [e _ (by omega) (by omega)]; exact this
/-- one behind the other -/
def kp_S : Nat → Nat → Nat → Prop := fun a _ j => a = 63 ∨ (a = 12 ∧ j = 37)
section
variable {d n b m v lo t f k : Nat} {I : am_I} {R : am_R} {Q : am_Q} {P : Nat → Nat → Int32} {E : Nat → Nat → Int32}
theorem c_lbecome {v' : Nat} (hr : lo_R R v) (hr' : lo_R R v') (hne : ¬ v' = v) : ∃ J, am_cal d 47 [.ref (am_mk 5 v), .ref (am_mk 5 v')] I R Q = some (none, J, R, Q) ∧ am_fr (lo_S v) I J ∧ ∀ w i, w < 3 → i < 100 → J (35 + w) v i = I (35 + w) v' i := by
  obtain ⟨p0, p1, p2⟩ := hr
  obtain ⟨q0, q1, q2⟩ := hr'
  have h := s47 (d := d) (a0 := am_mk 5 v) (a1 := am_mk 5 v') (I := I) (R := R) (Q := Q)
  have hbd := bdc_100
  have n0 : am_ne 35 v' 35 v := fun w => hne w.2
  have n1 : am_ne 36 v' 36 v := fun w => hne w.2
  have n2 : am_ne 37 v' 37 v := fun w => hne w.2
  simp (disch := first | omega | assumption) only [s47_0, s47_1, s47_4, s47_5, s47_6, s47_9, s47_10, s47_12, s47_15, s47_16, s47_19, s47_20, s47_21, s47_24, s47_25, s47_27, s47_30, s47_31, s47_34, s47_35, s47_36, s47_39, s47_40, s47_42, s47_45, nI_le2, nI_lt2, nI_eq2, nI_lt0, nI_0le, nI_0lt, nI_le0, nI_eq0, nI_clamp, nI_add, bu_nI, bb_0, bb_1, rf_s, rf_n, tl_s, tl_n, am_th_some, if_true, if_false, sI_eq, uI_eq, and_self, true_and, and_true, not_false_eq_true, not_true_eq_false, Nat.reduceEqDiff, Nat.reduceLeDiff, Nat.reduceLT, Nat.reduceAdd, Nat.reduceMul, Nat.reduceSub, Nat.zero_add, q0, q1, q2, p0, p1, p2, sI_na, sI_nb] at h
  refine ⟨_, h, ?_, fun w i hw hi => ?_⟩
  · repeat refine fr_f ?_ (fun _ => ⟨by omega, rfl⟩)
    exact fr_rf
  · rcases (show w = 0 ∨ w = 1 ∨ w = 2 by omega) with rfl | rfl | rfl <;> simp (disch := first | decide | omega | assumption) only [sI_eq, sI_na, sI_nb, cpy_100]
theorem m_image (hr : mm_R R) (hn : I 12 0 30 = nI n) (hn0 : 1 ≤ n) (hn2 : n ≤ 25) : ∃ J, am_cal (d + 1) 277 [.ref (am_mk 12 0)] I R Q = some (some (.int (I 60 0 101)), J, R, Q) ∧ am_fr (fun a _ j => a = 71 ∨ (a = 12 ∧ j = 52)) I J ∧ J 12 0 52 = nI 1 ∧ ∀ i, i < 283 → J 71 0 i = I 60 0 i := by
  have hl : ¬ I 12 0 30 ≤ 0 := by rw [hn, nI_le0 (by omega)]; omega
  have loop : ∃ J, am_ev (d + 1) 277 11 [.ref (am_mk 12 0), .int (nI 0)] [] I R Q = am_ev (d + 1) 277 36 [.ref (am_mk 12 0), .int (nI 283)] [] J R Q ∧ am_fr (fun a _ _ => a = 71) I J ∧ ∀ i, i < 283 → J 71 0 i = I 60 0 i := by
    refine loop_inv (f := fun J c => am_ev (d + 1) 277 11 [.ref (am_mk 12 0), .int (nI c)] [] J R Q) (Inv := fun c J => am_fr (fun a _ _ => a = 71) I J ∧ ∀ i, i < c → J 71 0 i = I 60 0 i) (Post := fun y => ∃ J, y = am_ev (d + 1) 277 36 [.ref (am_mk 12 0), .int (nI 283)] [] J R Q ∧ am_fr (fun a _ _ => a = 71) I J ∧ ∀ i, i < 283 → J 71 0 i = I 60 0 i) (n := 283) ?_ ?_ (Nat.zero_le _) ⟨fr_rf, fun i hi => absurd hi (Nat.not_lt_zero _)⟩
    · intro c J hc ⟨f1, f2⟩
      left
      have h1 : ¬ 283 ≤ c := by omega
      refine ⟨am_sI J 71 0 (am_uI (J 71 0) c (I 60 0 c)), ?_, fr_s f1 rfl, fun j hj => ?_⟩
      · have e := f1 60 0 c (by omega)
        rw [s277_11]
        simp (disch := first | omega | assumption) only [s277_0, s277_1, s277_4, s277_7, s277_8, s277_9, s277_10, s277_12, s277_15, s277_18, s277_19, s277_22, s277_23, s277_24, s277_27, s277_28, s277_29, s277_30, s277_33, s277_37, s277_38, s277_41, s277_42, s277_45, s277_47, s277_48, nI_le2, nI_lt2, nI_eq2, nI_lt0, nI_0le, nI_0lt, nI_le0, nI_eq0, nI_clamp, nI_add, bu_nI, bb_0, bb_1, rf_s, rf_n, tl_s, tl_n, am_th_some, if_true, if_false, sI_eq, uI_eq, and_self, true_and, and_true, not_false_eq_true, not_true_eq_false, Nat.reduceEqDiff, Nat.reduceLeDiff, Nat.reduceLT, Nat.reduceAdd, Nat.reduceMul, Nat.reduceSub, Nat.zero_add, mr31 hr, mr51 hr, h1, e]
      · rw [sI_eq]
        by_cases e : j = c
        · rw [e, uI_eq]
        · rw [uI_ne e, f2 j (by omega)]
    · intro J ⟨f1, f2⟩
      refine ⟨J, ?_, f1, f2⟩
      rw [s277_11]
      simp (disch := first | omega | assumption) only [s277_0, s277_1, s277_4, s277_7, s277_8, s277_9, s277_10, s277_12, s277_15, s277_18, s277_19, s277_22, s277_23, s277_24, s277_27, s277_28, s277_29, s277_30, s277_33, s277_37, s277_38, s277_41, s277_42, s277_45, s277_47, s277_48, nI_le2, nI_lt2, nI_eq2, nI_lt0, nI_0le, nI_0lt, nI_le0, nI_eq0, nI_clamp, nI_add, bu_nI, bb_0, bb_1, rf_s, rf_n, tl_s, tl_n, am_th_some, if_true, if_false, sI_eq, uI_eq, and_self, true_and, and_true, not_false_eq_true, not_true_eq_false, Nat.reduceEqDiff, Nat.reduceLeDiff, Nat.reduceLT, Nat.reduceAdd, Nat.reduceMul, Nat.reduceSub, Nat.zero_add]
  obtain ⟨J, g1, g2, g3⟩ := loop
  refine ⟨am_sI J 12 0 (am_uI (J 12 0) 52 (nI 1)), ?_, fr_s (fr_mo g2 fun a b j w => Or.inl w) (Or.inr ⟨rfl, rfl⟩), by rw [sI_eq, uI_eq], fun i hi => by rw [sI_na (by omega)]; exact g3 i hi⟩
  have e := g2 60 0 101 (by omega)
  rw [s277]
  simp (disch := first | omega | assumption) only [s277_0, s277_1, s277_4, s277_7, s277_8, s277_9, s277_10, s277_12, s277_15, s277_18, s277_19, s277_22, s277_23, s277_24, s277_27, s277_28, s277_29, s277_30, s277_33, s277_37, s277_38, s277_41, s277_42, s277_45, s277_47, s277_48, nI_le2, nI_lt2, nI_eq2, nI_lt0, nI_0le, nI_0lt, nI_le0, nI_eq0, nI_clamp, nI_add, bu_nI, bb_0, bb_1, rf_s, rf_n, tl_s, tl_n, am_th_some, if_true, if_false, sI_eq, uI_eq, and_self, true_and, and_true, not_false_eq_true, not_true_eq_false, Nat.reduceEqDiff, Nat.reduceLeDiff, Nat.reduceLT, Nat.reduceAdd, Nat.reduceMul, Nat.reduceSub, Nat.zero_add, m_isLunch (d := d), hl]
  rw [g1]
  simp (disch := first | omega | assumption) only [s277_0, s277_1, s277_4, s277_7, s277_8, s277_9, s277_10, s277_12, s277_15, s277_18, s277_19, s277_22, s277_23, s277_24, s277_27, s277_28, s277_29, s277_30, s277_33, s277_36, s277_37, s277_38, s277_41, s277_42, s277_45, s277_47, s277_48, nI_le2, nI_lt2, nI_eq2, nI_lt0, nI_0le, nI_0lt, nI_le0, nI_eq0, nI_clamp, nI_add, bu_nI, bb_0, bb_1, rf_s, rf_n, tl_s, tl_n, am_th_some, if_true, if_false, sI_eq, uI_eq, and_self, true_and, and_true, not_false_eq_true, not_true_eq_false, Nat.reduceEqDiff, Nat.reduceLeDiff, Nat.reduceLT, Nat.reduceAdd, Nat.reduceMul, Nat.reduceSub, Nat.zero_add, mr31 hr, sI_na, e]
theorem m_back (hr : mm_R R) (hi : I 12 0 52 = nI 1) : ∃ J, am_cal d 278 [.ref (am_mk 12 0)] I R Q = some (some (.int (I 71 0 101)), J, R, Q) ∧ am_fr (fun a b j => (a = 60 ∧ b = 0 ∧ j < 283) ∨ (a = 12 ∧ j = 37)) I J ∧ J 12 0 37 = nI 0 ∧ ∀ i, i < 283 → J 60 0 i = I 71 0 i := by
  have loop : ∃ J, am_ev d 278 11 [.ref (am_mk 12 0), .int (nI 0)] [] I R Q = am_ev d 278 36 [.ref (am_mk 12 0), .int (nI 283)] [] J R Q ∧ am_fr (fun a b j => a = 60 ∧ b = 0 ∧ j < 283) I J ∧ ∀ i, i < 283 → J 60 0 i = I 71 0 i := by
    refine loop_inv (f := fun J c => am_ev d 278 11 [.ref (am_mk 12 0), .int (nI c)] [] J R Q) (Inv := fun c J => am_fr (fun a b j => a = 60 ∧ b = 0 ∧ j < 283) I J ∧ ∀ i, i < c → J 60 0 i = I 71 0 i) (Post := fun y => ∃ J, y = am_ev d 278 36 [.ref (am_mk 12 0), .int (nI 283)] [] J R Q ∧ am_fr (fun a b j => a = 60 ∧ b = 0 ∧ j < 283) I J ∧ ∀ i, i < 283 → J 60 0 i = I 71 0 i) (n := 283) ?_ ?_ (Nat.zero_le _) ⟨fr_rf, fun i hi => absurd hi (Nat.not_lt_zero _)⟩
    · intro c J hc ⟨f1, f2⟩
      left
      have h1 : ¬ 283 ≤ c := by omega
      refine ⟨am_sI J 60 0 (am_uI (J 60 0) c (I 71 0 c)), ?_, fr_s f1 ⟨rfl, rfl, hc⟩, fun j hj => ?_⟩
      · have e := f1 71 0 c (by omega)
        rw [s278_11]
        simp (disch := first | omega | assumption) only [s278_0, s278_1, s278_4, s278_7, s278_8, s278_9, s278_10, s278_12, s278_15, s278_18, s278_19, s278_22, s278_23, s278_24, s278_27, s278_28, s278_29, s278_30, s278_33, s278_37, s278_38, s278_41, s278_42, s278_45, s278_47, s278_48, nI_le2, nI_lt2, nI_eq2, nI_lt0, nI_0le, nI_0lt, nI_le0, nI_eq0, nI_clamp, nI_add, bu_nI, bb_0, bb_1, rf_s, rf_n, tl_s, tl_n, am_th_some, if_true, if_false, sI_eq, uI_eq, and_self, true_and, and_true, not_false_eq_true, not_true_eq_false, Nat.reduceEqDiff, Nat.reduceLeDiff, Nat.reduceLT, Nat.reduceAdd, Nat.reduceMul, Nat.reduceSub, Nat.zero_add, mr31 hr, mr51 hr, h1, e]
      · rw [sI_eq]
        by_cases e : j = c
        · rw [e, uI_eq]
        · rw [uI_ne e, f2 j (by omega)]
    · intro J ⟨f1, f2⟩
      refine ⟨J, ?_, f1, f2⟩
      rw [s278_11]
      simp (disch := first | omega | assumption) only [s278_0, s278_1, s278_4, s278_7, s278_8, s278_9, s278_10, s278_12, s278_15, s278_18, s278_19, s278_22, s278_23, s278_24, s278_27, s278_28, s278_29, s278_30, s278_33, s278_37, s278_38, s278_41, s278_42, s278_45, s278_47, s278_48, nI_le2, nI_lt2, nI_eq2, nI_lt0, nI_0le, nI_0lt, nI_le0, nI_eq0, nI_clamp, nI_add, bu_nI, bb_0, bb_1, rf_s, rf_n, tl_s, tl_n, am_th_some, if_true, if_false, sI_eq, uI_eq, and_self, true_and, and_true, not_false_eq_true, not_true_eq_false, Nat.reduceEqDiff, Nat.reduceLeDiff, Nat.reduceLT, Nat.reduceAdd, Nat.reduceMul, Nat.reduceSub, Nat.zero_add]
  obtain ⟨J, g1, g2, g3⟩ := loop
  refine ⟨am_sI J 12 0 (am_uI (J 12 0) 37 (nI 0)), ?_, fr_s (fr_mo g2 fun a b j w => Or.inl w) (Or.inr ⟨rfl, rfl⟩), by rw [sI_eq, uI_eq], fun i hi => by rw [sI_na (by omega)]; exact g3 i hi⟩
  have e := g3 101 (by decide)
  rw [s278]
  simp (disch := first | omega | assumption) only [s278_0, s278_1, s278_4, s278_7, s278_8, s278_9, s278_10, s278_12, s278_15, s278_18, s278_19, s278_22, s278_23, s278_24, s278_27, s278_28, s278_29, s278_30, s278_33, s278_37, s278_38, s278_41, s278_42, s278_45, s278_47, s278_48, nI_le2, nI_lt2, nI_eq2, nI_lt0, nI_0le, nI_0lt, nI_le0, nI_eq0, nI_clamp, nI_add, bu_nI, bb_0, bb_1, rf_s, rf_n, tl_s, tl_n, am_th_some, if_true, if_false, sI_eq, uI_eq, and_self, true_and, and_true, not_false_eq_true, not_true_eq_false, Nat.reduceEqDiff, Nat.reduceLeDiff, Nat.reduceLT, Nat.reduceAdd, Nat.reduceMul, Nat.reduceSub, Nat.zero_add, hi]
  rw [g1]
  simp (disch := first | omega | assumption) only [s278_0, s278_1, s278_4, s278_7, s278_8, s278_9, s278_10, s278_12, s278_15, s278_18, s278_19, s278_22, s278_23, s278_24, s278_27, s278_28, s278_29, s278_30, s278_33, s278_36, s278_37, s278_38, s278_41, s278_42, s278_45, s278_47, s278_48, nI_le2, nI_lt2, nI_eq2, nI_lt0, nI_0le, nI_0lt, nI_le0, nI_eq0, nI_clamp, nI_add, bu_nI, bb_0, bb_1, rf_s, rf_n, tl_s, tl_n, am_th_some, if_true, if_false, sI_eq, uI_eq, and_self, true_and, and_true, not_false_eq_true, not_true_eq_false, Nat.reduceEqDiff, Nat.reduceLeDiff, Nat.reduceLT, Nat.reduceAdd, Nat.reduceMul, Nat.reduceSub, Nat.zero_add, mr31 hr, sI_na, e]
theorem m_undo (hr : mm_R R) (hk : I 12 0 37 = nI (k + 1)) (hk4 : k < 40) : ∃ J, am_cal d 236 [.ref (am_mk 12 0)] I R Q = some (some (.int (nI k)), J, R, Q) ∧ am_fr (fun a b j => (a = 60 ∧ b = 0 ∧ j < 283) ∨ (a = 12 ∧ j = 37)) I J ∧ J 12 0 37 = nI k ∧ ∀ i, i < 283 → J 60 0 i = I 63 0 (283 * k + i) := by
  have e3 : nI (k + 1) - nI 1 = nI k := nI_sub (by omega)
  have h0 : (nI (k + 1) = 0) = False := by rw [nI_eq0 (by omega)]; exact eq_false (by omega)
  have loop : ∃ J, am_ev d 236 21 [.ref (am_mk 12 0), .int (nI 0)] [] (am_sI I 12 0 (am_uI (I 12 0) 37 (nI k))) R Q = some (some (.int (nI k)), J, R, Q) ∧ am_fr (fun a b j => (a = 60 ∧ b = 0 ∧ j < 283) ∨ (a = 12 ∧ j = 37)) I J ∧ J 12 0 37 = nI k ∧ ∀ i, i < 283 → J 60 0 i = I 63 0 (283 * k + i) := by
    refine loop_inv (f := fun J c => am_ev d 236 21 [.ref (am_mk 12 0), .int (nI c)] [] J R Q) (Inv := fun c J => am_fr (fun a b j => (a = 60 ∧ b = 0 ∧ j < 283) ∨ (a = 12 ∧ j = 37)) I J ∧ J 12 0 37 = nI k ∧ ∀ i, i < c → J 60 0 i = I 63 0 (283 * k + i)) (Post := fun y => ∃ J, y = some (some (.int (nI k)), J, R, Q) ∧ am_fr (fun a b j => (a = 60 ∧ b = 0 ∧ j < 283) ∨ (a = 12 ∧ j = 37)) I J ∧ J 12 0 37 = nI k ∧ ∀ i, i < 283 → J 60 0 i = I 63 0 (283 * k + i)) (n := 283) ?_ ?_ (Nat.zero_le _) ⟨fr_s fr_rf (Or.inr ⟨rfl, rfl⟩), by rw [sI_eq, uI_eq], fun i hi => absurd hi (Nat.not_lt_zero _)⟩
    · intro c J hc ⟨f1, f3, f2⟩
      left
      have h1 : ¬ 283 ≤ c := by omega
      have h2 : 283 * k + c < 11320 := by omega
      refine ⟨am_sI J 60 0 (am_uI (J 60 0) c (I 63 0 (283 * k + c))), ?_, fr_s f1 (Or.inl ⟨rfl, rfl, hc⟩), by rw [sI_na (by omega)]; exact f3, fun j hj => ?_⟩
      · have e := f1 63 0 (283 * k + c) (by omega)
        rw [s236_21]
        simp (disch := first | omega | assumption) only [s236_0, s236_1, s236_4, s236_7, s236_8, s236_9, s236_10, s236_11, s236_14, s236_15, s236_16, s236_19, s236_20, s236_22, s236_25, s236_28, s236_29, s236_32, s236_33, s236_34, s236_37, s236_40, s236_41, s236_44, s236_45, s236_46, s236_47, s236_48, s236_49, s236_52, s236_55, s236_56, s236_59, nI_le2, nI_lt2, nI_eq2, nI_lt0, nI_0le, nI_0lt, nI_le0, nI_eq0, nI_clamp, nI_add, bu_nI, bb_0, bb_1, rf_s, rf_n, tl_s, tl_n, am_th_some, if_true, if_false, sI_eq, uI_eq, and_self, true_and, and_true, not_false_eq_true, not_true_eq_false, Nat.reduceEqDiff, Nat.reduceLeDiff, Nat.reduceLT, Nat.reduceAdd, Nat.reduceMul, Nat.reduceSub, Nat.zero_add, mr31 hr, mr36 hr, h1, h2, f3, nI_mul, nI_add, e]
      · rw [sI_eq]
        by_cases e : j = c
        · rw [e, uI_eq]
        · rw [uI_ne e, f2 j (by omega)]
    · intro J ⟨f1, f3, f2⟩
      refine ⟨J, ?_, f1, f3, f2⟩
      rw [s236_21]
      simp (disch := first | omega | assumption) only [s236_0, s236_1, s236_4, s236_7, s236_8, s236_9, s236_10, s236_11, s236_14, s236_15, s236_16, s236_19, s236_20, s236_22, s236_25, s236_28, s236_29, s236_32, s236_33, s236_34, s236_37, s236_40, s236_41, s236_44, s236_45, s236_46, s236_47, s236_48, s236_49, s236_52, s236_55, s236_56, s236_59, nI_le2, nI_lt2, nI_eq2, nI_lt0, nI_0le, nI_0lt, nI_le0, nI_eq0, nI_clamp, nI_add, bu_nI, bb_0, bb_1, rf_s, rf_n, tl_s, tl_n, am_th_some, if_true, if_false, sI_eq, uI_eq, and_self, true_and, and_true, not_false_eq_true, not_true_eq_false, Nat.reduceEqDiff, Nat.reduceLeDiff, Nat.reduceLT, Nat.reduceAdd, Nat.reduceMul, Nat.reduceSub, Nat.zero_add, f3]
  obtain ⟨J, g1, g2⟩ := loop
  refine ⟨J, ?_, g2⟩
  rw [s236]
  simp (disch := first | omega | assumption) only [s236_0, s236_1, s236_4, s236_7, s236_8, s236_9, s236_10, s236_11, s236_14, s236_15, s236_16, s236_19, s236_20, s236_22, s236_25, s236_28, s236_29, s236_32, s236_33, s236_34, s236_37, s236_40, s236_41, s236_44, s236_45, s236_46, s236_47, s236_48, s236_49, s236_52, s236_55, s236_56, s236_59, nI_le2, nI_lt2, nI_eq2, nI_lt0, nI_0le, nI_0lt, nI_le0, nI_eq0, nI_clamp, nI_add, bu_nI, bb_0, bb_1, rf_s, rf_n, tl_s, tl_n, am_th_some, if_true, if_false, sI_eq, uI_eq, and_self, true_and, and_true, not_false_eq_true, not_true_eq_false, Nat.reduceEqDiff, Nat.reduceLeDiff, Nat.reduceLT, Nat.reduceAdd, Nat.reduceMul, Nat.reduceSub, Nat.zero_add, hk, h0, e3]
  exact g1
end
