/-! LAWS: what one is worth hangs on six letters; how long it is. -/
theorem rf_cg {f g : Nat → Int32} (h : ∀ j, j < 6 → f j = g j) (S : List Int32) (t : Nat) : zr_f f S t = zr_f g S t := by
  unfold zr_f
  by_cases e : zl_t (t - 10000) < 6
  · rw [h _ e]
  · rw [if_neg e, if_neg e]
theorem run_cg {f g : Nat → Int32} (h : ∀ j, j < 6 → f j = g j) : ∀ (C : List Nat) (S : List Int32), zr_run f C S = zr_run g C S := by
  intro C
  induction C with
  | nil => intro S; rfl
  | cons t C ih => intro S; show zr_run f C (zr_f f S t) = zr_run g C (zr_f g S t); rw [rf_cg h, ih]
theorem val_cg {f g : Nat → Int32} (h : ∀ j, j < 6 → f j = g j) (C : List Nat) : zl_val f C = zl_val g C := by rw [zl_val, zl_val, run_cg h]
theorem V_cg {f g : Nat → Int32} (h : ∀ j, j < 6 → f j = g j) : ∀ K : zl_K, zl_V K f = zl_V K g := by
  intro K
  induction K with
  | nil => rfl
  | cons p K ih =>
    obtain ⟨T, U⟩ := p
    rw [zl_V, zl_V, val_cg h T, val_cg h U, ih]
theorem cls_len : ∀ K : zl_K, zl_ok K → 2 * K.length ≤ (zl_cls K).length ∧ (zk_fl K).length ≤ (zl_cls K).length := by
  intro K
  induction K with
  | nil => intro _; exact ⟨Nat.le_refl _, Nat.le_refl _⟩
  | cons p K ih =>
    obtain ⟨T, U⟩ := p
    intro hok
    obtain ⟨i1, i2⟩ := ih fun p hp => hok p (List.mem_cons_of_mem _ hp)
    have hU := zh_ne (hok (T, U) List.mem_cons_self).2 (by decide)
    have hU0 : 0 < U.length := List.length_pos_iff.mpr hU
    have e1 : (zl_cls ((T, U) :: K)).length = (zl_cl T U).length + (zl_cls K).length := by rw [cls_cons, List.length_append]
    have e2 : (zk_fl ((T, U) :: K)).length = T.length + U.length + (zk_fl K).length := by simp [zk_fl]; omega
    have e3 : T.length + U.length + 1 ≤ (zl_cl T U).length := by
      unfold zl_cl
      by_cases e : T = []
      · rw [if_pos e, e]; simp
      · rw [if_neg e]; simp; omega
    rw [e1, e2, List.length_cons]
    omega
theorem okf_of {f : Nat → Int32} (h : ∀ j, j < 6 → ∃ k, k ≤ 1000 ∧ f j = nI k) : zf_ok f := fun j hj => by
  obtain ⟨k, hk, e⟩ := h j hj
  have : (nI k).toInt = k := nI_toInt (by omega)
  rw [e]
  exact ⟨by omega, fun w => by cases w⟩
/-- a LAW of the class becomes another -/
theorem bdc_240 : am_bdc (nI 0) (nI 240) 240 := by unfold am_bdc; decide
theorem cpy_240 {f g : Nat → Int32} {c : Nat} (h : c < 240) : va_cpy f g 0 0 240 c = f c := by
  unfold va_cpy
  rw [if_pos (by omega)]
  congr 1
  omega
theorem c_lawbecome {d v u : Nat} {I : am_I} {R : am_R} {Q : am_Q} {C : List Int32} (hv : lw_R R v) (hu : lw_R R u) (hne : ¬ u = v) (hl : lw_at I u C) (hC : C.length ≤ 240) : ∃ J, am_cal d 29 [.ref (am_mk 3 v), .ref (am_mk 3 u)] I R Q = some (none, J, R, Q) ∧ am_fr (la_S v) I J ∧ lw_at J v C := by
  obtain ⟨p0, p2⟩ := hv
  obtain ⟨q0, q2⟩ := hu
  have h := s29 (d := d) (a0 := am_mk 3 v) (a1 := am_mk 3 u) (I := I) (R := R) (Q := Q)
  have hbd := bdc_240
  have n0 : am_ne 27 u 27 v := fun w => hne w.2
  simp (disch := first | omega | assumption) only [s29_0, s29_1, s29_4, s29_5, s29_6, s29_9, s29_10, s29_13, s29_16, s29_17, s29_18, s29_21, s29_24, nI_le2, nI_lt2, nI_eq2, nI_lt0, nI_0le, nI_0lt, nI_le0, nI_eq0, nI_clamp, nI_add, bu_nI, bb_0, bb_1, rf_s, rf_n, tl_s, tl_n, am_th_some, if_true, if_false, sI_eq, uI_eq, and_self, true_and, and_true, not_false_eq_true, not_true_eq_false, Nat.reduceEqDiff, Nat.reduceLeDiff, Nat.reduceLT, Nat.reduceAdd, Nat.reduceMul, Nat.reduceSub, Nat.zero_add, q0, p0, sI_na, sI_nb] at h
  refine ⟨_, h, ?_, ?_, fun i hi => ?_⟩
  · refine fr_h (fr_f fr_rf fun _ => Or.inl ⟨rfl, rfl⟩) (Or.inr ⟨rfl, rfl, rfl⟩)
  · rw [sI_eq, uI_eq]; exact hl.1
  · rw [sI_na (by decide), sI_eq, cpy_240 (by omega)]
    exact hl.2 i hi
