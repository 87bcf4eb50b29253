/-! IMAGE, BACK: the history on either side. -/
/-- the picture kept -/
def ic_at (I : am_I) (P : Nat → Nat → Int32) (t lo : Nat) (E : Nat → Nat → Int32) : Prop := pp_at I 53 P ∧ lo_at I 1 lo t E ∧ lo ≤ t - 60
def ic_S : Nat → Nat → Nat → Prop := fun a b j => ((a = 9 ∨ a = 19 ∨ a = 20 ∨ a = 21 ∨ a = 22) ∧ b = 53) ∨ ((a = 35 ∨ a = 36 ∨ a = 37) ∧ b = 1) ∨ (a = 11 ∧ j = 15)
section
variable {d n b k f lo t : Nat} {I : am_I} {R : am_R} {Q : am_Q} {P : Nat → Nat → Int32} {E : Nat → Nat → Int32} {PK : Nat → Nat → Nat → Int32} {tk : Nat → Nat}
theorem hd_one (hI : pt_I n b t P) (h4 : P 4 1 = nI t) : hd_ok n b 0 (fun _ => P) (fun _ => t) := ⟨by decide, fun _ _ => ⟨hI, h4⟩, fun j hj => absurd hj (Nat.not_lt_zero _)⟩
theorem c_image (hr : pa_R R) (hd : hd_ok n b k PK tk) (hn2 : n ≤ 25) (hn1 : 1 ≤ n) (h : hc_at I k PK tk f lo E) : ∃ J, am_cal (d + 1) 129 [.ref (am_mk 11 0)] I R Q = some (some (.int (nI (tk k))), J, R, Q) ∧ am_fr ic_S I J ∧ ic_at J (PK k) (tk k) lo E ∧ J 11 0 15 = nI 1 := by
  obtain ⟨h1, h2, h3, h4, h5, h6, h7⟩ := h
  obtain ⟨r8, r10, r12, r11, r13, r14, rp, rl, rl1, ra⟩ := hr
  have hI := hd.2.1 k (Nat.le_refl _)
  have hL := c_lunch (d := d) (Q := Q) r10 (h5.2.1.trans hI.1.1) hn2
  rw [if_neg (by omega)] at hL
  obtain ⟨J0, a1, a2, a3⟩ := c_become (d := d) (Q := Q) (rp 12 (by decide)) (rp 53 (by decide)) (by decide) h5 (pt_bb hI.1)
  obtain ⟨J1, b1, b2, b3⟩ := c_lbecome (d := d) (Q := Q) (I := J0) (v := 1) (v' := 0) rl1 rl (by decide)
  have hten : J1 9 12 5 = nI (tk k) := by
    rw [b2 _ _ _ (fun w => by unfold lo_S at w; omega), a2 _ _ _ (fun w => by unfold pp_S at w; omega), h5.2.2.1, hI.2]
  have hm := (hd_mono hd 0 k (Nat.zero_le _) (Nat.le_refl _)).1
  have hbb := bb_1
  refine ⟨am_sI J1 11 0 (am_uI (J1 11 0) 15 (nI 1)), ?_, ?_, ⟨?_, fun x q1 q2 w hw => ?_, by omega⟩, by rw [sI_eq, uI_eq]⟩
  · have hx : am_sI J1 11 0 (am_uI (J1 11 0) 15 (nI 1)) 9 12 5 = nI (tk k) := by rw [sI_na (by omega)]; exact hten
    rw [s129]
    simp (disch := first | omega | assumption) only [s129_0, s129_1, s129_4, s129_7, s129_8, s129_9, s129_10, s129_13, s129_14, s129_17, s129_20, s129_21, s129_24, s129_25, s129_28, s129_31, s129_32, s129_33, s129_36, s129_37, s129_40, s129_43, nI_le2, nI_lt2, nI_eq2, nI_lt0, nI_0le, nI_0lt, nI_le0, nI_eq0, nI_clamp, nI_add, bu_nI, bb_0, bb_1, rf_s, rf_n, tl_s, tl_n, am_th_some, if_true, if_false, sI_eq, uI_eq, and_self, true_and, and_true, not_false_eq_true, not_true_eq_false, Nat.reduceEqDiff, Nat.reduceLeDiff, Nat.reduceLT, Nat.reduceAdd, Nat.reduceMul, Nat.reduceSub, Nat.zero_add, hL, r10, r12, r13, r14, a1, b1, hbb, sI_na, hten]
  · refine fr_s (fr_tr (fr_mo a2 fun a b j w => by unfold pp_S at w; unfold ic_S; omega) (fr_mo b2 fun a b j w => by unfold lo_S at w; unfold ic_S; omega)) (Or.inr (Or.inr ⟨rfl, rfl⟩))
  · exact pl_fr (S := fun a _ _ => a = 11) (pl_fr a3 b2 (fun a j ha w => by unfold lo_S at w; omega)) (fr_f fr_rf fun _ => rfl) (fun a j ha w => by omega)
  · rw [sI_na (by omega), b3 w _ hw (Nat.mod_lt _ (by decide)), a2 _ _ _ (fun v => by unfold pp_S at v; omega)]
    exact h6 x q1 q2 w hw
theorem c_back (hr : pa_R R) (hf : f < 40) (hf0 : I 0 0 1 = nI f) (hi : I 11 0 15 = nI 1) (h : ic_at I P t lo E) (hI : pt_I n b t P) (h41 : P 4 1 = nI t) : ∃ J, am_cal (d + 1) 130 [.ref (am_mk 11 0)] I R Q = some (some (.int (nI t)), J, R, Q) ∧ am_fr hc_S I J ∧ hc_at J 0 (fun _ => P) (fun _ => t) f lo E := by
  obtain ⟨h5, h6, h7⟩ := h
  obtain ⟨r8, r10, r12, r11, r13, r14, rp, rl, rl1, ra⟩ := hr
  obtain ⟨J0, a1, a2, a3⟩ := c_become (d := d) (Q := Q) (rp 53 (by decide)) (rp 12 (by decide)) (by decide) h5 (pt_bb hI)
  obtain ⟨J1, b1, b2, b3⟩ := c_lbecome (d := d) (Q := Q) (I := J0) (v := 0) (v' := 1) rl rl1 (by decide)
  obtain ⟨J2, c1, c2, c3⟩ := c_aforget (d := d) (I := J1) (R := R) (Q := Q)
  have hp2 : pp_at J2 12 P := pl_fr (pl_fr a3 b2 (fun a j ha w => by unfold lo_S at w; omega)) c2 (fun a j ha w => by omega)
  have hten : J2 9 12 5 = nI t := hp2.2.2.1.trans h41
  have hne : ((nI 1 : Int32) = 0) = False := by decide
  refine ⟨J2, ?_, ?_, hf, ?_, c3, fun j hj => absurd hj (Nat.not_lt_zero _), hp2, fun x q1 q2 w hw => ?_, h7⟩
  · rw [s130]
    simp (disch := first | omega | assumption) only [s130_0, s130_1, s130_4, s130_7, s130_8, s130_9, s130_10, s130_13, s130_14, s130_17, s130_20, s130_21, s130_24, s130_25, s130_28, s130_31, s130_32, s130_35, s130_38, s130_39, s130_42, s130_45, nI_le2, nI_lt2, nI_eq2, nI_lt0, nI_0le, nI_0lt, nI_le0, nI_eq0, nI_clamp, nI_add, bu_nI, bb_0, bb_1, rf_s, rf_n, tl_s, tl_n, am_th_some, if_true, if_false, sI_eq, uI_eq, and_self, true_and, and_true, not_false_eq_true, not_true_eq_false, Nat.reduceEqDiff, Nat.reduceLeDiff, Nat.reduceLT, Nat.reduceAdd, Nat.reduceMul, Nat.reduceSub, Nat.zero_add, hi, hne, r10, r11, r12, r13, r14, a1, b1, c1, hten]
  · exact fr_tr (fr_tr (fr_mo a2 fun a b j w => by unfold pp_S at w; unfold hc_S; omega) (fr_mo b2 fun a b j w => by unfold lo_S at w; unfold hc_S; omega)) (fr_mo c2 fun a b j w => by unfold hc_S; omega)
  · rw [c2 _ _ _ (fun w => by omega), b2 _ _ _ (fun w => by unfold lo_S at w; omega), a2 _ _ _ (fun w => by unfold pp_S at w; omega), hf0]
  · rw [c2 _ _ _ (fun v => by omega), b3 w _ hw (Nat.mod_lt _ (by decide)), a2 _ _ _ (fun v => by unfold pp_S at v; omega)]
    exact h6 x q1 q2 w hw
theorem m_imageH (hr : mm_R R) (hn1 : 1 ≤ n) (hn2 : n ≤ 25) (hd : hd_ok n b k PK tk) (h : hm_at I n k PK tk E) : ∃ J, am_cal (d + 1) 277 [.ref (am_mk 12 0)] I R Q = some (some (.int (nI (tk k))), J, R, Q) ∧ am_fr (fun a _ j => a = 71 ∨ (a = 12 ∧ j = 52)) I J ∧ J 12 0 52 = nI 1 ∧ sn_at J 71 0 (PK k) (tk k) E := by
  obtain ⟨h1, h2, h3, h4⟩ := h
  obtain ⟨J, g1, g2, g3, g4⟩ := m_image (d := d) (Q := Q) hr h1 hn1 hn2
  have e : I 60 0 101 = nI (tk k) := by have := h4.2.1; rw [Nat.zero_add] at this; rw [this]; exact (hd.2.1 k (Nat.le_refl _)).2
  rw [e] at g1
  exact ⟨J, g1, g2, g3, sn_cp h4 fun i hi => by rw [Nat.zero_add]; exact g4 i hi⟩
theorem m_backH (hr : mm_R R) (hn : I 12 0 30 = nI n) (hi : I 12 0 52 = nI 1) (h : sn_at I 71 0 P t E) (h41 : P 4 1 = nI t) : ∃ J, am_cal d 278 [.ref (am_mk 12 0)] I R Q = some (some (.int (nI t)), J, R, Q) ∧ am_fr hm_S I J ∧ hm_at J n 0 (fun _ => P) (fun _ => t) E := by
  obtain ⟨J, g1, g2, g3, g4⟩ := m_back (d := d) (R := R) (Q := Q) hr hi
  have e : I 71 0 101 = nI t := by have := h.2.1; rw [Nat.zero_add] at this; rw [this]; exact h41
  rw [e] at g1
  exact ⟨J, g1, fr_mo g2 fun a b j w => by unfold hm_S; omega, (g2 _ _ _ (fun w => by omega)).trans hn, g3, fun j hj => absurd hj (Nat.not_lt_zero _), sn_cp h fun i hi => by rw [Nat.zero_add]; exact g4 i hi⟩
end
