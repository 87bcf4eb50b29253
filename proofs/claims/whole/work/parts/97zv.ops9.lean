/-! UNDO, IMAGE, BACK, TELL, SET. -/
theorem hcS_C {a b j : Nat} (w : hc_S a b j) : hC a b j := Or.inl w
theorem hmS_M {a b j : Nat} (w : hm_S a b j) : hM a b j := by
  unfold hm_S at w
  unfold hM
  omega
theorem hM_md {a b j : Nat} (w : hM a b j) : mdS a b j := by
  unfold hM at w
  unfold mdS
  omega
section
variable {s : zSt} {x y z : Int32}
theorem op_undo (hok : rel_ok s) : op1 126 236 [] s := by
  obtain ⟨tp, w, st, rf, o⟩ := s
  cases o with
  | none =>
    refine op_k (v := -nI 1) hok (fun d u I R Q h => ?_) (fun d I R Q hr h => ?_)
    · have C := get_nc h
      have e : I 0 0 2 = nI 0 := h.2.2.2.2.1
      have r := C.pa.2.2.2.1
      rw [s126]
      simp (disch := first | omega | assumption) only [s126_0, s126_1, s126_4, s126_7, s126_10, s126_11, s126_12, s126_13, s126_16, s126_17, s126_20, s126_23, s126_24, s126_27, s126_30, nI_le2, nI_lt2, nI_eq2, nI_lt0, nI_0le, nI_0lt, nI_le0, nI_eq0, nI_clamp, nI_add, bu_nI, bb_0, bb_1, rf_s, rf_n, tl_s, tl_n, am_th_some, if_true, if_false, sI_eq, uI_eq, and_self, true_and, and_true, not_false_eq_true, not_true_eq_false, Nat.reduceEqDiff, Nat.reduceLeDiff, Nat.reduceLT, Nat.reduceAdd, Nat.reduceMul, Nat.reduceSub, Nat.zero_add, r, e]
    · have e : I 12 0 37 = nI 0 := h.2.2.2.1
      rw [s236]
      simp (disch := first | omega | assumption) only [s236_0, s236_1, s236_4, s236_7, s236_8, s236_9, s236_10, s236_11, s236_14, s236_15, s236_16, s236_19, s236_20, s236_22, s236_25, s236_28, s236_29, s236_32, s236_33, s236_34, s236_37, s236_40, s236_41, s236_44, s236_45, s236_46, s236_47, s236_48, s236_49, s236_52, s236_55, s236_56, s236_59, nI_le2, nI_lt2, nI_eq2, nI_lt0, nI_0le, nI_0lt, nI_le0, nI_eq0, nI_clamp, nI_add, bu_nI, bb_0, bb_1, rf_s, rf_n, tl_s, tl_n, am_th_some, if_true, if_false, sI_eq, uI_eq, and_self, true_and, and_true, not_false_eq_true, not_true_eq_false, Nat.reduceEqDiff, Nat.reduceLeDiff, Nat.reduceLT, Nat.reduceAdd, Nat.reduceMul, Nat.reduceSub, Nat.zero_add, e]
  | some l =>
    obtain ⟨E, k, PK, tk, EL, im, ⟨k0, N0⟩, k1, N1⟩ := l
    have hd : hd_ok (zn E) (E.2.1 4) k PK tk := (hok.2.2.2 _ rfl).2.1
    have h9 : tk k ≤ 9999 := (hok.2.2.2 _ rfl).2.2.1
    cases k with
    | zero =>
      refine op_k (v := -nI 1) hok (fun d u I R Q h => ?_) (fun d I R Q hr h => ?_)
      · have C := get_c (Q := Q) h hok
        obtain ⟨-, -, -, ⟨f, lo, h6⟩, -⟩ := h
        exact c_undoNo (d := d + 90) C.pa h6
      · exact m_undoNo (d := d + 90) h.2.2.1
    | succ k =>
      have hm := hd.2.2 k (by omega)
      refine ⟨nI k, (tp, w, st, rf, some (E, k, PK, tk, EL, im, (k0, N0), (k1, N1))), fun d u I R Q h => ?_, fun d I R Q hr h => ?_, ok_hist hok (hd_undo hd) (by omega)⟩
      · have C := get_c (Q := Q) h hok
        obtain ⟨f, lo, h6⟩ := h.2.2.2.1
        obtain ⟨J, g1, g2, g3⟩ := c_undo (d := d + 88) (Q := Q) C.pa hd h6
        exact ⟨J, R, u, g1, fr_mo g2 fun a b j w => hC_cl (hcS_C w), relc_hist h hok (fr_mo g2 fun a b j w => hcS_C w) ⟨_, lo, g3⟩, fun _ _ _ _ => rfl⟩
      · obtain ⟨J, g1, g2, g3⟩ := m_undoH (d := d + 90) (Q := Q) hr hd h.2.2.1
        exact ⟨J, Q, g1, fr_mo g2 fun a b j w => hM_md (hmS_M w), relm_hist h hok (fr_mo g2 fun a b j w => hmS_M w) g3, fun _ _ _ _ => rfl⟩
theorem op_back (hok : rel_ok s) : op1 130 278 [] s := by
  obtain ⟨tp, w, st, rf, o⟩ := s
  cases o with
  | none =>
    refine op_k (v := -nI 1) hok (fun d u I R Q h => ?_) (fun d I R Q hr h => ?_)
    · have e : I 11 0 15 = nI 0 := h.2.2.2.2.2.1
      rw [s130]
      simp (disch := first | omega | assumption) only [s130_0, s130_1, s130_4, s130_7, s130_8, s130_9, s130_10, s130_13, s130_14, s130_17, s130_20, s130_21, s130_24, s130_25, s130_28, s130_31, s130_32, s130_35, s130_38, s130_39, s130_42, s130_45, nI_le2, nI_lt2, nI_eq2, nI_lt0, nI_0le, nI_0lt, nI_le0, nI_eq0, nI_clamp, nI_add, bu_nI, bb_0, bb_1, rf_s, rf_n, tl_s, tl_n, am_th_some, if_true, if_false, sI_eq, uI_eq, and_self, true_and, and_true, not_false_eq_true, not_true_eq_false, Nat.reduceEqDiff, Nat.reduceLeDiff, Nat.reduceLT, Nat.reduceAdd, Nat.reduceMul, Nat.reduceSub, Nat.zero_add, e]
    · have e : I 12 0 52 = nI 0 := h.2.2.2.2.2.2.2.2
      rw [s278]
      simp (disch := first | omega | assumption) only [s278_0, s278_1, s278_4, s278_7, s278_8, s278_9, s278_10, s278_12, s278_15, s278_18, s278_19, s278_22, s278_23, s278_24, s278_27, s278_28, s278_29, s278_30, s278_33, s278_36, s278_37, s278_38, s278_41, s278_42, s278_45, s278_47, s278_48, nI_le2, nI_lt2, nI_eq2, nI_lt0, nI_0le, nI_0lt, nI_le0, nI_eq0, nI_clamp, nI_add, bu_nI, bb_0, bb_1, rf_s, rf_n, tl_s, tl_n, am_th_some, if_true, if_false, sI_eq, uI_eq, and_self, true_and, and_true, not_false_eq_true, not_true_eq_false, Nat.reduceEqDiff, Nat.reduceLeDiff, Nat.reduceLT, Nat.reduceAdd, Nat.reduceMul, Nat.reduceSub, Nat.zero_add, e]
  | some l =>
    obtain ⟨E, k, PK, tk, EL, im, ⟨k0, N0⟩, k1, N1⟩ := l
    cases im with
    | none =>
      refine op_k (v := -nI 1) hok (fun d u I R Q h => ?_) (fun d I R Q hr h => ?_)
      · have e : I 11 0 15 = nI 0 := h.2.2.2.2.1
        rw [s130]
        simp (disch := first | omega | assumption) only [s130_0, s130_1, s130_4, s130_7, s130_8, s130_9, s130_10, s130_13, s130_14, s130_17, s130_20, s130_21, s130_24, s130_25, s130_28, s130_31, s130_32, s130_35, s130_38, s130_39, s130_42, s130_45, nI_le2, nI_lt2, nI_eq2, nI_lt0, nI_0le, nI_0lt, nI_le0, nI_eq0, nI_clamp, nI_add, bu_nI, bb_0, bb_1, rf_s, rf_n, tl_s, tl_n, am_th_some, if_true, if_false, sI_eq, uI_eq, and_self, true_and, and_true, not_false_eq_true, not_true_eq_false, Nat.reduceEqDiff, Nat.reduceLeDiff, Nat.reduceLT, Nat.reduceAdd, Nat.reduceMul, Nat.reduceSub, Nat.zero_add, e]
      · have e : I 12 0 52 = nI 0 := h.2.2.2.1
        rw [s278]
        simp (disch := first | omega | assumption) only [s278_0, s278_1, s278_4, s278_7, s278_8, s278_9, s278_10, s278_12, s278_15, s278_18, s278_19, s278_22, s278_23, s278_24, s278_27, s278_28, s278_29, s278_30, s278_33, s278_36, s278_37, s278_38, s278_41, s278_42, s278_45, s278_47, s278_48, nI_le2, nI_lt2, nI_eq2, nI_lt0, nI_0le, nI_0lt, nI_le0, nI_eq0, nI_clamp, nI_add, bu_nI, bb_0, bb_1, rf_s, rf_n, tl_s, tl_n, am_th_some, if_true, if_false, sI_eq, uI_eq, and_self, true_and, and_true, not_false_eq_true, not_true_eq_false, Nat.reduceEqDiff, Nat.reduceLeDiff, Nat.reduceLT, Nat.reduceAdd, Nat.reduceMul, Nat.reduceSub, Nat.zero_add, e]
    | some im =>
      obtain ⟨P, t, e⟩ := im
      obtain ⟨b1, b2, b3⟩ := (hok.2.2.2 _ rfl).2.2.2.1 P t e rfl
      refine ⟨nI t, (tp, w, st, rf, some (E, 0, (fun _ => P), (fun _ => t), e, some (P, t, e), (k0, N0), (k1, N1))), fun d u I R Q h => ?_, fun d I R Q hr h => ?_, ok_hist hok (hd_one b1 b2) b3⟩
      · have C := get_c (Q := Q) h hok
        obtain ⟨f, lo, h6⟩ := h.2.2.2.1
        obtain ⟨i1, lo', i2⟩ := h.2.2.2.2.1
        obtain ⟨J, g1, g2, g3⟩ := c_back (d := d + 89) (Q := Q) C.pa h6.1 h6.2.1 i1 i2 b1 b2
        exact ⟨J, R, u, g1, fr_mo g2 fun a b j w => hC_cl (hcS_C w), relc_hist h hok (fr_mo g2 fun a b j w => hcS_C w) ⟨_, _, g3⟩, fun _ _ _ _ => rfl⟩
      · obtain ⟨i1, i2⟩ := h.2.2.2.1
        obtain ⟨J, g1, g2, g3⟩ := m_backH (d := d + 90) (Q := Q) hr h.2.2.1.1 i1 i2 b2
        exact ⟨J, Q, g1, fr_mo g2 fun a b j w => hM_md (hmS_M w), relm_hist h hok (fr_mo g2 fun a b j w => hmS_M w) g3, fun _ _ _ _ => rfl⟩
theorem ic_0 {a b j : Nat} (ha : a = 0 ∨ a = 8 ∨ a = 10 ∨ a = 13 ∨ a = 30 ∨ a = 38 ∨ a = 39 ∨ a = 40 ∨ (a = 11 ∧ ¬ j = 15)) : ¬ ic_S a b j := fun h => by
  unfold ic_S at h
  omega
theorem ic_1 {a b j : Nat} (ha : a = 9 ∨ a = 19 ∨ a = 20 ∨ a = 21 ∨ a = 22) (hb : b ≤ 52) : ¬ ic_S a b j := fun h => by
  unfold ic_S at h
  omega
theorem ic_2 {a j : Nat} (ha : a = 35 ∨ a = 36 ∨ a = 37) : ¬ ic_S a 0 j := fun h => by
  unfold ic_S at h
  omega
theorem op_image (hok : rel_ok s) : op1 129 277 [] s := by
  obtain ⟨tp, w, st, rf, o⟩ := s
  cases o with
  | none =>
    refine op_k (v := -nI 1) hok (fun d u I R Q h => ?_) (fun d I R Q hr h => ?_)
    · have C := get_nc h
      have hL := C.lun (Q := Q) (d + 89)
      rw [s129]
      simp (disch := first | omega | assumption) only [s129_0, s129_1, s129_4, s129_7, s129_8, s129_9, s129_10, s129_13, s129_14, s129_17, s129_20, s129_21, s129_24, s129_25, s129_28, s129_31, s129_32, s129_33, s129_36, s129_37, s129_40, s129_43, nI_le2, nI_lt2, nI_eq2, nI_lt0, nI_0le, nI_0lt, nI_le0, nI_eq0, nI_clamp, nI_add, bu_nI, bb_0, bb_1, rf_s, rf_n, tl_s, tl_n, am_th_some, if_true, if_false, sI_eq, uI_eq, and_self, true_and, and_true, not_false_eq_true, not_true_eq_false, Nat.reduceEqDiff, Nat.reduceLeDiff, Nat.reduceLT, Nat.reduceAdd, Nat.reduceMul, Nat.reduceSub, Nat.zero_add, hL]
    · have C := get_nm h
      have hL := C.lun (R := R) (Q := Q) (d + 89)
      rw [s277]
      simp (disch := first | omega | assumption) only [s277_0, s277_1, s277_4, s277_7, s277_8, s277_9, s277_10, s277_12, s277_15, s277_18, s277_19, s277_22, s277_23, s277_24, s277_27, s277_28, s277_29, s277_30, s277_33, s277_36, s277_37, s277_38, s277_41, s277_42, s277_45, s277_47, s277_48, nI_le2, nI_lt2, nI_eq2, nI_lt0, nI_0le, nI_0lt, nI_le0, nI_eq0, nI_clamp, nI_add, bu_nI, bb_0, bb_1, rf_s, rf_n, tl_s, tl_n, am_th_some, if_true, if_false, sI_eq, uI_eq, and_self, true_and, and_true, not_false_eq_true, not_true_eq_false, Nat.reduceEqDiff, Nat.reduceLeDiff, Nat.reduceLT, Nat.reduceAdd, Nat.reduceMul, Nat.reduceSub, Nat.zero_add, hL]
  | some l =>
    obtain ⟨E, k, PK, tk, EL, im, ⟨k0, N0⟩, k1, N1⟩ := l
    have L := get_l hok
    have hd : hd_ok (zn E) (E.2.1 4) k PK tk := (hok.2.2.2 _ rfl).2.1
    refine ⟨nI (tk k), (tp, w, st, rf, some (E, k, PK, tk, EL, some (PK k, tk k, EL), (k0, N0), (k1, N1))), fun d u I R Q h => ?_, fun d I R Q hr h => ?_, ?_⟩
    · have C := get_c (Q := Q) h hok
      have g := h
      obtain ⟨-, ⟨x1, -, -, -, x5, x6, -⟩, -, ⟨f, lo, h6⟩, -, l8, l9⟩ := g
      obtain ⟨J, g1, g2, g3, g4⟩ := c_image (d := d + 89) (Q := Q) C.pa hd L.n25 L.n1 h6
      refine ⟨J, R, u, g1, fr_mo g2 fun a b j w => by unfold ic_S at w; unfold clS; omega, ?_, fun _ _ _ _ => rfl⟩
      exact relc_up h hok (fr_mo g2 fun a b j w => Or.inr (Or.inr (Or.inl w))) (tc_fr x1 g2 (ic_0 (by omega)) (fun j => ic_0 (by omega))) ((g2 _ _ _ (ic_0 (by omega))).trans x5) (fun i hi => (g2 _ _ _ (ic_0 (by omega))).trans (x6 i hi)) ⟨f, lo, hc_fr L.k40 h6 g2 (ic_0 (by omega)) (ic_0 (by omega)) (fun a b j ha h1 h2 => ic_1 ha h2) (fun a j ha => ic_2 ha)⟩ ⟨g4, lo, g3⟩ (nt_fr l8 g2 (ic_0 (by omega)) (fun a i ha => ic_0 (by omega))) (nt_fr l9 g2 (ic_0 (by omega)) (fun a i ha => ic_0 (by omega)))
    · have g := h
      obtain ⟨⟨x1, -, x3, x4⟩, -, l6, -, l8, l9⟩ := g
      obtain ⟨J, g1, g2, g3, g4⟩ := m_imageH (d := d + 89) (Q := Q) hr L.n1 L.n25 hd l6
      refine ⟨J, Q, g1, fr_mo g2 fun a b j w => by unfold mdS; omega, ?_, fun _ _ _ _ => rfl⟩
      exact relm_up h hok (fr_mo g2 fun a b j w => by unfold uM fM; omega) (tm_fr x1 g2 (by omega) (fun j => by omega)) ((g2 _ _ _ (by omega)).trans x3) (fun i hi => (g2 _ _ _ (by omega)).trans (x4 i hi)) (hm_fr l6 g2 (by omega) (by omega) (fun a j ha => by omega)) ⟨g3, g4⟩ (mn_fr l8 g2 (by omega) (fun a j ha => by omega)) (ms_fr l9 g2 (by omega) (fun a j ha => by omega))
    · obtain ⟨a1, a2, a3, a4⟩ := hok
      refine ⟨a1, a2, a3, fun l hl => ?_⟩
      cases hl
      obtain ⟨b1, b2, b3, b4, b5⟩ := a4 _ rfl
      exact ⟨b1, b2, b3, fun P t e he => by cases he; exact ⟨L.pt, L.p1, L.tm⟩, b5⟩
end
