/-! STIR, TURN, MOVE, EAT. -/
section
variable {n b k m f lo t q : Nat} {P : Nat → Nat → Int32} {PK : Nat → Nat → Nat → Int32} {tk : Nat → Nat}
theorem hd_nowS (h : hd_ok n b k PK tk) (hP : pt_I n b (tk k) P) (h4 : P 4 1 = nI (tk k)) : hd_ok n b k (sp_nw k PK P) tk := by
  have e : sp_nw k tk (tk k) = tk := funext fun j => by
    by_cases q : j = k
    · simp only [sp_nw, if_pos q]; rw [q]
    · simp only [sp_nw, if_neg q]
  have g := hd_now h hP h4 (fun j hj => by have := h.2.2 j (by omega); rw [hj] at this; exact this)
  rw [e] at g
  exact g
theorem mix_t {j : Nat} : sp_mix P 4 j = P 4 j := by
  rw [sp_mix]
  split
  · rfl
  · rw [if_neg (by decide), if_neg (by decide)]
theorem mix_0 {j : Nat} : sp_mix P 0 j = P 0 j := by
  rw [sp_mix]
  split
  · rfl
  · rw [if_neg (by decide), if_neg (by decide)]
/-- what is stirred is as warm everywhere: the least is the mean -/
theorem mix_lst (hb : 1 ≤ b ∧ b ≤ 99) (h : pt_I n b m P) : sp_least (sp_mix P) = sp_dv (sp_deg (sp_mix P)) (sp_foods (sp_mix P)) := by
  have hx := mix_I hb h
  obtain ⟨k, S, T, U, e0, e1, e2, -, k1, k25, -, qT, -, -, -, -, d1, d2, -⟩ := means_nat hb h
  obtain ⟨k', S', T', U', e0', e1', e2', -, k1', k25', -, qT', -, -, -, -, d1', d2', -⟩ := means_nat hb hx
  have hdeg : ∀ c, ¬ P 0 c ≤ 0 → sp_mix P 2 c = nI (T / k) := fun c hc => by rw [sp_mix, if_neg hc, if_neg (by decide), if_pos rfl, d2]
  have hdz : ∀ c, c < 25 → P 0 c ≤ 0 → sp_mix P 2 c = nI 0 := fun c hc hz => by rw [sp_mix, if_pos hz]; exact (ce_no (h.2.2.2.1 c hc) hz).2.2.1
  have key : ∀ N, N ≤ 25 → ∃ F, am_fold (sp_fd (sp_mix P 0)) (nI 0) N = nI F ∧ am_fold (fun a c => a + sp_mix P 2 c) (nI 0) N = nI (F * (T / k)) ∧ am_fold (fun a c => if sp_mix P 0 c ≤ 0 then a else if sp_mix P 2 c < a then sp_mix P 2 c else a) (nI 1000000000) N = (if F = 0 then nI 1000000000 else nI (T / k)) ∧ F ≤ N := by
    intro N
    induction N with
    | zero => exact fun _ => ⟨0, rfl, by rw [Nat.zero_mul]; rfl, rfl, Nat.le_refl _⟩
    | succ N ih =>
      intro hN
      obtain ⟨F, f1, f2, f3, f4⟩ := ih (by omega)
      by_cases q : P 0 N ≤ 0
      · refine ⟨F, ?_, ?_, ?_, by omega⟩
        · rw [fold_s, f1, sp_fd, mix_0, if_pos q, nI_add]; rfl
        · rw [fold_s, f2, hdz N (by omega) q, nI_add]; rfl
        · rw [fold_s, f3, mix_0, if_pos q]
      · refine ⟨F + 1, ?_, ?_, ?_, by omega⟩
        · rw [fold_s, f1, sp_fd, mix_0, if_neg q, nI_add]
        · rw [fold_s, f2, hdeg N q, nI_add, Nat.succ_mul]
        · rw [fold_s, f3, mix_0, if_neg q, hdeg N q, if_neg (Nat.succ_ne_zero F)]
          by_cases z : F = 0
          · rw [if_pos z, if_pos (by rw [nI_lt2 (by omega) (by decide)]; omega)]
          · rw [if_neg z, if_neg (Int32.lt_irrefl)]
  obtain ⟨F, f1, f2, f3, f4⟩ := key 25 (Nat.le_refl _)
  have hF : ¬ F = 0 := fun w => by
    have e : sp_foods (sp_mix P) = nI F := f1
    rw [e0', w, nI_eq2 (by omega) (by decide)] at e
    omega
  have g1 : sp_foods (sp_mix P) = nI F := f1
  have g2 : sp_deg (sp_mix P) = nI (F * (T / k)) := f2
  have g3 : sp_least (sp_mix P) = nI (T / k) := by
    have e : sp_least (sp_mix P) = if F = 0 then nI 1000000000 else nI (T / k) := f3
    rw [e, if_neg hF]
  have hs : F * (T / k) ≤ 25 * 99 := Nat.mul_le_mul f4 (by omega)
  rw [g1, g2, g3, sp_dv, if_neg (by rw [nI_eq0 (by omega)]; exact hF), nI_div (by omega) (by omega), Nat.mul_div_cancel_left _ (by omega)]
end
theorem pp12_C {a b j : Nat} (w : pp_S 12 a b j) : hC a b j := by
  left
  unfold pp_S at w
  unfold hc_S
  omega
theorem mmS_M {a b j : Nat} (w : mm_S a b j) : hM a b j := Or.inl w.1
section
variable {s : zSt} {x y z : Int32}
theorem op_stir (hok : rel_ok s) : op1 116 227 [] s := by
  obtain ⟨tp, w, st, rf, o⟩ := s
  cases o with
  | none =>
    refine ⟨-nI 1, (tp, w, st, sp_re rf 0, none), fun d u I R Q h => ?_, fun d I R Q hr h => ?_, hok⟩
    · have C := get_nc h
      have hL := C.lun (Q := Q) (d + 89)
      obtain ⟨J, g1, g2, g3⟩ := c_refuse (d := d + 89) (R := R) (Q := Q) (rF_11 h.1.1).2.2.2.2.2.1 h.2.1.2.2.2.2.2.1 (k := 0) (by decide)
      refine ⟨J, R, u, ?_, fr_mo g2 fun a b j w => by unfold clS; omega, relc_re h hok g2 g3, fun _ _ _ _ => rfl⟩
      rw [s116]
      simp (disch := first | omega | assumption) only [s116_0, s116_1, s116_4, s116_7, s116_8, s116_9, s116_12, s116_13, s116_14, s116_17, s116_18, s116_21, s116_24, s116_25, s116_28, s116_31, s116_32, s116_35, s116_38, nI_le2, nI_lt2, nI_eq2, nI_lt0, nI_0le, nI_0lt, nI_le0, nI_eq0, nI_clamp, nI_add, bu_nI, bb_0, bb_1, rf_s, rf_n, tl_s, tl_n, am_th_some, if_true, if_false, sI_eq, uI_eq, and_self, true_and, and_true, not_false_eq_true, not_true_eq_false, Nat.reduceEqDiff, Nat.reduceLeDiff, Nat.reduceLT, Nat.reduceAdd, Nat.reduceMul, Nat.reduceSub, Nat.zero_add, hL, g1]
    · have C := get_nm h
      have hL := C.lun (R := R) (Q := Q) (d + 89)
      obtain ⟨J, g1, g2, g3⟩ := m_refused (d := d + 89) (Q := Q) hr h.1.2.2.2 (k := 0) (by decide)
      refine ⟨J, Q, ?_, fr_mo g2 fun a b j w => by unfold mdS; omega, relm_re h hok g2 g3, fun _ _ _ _ => rfl⟩
      rw [s227]
      simp (disch := first | omega | assumption) only [s227_0, s227_1, s227_2, s227_5, s227_8, s227_9, s227_12, s227_13, s227_16, s227_19, s227_20, s227_21, s227_22, s227_25, s227_26, s227_29, s227_30, s227_32, s227_35, nI_le2, nI_lt2, nI_eq2, nI_lt0, nI_0le, nI_0lt, nI_le0, nI_eq0, nI_clamp, nI_add, bu_nI, bb_0, bb_1, rf_s, rf_n, tl_s, tl_n, am_th_some, if_true, if_false, sI_eq, uI_eq, and_self, true_and, and_true, not_false_eq_true, not_true_eq_false, Nat.reduceEqDiff, Nat.reduceLeDiff, Nat.reduceLT, Nat.reduceAdd, Nat.reduceMul, Nat.reduceSub, Nat.zero_add, hL, g1]
  | some l =>
    obtain ⟨E, k, PK, tk, EL, im, ⟨k0, N0⟩, k1, N1⟩ := l
    have L := get_l hok
    have hd : hd_ok (zn E) (E.2.1 4) k PK tk := (hok.2.2.2 _ rfl).2.1
    have hdk := hd_keep hd
    have ek : sp_kj k (sp_kk k) = k := kj_k k L.k40
    have hI : pt_I (zn E) (E.2.1 4) (tk k) (sp_mix (PK k)) := mix_I L.b1 L.pt
    have h41 : sp_mix (PK k) 4 1 = nI (tk k) := mix_t.trans L.p1
    have hd2 : hd_ok (zn E) (E.2.1 4) (sp_kk k) (sp_nw (sp_kk k) (fun j => PK (sp_kj k j)) (sp_mix (PK k))) (fun j => tk (sp_kj k j)) := hd_nowS hdk (by show pt_I _ _ (tk (sp_kj k (sp_kk k))) _; rw [ek]; exact hI) (by show _ = nI (tk (sp_kj k (sp_kk k))); rw [ek]; exact h41)
    refine ⟨sp_least (sp_mix (PK k)), (tp, w, st, rf, some (E, sp_kk k, sp_nw (sp_kk k) (fun j => PK (sp_kj k j)) (sp_mix (PK k)), (fun j => tk (sp_kj k j)), EL, im, (k0, N0), (k1, N1))), fun d u I R Q h => ?_, fun d I R Q hr h => ?_, ok_hist hok hd2 (by show tk (sp_kj k (sp_kk k)) ≤ 9999; rw [ek]; exact L.tm)⟩
    · have C := get_c (Q := Q) h hok
      have hL := C.lun L (d + 89)
      obtain ⟨f, lo, h6⟩ := h.2.2.2.1
      obtain ⟨J1, a1, a2, a3⟩ := c_keepH (d := d + 88) (Q := Q) C.pa.2.2.2.2.2.2.2.2.2 hd h6
      have hp1 : pp_at J1 12 (PK k) := by have := a3.2.2.2.2.1; dsimp only at this; rw [ek] at this; exact this
      obtain ⟨J2, b1, b2, b3⟩ := c_mix (d := d + 87) (Q := Q) (C.aa.2.2.2.2.1 12 (by decide)) hp1
      have c1 := c_leastP (d := d + 89) (Q := Q) (C.aa.2.2.2.2.1 12 (by decide)) b3
      replace b1 : am_cal (d + 89) _ _ _ _ _ = _ := b1
      have c3 := c_nowH a3 b2 b3 hdk.1
      have hf : am_fr hC I J2 := fr_tr (fr_mo a2 fun a b j w => hcS_C w) (fr_mo b2 fun a b j w => pp12_C w)
      refine ⟨J2, R, u, ?_, fr_mo hf fun a b j w => hC_cl w, relc_hist h hok hf ⟨_, _, c3⟩, fun _ _ _ _ => rfl⟩
      rw [s116]
      simp (disch := first | omega | assumption) only [s116_0, s116_1, s116_4, s116_7, s116_8, s116_9, s116_12, s116_13, s116_14, s116_17, s116_18, s116_21, s116_24, s116_25, s116_28, s116_31, s116_32, s116_35, s116_38, nI_le2, nI_lt2, nI_eq2, nI_lt0, nI_0le, nI_0lt, nI_le0, nI_eq0, nI_clamp, nI_add, bu_nI, bb_0, bb_1, rf_s, rf_n, tl_s, tl_n, am_th_some, if_true, if_false, sI_eq, uI_eq, and_self, true_and, and_true, not_false_eq_true, not_true_eq_false, Nat.reduceEqDiff, Nat.reduceLeDiff, Nat.reduceLT, Nat.reduceAdd, Nat.reduceMul, Nat.reduceSub, Nat.zero_add, hL, C.pa.2.1, C.pa.2.2.2.1, a1, b1, c1]
    · have C := get_m (Q := Q) hr h hok
      have hL := C.lun L (d + 89)
      obtain ⟨J1, a1, a2, a3⟩ := m_keepH (d := d + 89) (Q := Q) hr L.k40 h.2.2.1
      have hs1 := a3.2.2.2
      dsimp only at hs1
      rw [ek] at hs1
      have hm1 := sn_mm hs1 (a3.1.trans L.pt.1.symm)
      obtain ⟨J2, b1, b2, b3⟩ := m_stirNow (d := d + 84) (Q := Q) L.b1 hr hm1 L.n25 L.pt
      have c1 := m_meanOf2 (d := d + 85) (Q := Q) L.b1 hr b3 L.n25 hI
      rw [← mix_lst L.b1 L.pt] at c1
      replace b1 : am_cal (d + 89) _ _ _ _ _ = _ := b1
      replace c1 : am_cal (d + 89) _ _ _ _ _ = _ := c1
      have nr := m_notRefused (d := d + 89) (I := I) (R := R) (Q := Q)
      have c3 := m_nowH a3 (fr_mo b2 fun a b j w => ⟨Or.inl ⟨w.1, Nat.lt_trans w.2 (by decide)⟩, fun _ => w.2⟩) b3
      have hf : am_fr hM I J2 := fr_tr (fr_mo a2 fun a b j w => hmS_M w) (fr_mo b2 fun a b j w => mmS_M w)
      refine ⟨J2, Q, ?_, fr_mo hf fun a b j w => hM_md w, relm_hist h hok hf c3, fun _ _ _ _ => rfl⟩
      rw [s227]
      simp (disch := first | omega | assumption) only [s227_0, s227_1, s227_2, s227_5, s227_8, s227_9, s227_12, s227_13, s227_16, s227_19, s227_20, s227_21, s227_22, s227_25, s227_26, s227_29, s227_30, s227_32, s227_35, nI_le2, nI_lt2, nI_eq2, nI_lt0, nI_0le, nI_0lt, nI_le0, nI_eq0, nI_clamp, nI_add, bu_nI, bb_0, bb_1, rf_s, rf_n, tl_s, tl_n, am_th_some, if_true, if_false, sI_eq, uI_eq, and_self, true_and, and_true, not_false_eq_true, not_true_eq_false, Nat.reduceEqDiff, Nat.reduceLeDiff, Nat.reduceLT, Nat.reduceAdd, Nat.reduceMul, Nat.reduceSub, Nat.zero_add, hL, nr, a1, b1, c1]
end
