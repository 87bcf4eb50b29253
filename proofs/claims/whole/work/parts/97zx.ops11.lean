/-! TURN, MOVE. -/
section
variable {s : zSt} {x y z : Int32}
theorem op_turn (hok : rel_ok s) {q : Nat} (hq : q ≤ 1) : op1 117 228 [.int (nI q)] s := by
  have hbq : am_bb (nI q) = True := bb_u hq
  obtain ⟨tp, w, st, rf, o⟩ := s
  cases o with
  | none =>
    refine ⟨nI 0, (tp, w, st, sp_re rf 0, none), fun d u I R Q h => ?_, fun d I R Q hr h => ?_, hok⟩
    · have C := get_nc h
      have hL := C.lun (Q := Q) (d + 89)
      obtain ⟨J, g1, g2, g3⟩ := c_refuse (d := d + 89) (R := R) (Q := Q) (rF_11 h.1.1).2.2.2.2.2.1 h.2.1.2.2.2.2.2.1 (k := 0) (by decide)
      refine ⟨J, R, u, ?_, fr_mo g2 fun a b j w => by unfold clS; omega, relc_re h hok g2 g3, fun _ _ _ _ => rfl⟩
      rw [s117]
      simp (disch := first | omega | assumption) only [s117_0, s117_1, s117_4, s117_7, s117_8, s117_9, s117_12, s117_13, s117_14, s117_15, s117_16, s117_19, s117_22, s117_23, s117_26, s117_27, s117_28, s117_31, s117_32, s117_33, s117_34, s117_35, s117_38, s117_39, s117_42, s117_45, s117_46, s117_49, s117_50, s117_53, s117_54, nI_le2, nI_lt2, nI_eq2, nI_lt0, nI_0le, nI_0lt, nI_le0, nI_eq0, nI_clamp, nI_add, bu_nI, bb_0, bb_1, rf_s, rf_n, tl_s, tl_n, am_th_some, if_true, if_false, sI_eq, uI_eq, and_self, true_and, and_true, not_false_eq_true, not_true_eq_false, Nat.reduceEqDiff, Nat.reduceLeDiff, Nat.reduceLT, Nat.reduceAdd, Nat.reduceMul, Nat.reduceSub, Nat.zero_add, hL, g1]
    · have C := get_nm h
      have hL := C.lun (R := R) (Q := Q) (d + 89)
      obtain ⟨J, g1, g2, g3⟩ := m_refused (d := d + 89) (Q := Q) hr h.1.2.2.2 (k := 0) (by decide)
      refine ⟨J, Q, ?_, fr_mo g2 fun a b j w => by unfold mdS; omega, relm_re h hok g2 g3, fun _ _ _ _ => rfl⟩
      rw [s228]
      simp (disch := first | omega | assumption) only [s228_0, s228_1, s228_2, s228_5, s228_8, s228_9, s228_12, s228_13, s228_16, s228_18, s228_19, s228_20, s228_23, s228_24, s228_27, s228_28, s228_31, s228_32, s228_35, s228_36, s228_39, s228_42, s228_43, s228_44, s228_45, s228_48, s228_49, s228_52, s228_54, s228_55, s228_58, s228_59, s228_62, s228_63, s228_64, s228_65, nI_le2, nI_lt2, nI_eq2, nI_lt0, nI_0le, nI_0lt, nI_le0, nI_eq0, nI_clamp, nI_add, bu_nI, bb_0, bb_1, rf_s, rf_n, tl_s, tl_n, am_th_some, if_true, if_false, sI_eq, uI_eq, and_self, true_and, and_true, not_false_eq_true, not_true_eq_false, Nat.reduceEqDiff, Nat.reduceLeDiff, Nat.reduceLT, Nat.reduceAdd, Nat.reduceMul, Nat.reduceSub, Nat.zero_add, hL, g1]
  | some l =>
    obtain ⟨E, k, PK, tk, EL, im, ⟨k0, N0⟩, k1, N1⟩ := l
    have L := get_l hok
    have hd : hd_ok (zn E) (E.2.1 4) k PK tk := (hok.2.2.2 _ rfl).2.1
    have eq01 : (if nI q = 0 then nI 0 else nI 1) = nI q := by
      rcases (show q = 0 ∨ q = 1 by omega) with rfl | rfl <;> rfl
    have eq02 : (if q = 0 then nI 0 else nI 1) = nI q := by
      rcases (show q = 0 ∨ q = 1 by omega) with rfl | rfl <;> rfl
    obtain ⟨t0, ht0, e42⟩ : ∃ t0, t0 ≤ 1 ∧ PK k 4 2 = nI t0 := by
      rcases L.pt.2.1 with e | e
      · exact ⟨0, by decide, e⟩
      · exact ⟨1, by decide, e⟩
    by_cases e0 : t0 = q
    · refine ⟨nI 0, (tp, w, st, sp_re rf 2, some (E, k, PK, tk, EL, im, (k0, N0), (k1, N1))), fun d u I R Q h => ?_, fun d I R Q hr h => ?_, hok⟩
      · have C := get_c (Q := Q) h hok
        have hL := C.lun L (d + 89)
        have e6 : I 9 12 6 = nI q := by rw [← e0]; exact C.pp.2.2.2.trans e42
        obtain ⟨J, g1, g2, g3⟩ := c_refuse (d := d + 89) (R := R) (Q := Q) (rF_11 h.1.1).2.2.2.2.2.1 h.2.1.2.2.2.2.2.1 (k := 2) (by decide)
        refine ⟨J, R, u, ?_, fr_mo g2 fun a b j w => by unfold clS; omega, relc_re h hok g2 g3, fun _ _ _ _ => rfl⟩
        rw [s117]
        simp (disch := first | omega | assumption) only [s117_0, s117_1, s117_4, s117_7, s117_8, s117_9, s117_12, s117_13, s117_14, s117_15, s117_16, s117_19, s117_22, s117_23, s117_26, s117_27, s117_28, s117_31, s117_32, s117_33, s117_34, s117_35, s117_38, s117_39, s117_42, s117_45, s117_46, s117_49, s117_50, s117_53, s117_54, nI_le2, nI_lt2, nI_eq2, nI_lt0, nI_0le, nI_0lt, nI_le0, nI_eq0, nI_clamp, nI_add, bu_nI, bb_0, bb_1, rf_s, rf_n, tl_s, tl_n, am_th_some, if_true, if_false, sI_eq, uI_eq, and_self, true_and, and_true, not_false_eq_true, not_true_eq_false, Nat.reduceEqDiff, Nat.reduceLeDiff, Nat.reduceLT, Nat.reduceAdd, Nat.reduceMul, Nat.reduceSub, Nat.zero_add, hL, C.pa.2.1, e6, g1]
      · have C := get_m (Q := Q) hr h hok
        have hL := C.lun L (d + 89)
        have e6 : I 60 0 100 = nI q := by rw [← e0]; exact C.mm.2.2.2.trans e42
        obtain ⟨J, g1, g2, g3⟩ := m_refused (d := d + 89) (Q := Q) hr h.1.2.2.2 (k := 2) (by decide)
        refine ⟨J, Q, ?_, fr_mo g2 fun a b j w => by unfold mdS; omega, relm_re h hok g2 g3, fun _ _ _ _ => rfl⟩
        rw [s228]
        rcases (show q = 0 ∨ q = 1 by omega) with rfl | rfl
        · simp (disch := first | omega | assumption) only [s228_0, s228_1, s228_2, s228_5, s228_8, s228_9, s228_12, s228_13, s228_16, s228_18, s228_19, s228_20, s228_23, s228_24, s228_27, s228_28, s228_31, s228_32, s228_35, s228_36, s228_39, s228_42, s228_43, s228_44, s228_45, s228_48, s228_49, s228_52, s228_54, s228_55, s228_58, s228_59, s228_62, s228_63, s228_64, s228_65, nI_le2, nI_lt2, nI_eq2, nI_lt0, nI_0le, nI_0lt, nI_le0, nI_eq0, nI_clamp, nI_add, bu_nI, bb_0, bb_1, rf_s, rf_n, tl_s, tl_n, am_th_some, if_true, if_false, sI_eq, uI_eq, and_self, true_and, and_true, not_false_eq_true, not_true_eq_false, Nat.reduceEqDiff, Nat.reduceLeDiff, Nat.reduceLT, Nat.reduceAdd, Nat.reduceMul, Nat.reduceSub, Nat.zero_add, hL, mr31 hr, e6, g1]
        · simp (disch := first | omega | assumption) only [s228_0, s228_1, s228_2, s228_5, s228_8, s228_9, s228_12, s228_13, s228_16, s228_18, s228_19, s228_20, s228_23, s228_24, s228_27, s228_28, s228_31, s228_32, s228_35, s228_36, s228_39, s228_42, s228_43, s228_44, s228_45, s228_48, s228_49, s228_52, s228_54, s228_55, s228_58, s228_59, s228_62, s228_63, s228_64, s228_65, nI_le2, nI_lt2, nI_eq2, nI_lt0, nI_0le, nI_0lt, nI_le0, nI_eq0, nI_clamp, nI_add, bu_nI, bb_0, bb_1, rf_s, rf_n, tl_s, tl_n, am_th_some, if_true, if_false, sI_eq, uI_eq, and_self, true_and, and_true, not_false_eq_true, not_true_eq_false, Nat.reduceEqDiff, Nat.reduceLeDiff, Nat.reduceLT, Nat.reduceAdd, Nat.reduceMul, Nat.reduceSub, Nat.zero_add, hL, mr31 hr, e6, g1, show ¬ (1 : Nat) = 0 by decide]
    · have hdk := hd_keep hd
      have ek : sp_kj k (sp_kk k) = k := kj_k k L.k40
      have hI : pt_I (zn E) (E.2.1 4) (tk k) (sp_up (PK k) 4 2 (nI q)) := turn_I hq L.pt
      have h41 : sp_up (PK k) 4 2 (nI q) 4 1 = nI (tk k) := L.p1
      have hd2 : hd_ok (zn E) (E.2.1 4) (sp_kk k) (sp_nw (sp_kk k) (fun j => PK (sp_kj k j)) (sp_up (PK k) 4 2 (nI q))) (fun j => tk (sp_kj k j)) := hd_nowS hdk (by show pt_I _ _ (tk (sp_kj k (sp_kk k))) _; rw [ek]; exact hI) (by show _ = nI (tk (sp_kj k (sp_kk k))); rw [ek]; exact h41)
      refine ⟨nI 1, (tp, w, st, rf, some (E, sp_kk k, sp_nw (sp_kk k) (fun j => PK (sp_kj k j)) (sp_up (PK k) 4 2 (nI q)), (fun j => tk (sp_kj k j)), EL, im, (k0, N0), (k1, N1))), fun d u I R Q h => ?_, fun d I R Q hr h => ?_, ok_hist hok hd2 (by show tk (sp_kj k (sp_kk k)) ≤ 9999; rw [ek]; exact L.tm)⟩
      · have C := get_c (Q := Q) h hok
        have hL := C.lun L (d + 89)
        obtain ⟨f, lo, h6⟩ := h.2.2.2.1
        obtain ⟨J1, a1, a2, a3⟩ := c_keepH (d := d + 88) (Q := Q) C.pa.2.2.2.2.2.2.2.2.2 hd h6
        have hp1 : pp_at J1 12 (PK k) := by have := a3.2.2.2.2.1; dsimp only at this; rw [ek] at this; exact this
        obtain ⟨J2, b1, b3, b2⟩ := wr J1 9 12 6 (nI q)
        have hp2 : pp_at J2 12 (sp_up (PK k) 4 2 (nI q)) := ⟨fun c hc => ⟨(b2 _ _ _ (by omega)).trans (hp1.1 c hc).1, (b2 _ _ _ (by omega)).trans (hp1.1 c hc).2.1, (b2 _ _ _ (by omega)).trans (hp1.1 c hc).2.2.1, (b2 _ _ _ (by omega)).trans (hp1.1 c hc).2.2.2⟩, (b2 _ _ _ (by omega)).trans hp1.2.1, (b2 _ _ _ (by omega)).trans hp1.2.2.1, b3⟩
        have b2' : am_fr (pp_S 12) J1 J2 := fr_mo b2 fun a b j w => ⟨Or.inl w.1, w.2.1⟩
        have c3 := c_nowH a3 b2' hp2 hdk.1
        have hf : am_fr hC I J2 := fr_tr (fr_mo a2 fun a b j w => hcS_C w) (fr_mo b2' fun a b j w => pp12_C w)
        have e6 : I 9 12 6 = nI t0 := C.pp.2.2.2.trans e42
        have en : ¬ nI t0 = nI q := by rw [nI_eq2 (by omega) (by omega)]; exact e0
        refine ⟨J2, R, u, ?_, fr_mo hf fun a b j w => hC_cl w, relc_hist h hok hf ⟨_, _, c3⟩, fun _ _ _ _ => rfl⟩
        rw [s117]
        simp (disch := first | omega | assumption) only [s117_0, s117_1, s117_4, s117_7, s117_8, s117_9, s117_12, s117_13, s117_14, s117_15, s117_16, s117_19, s117_22, s117_23, s117_26, s117_27, s117_28, s117_31, s117_32, s117_33, s117_34, s117_35, s117_38, s117_39, s117_42, s117_45, s117_46, s117_49, s117_50, s117_53, s117_54, nI_le2, nI_lt2, nI_eq2, nI_lt0, nI_0le, nI_0lt, nI_le0, nI_eq0, nI_clamp, nI_add, bu_nI, bb_0, bb_1, rf_s, rf_n, tl_s, tl_n, am_th_some, if_true, if_false, sI_eq, uI_eq, and_self, true_and, and_true, not_false_eq_true, not_true_eq_false, Nat.reduceEqDiff, Nat.reduceLeDiff, Nat.reduceLT, Nat.reduceAdd, Nat.reduceMul, Nat.reduceSub, Nat.zero_add, hL, C.pa.2.1, C.pa.2.2.2.1, e6, e0, a1, hbq, b1]
      · have C := get_m (Q := Q) hr h hok
        have hL := C.lun L (d + 89)
        obtain ⟨J1, a1, a2, a3⟩ := m_keepH (d := d + 89) (Q := Q) hr L.k40 h.2.2.1
        have hs1 := a3.2.2.2
        dsimp only at hs1
        rw [ek] at hs1
        have hm1 := sn_mm hs1 (a3.1.trans L.pt.1.symm)
        obtain ⟨J2, b1, b3, b2⟩ := wr J1 60 0 100 (nI q)
        have hm2 : mm_at J2 (sp_up (PK k) 4 2 (nI q)) := ⟨fun c hc => ⟨(b2 _ _ _ (by omega)).trans (hm1.1 c hc).1, (b2 _ _ _ (by omega)).trans (hm1.1 c hc).2.1, (b2 _ _ _ (by omega)).trans (hm1.1 c hc).2.2.1, (b2 _ _ _ (by omega)).trans (hm1.1 c hc).2.2.2⟩, (b2 _ _ _ (by omega)).trans hm1.2.1, (b2 _ _ _ (by omega)).trans hm1.2.2.1, b3⟩
        have nr := m_notRefused (d := d + 89) (I := I) (R := R) (Q := Q)
        have c3 := m_nowH a3 (fr_mo b2 fun a b j w => ⟨Or.inl ⟨w.1, by omega⟩, fun _ => by omega⟩) hm2
        have hf : am_fr hM I J2 := fr_tr (fr_mo a2 fun a b j w => hmS_M w) (fr_mo b2 fun a b j w => Or.inl w.1)
        have e6 : I 60 0 100 = nI t0 := C.mm.2.2.2.trans e42
        refine ⟨J2, Q, ?_, fr_mo hf fun a b j w => hM_md w, relm_hist h hok hf c3, fun _ _ _ _ => rfl⟩
        rw [s228]
        rcases (show q = 0 ∨ q = 1 by omega) with rfl | rfl
        · simp (disch := first | omega | assumption) only [s228_0, s228_1, s228_2, s228_5, s228_8, s228_9, s228_12, s228_13, s228_16, s228_18, s228_19, s228_20, s228_23, s228_24, s228_27, s228_28, s228_31, s228_32, s228_35, s228_36, s228_39, s228_42, s228_43, s228_44, s228_45, s228_48, s228_49, s228_52, s228_54, s228_55, s228_58, s228_59, s228_62, s228_63, s228_64, s228_65, nI_le2, nI_lt2, nI_eq2, nI_lt0, nI_0le, nI_0lt, nI_le0, nI_eq0, nI_clamp, nI_add, bu_nI, bb_0, bb_1, rf_s, rf_n, tl_s, tl_n, am_th_some, if_true, if_false, sI_eq, uI_eq, and_self, true_and, and_true, not_false_eq_true, not_true_eq_false, Nat.reduceEqDiff, Nat.reduceLeDiff, Nat.reduceLT, Nat.reduceAdd, Nat.reduceMul, Nat.reduceSub, Nat.zero_add, hL, mr31 hr, e6, e0, nr, a1, b1]
        · simp (disch := first | omega | assumption) only [s228_0, s228_1, s228_2, s228_5, s228_8, s228_9, s228_12, s228_13, s228_16, s228_18, s228_19, s228_20, s228_23, s228_24, s228_27, s228_28, s228_31, s228_32, s228_35, s228_36, s228_39, s228_42, s228_43, s228_44, s228_45, s228_48, s228_49, s228_52, s228_54, s228_55, s228_58, s228_59, s228_62, s228_63, s228_64, s228_65, nI_le2, nI_lt2, nI_eq2, nI_lt0, nI_0le, nI_0lt, nI_le0, nI_eq0, nI_clamp, nI_add, bu_nI, bb_0, bb_1, rf_s, rf_n, tl_s, tl_n, am_th_some, if_true, if_false, sI_eq, uI_eq, and_self, true_and, and_true, not_false_eq_true, not_true_eq_false, Nat.reduceEqDiff, Nat.reduceLeDiff, Nat.reduceLT, Nat.reduceAdd, Nat.reduceMul, Nat.reduceSub, Nat.zero_add, hL, mr31 hr, e6, e0, nr, a1, b1, show ¬ (1 : Nat) = 0 by decide]
theorem op_move (hok : rel_ok s) : op1 118 230 [.int x, .int y] s := by
  obtain ⟨tp, w, st, rf, o⟩ := s
  cases o with
  | none =>
    refine ⟨-nI 1, (tp, w, st, sp_re rf 0, none), fun d u I R Q h => ?_, fun d I R Q hr h => ?_, hok⟩
    · have C := get_nc h
      have hF := C.food (Q := Q) (d + 89) x
      obtain ⟨J, g1, g2, g3⟩ := c_refuse (d := d + 89) (R := R) (Q := Q) (rF_11 h.1.1).2.2.2.2.2.1 h.2.1.2.2.2.2.2.1 (k := 0) (by decide)
      refine ⟨J, R, u, ?_, fr_mo g2 fun a b j w => by unfold clS; omega, relc_re h hok g2 g3, fun _ _ _ _ => rfl⟩
      rw [s118]
      simp (disch := first | omega | assumption) only [s118_0, s118_1, s118_4, s118_5, s118_8, s118_11, s118_12, s118_13, s118_16, s118_19, s118_20, s118_21, s118_24, s118_25, s118_26, s118_29, s118_30, s118_33, s118_36, s118_37, s118_38, s118_41, s118_42, s118_43, s118_46, s118_47, s118_50, s118_53, s118_54, s118_57, s118_58, s118_59, s118_62, s118_63, s118_66, s118_67, s118_70, s118_71, s118_74, nI_le2, nI_lt2, nI_eq2, nI_lt0, nI_0le, nI_0lt, nI_le0, nI_eq0, nI_clamp, nI_add, bu_nI, bb_0, bb_1, rf_s, rf_n, tl_s, tl_n, am_th_some, if_true, if_false, sI_eq, uI_eq, and_self, true_and, and_true, not_false_eq_true, not_true_eq_false, Nat.reduceEqDiff, Nat.reduceLeDiff, Nat.reduceLT, Nat.reduceAdd, Nat.reduceMul, Nat.reduceSub, Nat.zero_add, hF, C.pa.2.1, g1]
    · have C := get_nm h
      have hF := C.food (Q := Q) hr (d + 87) x
      obtain ⟨J, g1, g2, g3⟩ := m_refused (d := d + 89) (Q := Q) hr h.1.2.2.2 (k := 0) (by decide)
      refine ⟨J, Q, ?_, fr_mo g2 fun a b j w => by unfold mdS; omega, relm_re h hok g2 g3, fun _ _ _ _ => rfl⟩
      rw [s230]
      simp (disch := first | omega | assumption) only [s230_0, s230_1, s230_2, s230_3, s230_6, s230_9, s230_10, s230_11, s230_14, s230_17, s230_18, s230_21, s230_22, s230_23, s230_26, s230_29, s230_30, s230_33, s230_34, s230_37, s230_40, s230_41, s230_42, s230_43, s230_46, s230_47, s230_48, s230_49, s230_52, s230_53, s230_54, s230_57, nI_le2, nI_lt2, nI_eq2, nI_lt0, nI_0le, nI_0lt, nI_le0, nI_eq0, nI_clamp, nI_add, bu_nI, bb_0, bb_1, rf_s, rf_n, tl_s, tl_n, am_th_some, if_true, if_false, sI_eq, uI_eq, and_self, true_and, and_true, not_false_eq_true, not_true_eq_false, Nat.reduceEqDiff, Nat.reduceLeDiff, Nat.reduceLT, Nat.reduceAdd, Nat.reduceMul, Nat.reduceSub, Nat.zero_add, hF, g1]
  | some l =>
    obtain ⟨E, k, PK, tk, EL, im, ⟨k0, N0⟩, k1, N1⟩ := l
    have L := get_l hok
    have n25 := L.n25
    have hd : hd_ok (zn E) (E.2.1 4) k PK tk := (hok.2.2.2 _ rfl).2.1
    by_cases e0 : pp_f (PK k) x ∧ (0 ≤ y ∧ y < nI (zn E))
    · obtain ⟨e0, e1⟩ := e0
      by_cases e2 : pp_f (PK k) y
      · refine ⟨-nI 1, (tp, w, st, sp_re rf 2, some (E, k, PK, tk, EL, im, (k0, N0), (k1, N1))), fun d u I R Q h => ?_, fun d I R Q hr h => ?_, hok⟩
        · have C := get_c (Q := Q) h hok
          have p0 := C.food L (d + 89) x
          rw [if_pos e0] at p0
          have p2 := C.food L (d + 89) y
          rw [if_pos e2] at p2
          have p1 := c_isCellX (d := d + 89) (Q := Q) (x := y) C.pa.2.1 C.h4 L.n25
          rw [if_pos e1] at p1
          obtain ⟨J, g1, g2, g3⟩ := c_refuse (d := d + 89) (R := R) (Q := Q) (rF_11 h.1.1).2.2.2.2.2.1 h.2.1.2.2.2.2.2.1 (k := 2) (by decide)
          refine ⟨J, R, u, ?_, fr_mo g2 fun a b j w => by unfold clS; omega, relc_re h hok g2 g3, fun _ _ _ _ => rfl⟩
          rw [s118]
          simp (disch := first | omega | assumption) only [s118_0, s118_1, s118_4, s118_5, s118_8, s118_11, s118_12, s118_13, s118_16, s118_19, s118_20, s118_21, s118_24, s118_25, s118_26, s118_29, s118_30, s118_33, s118_36, s118_37, s118_38, s118_41, s118_42, s118_43, s118_46, s118_47, s118_50, s118_53, s118_54, s118_57, s118_58, s118_59, s118_62, s118_63, s118_66, s118_67, s118_70, s118_71, s118_74, nI_le2, nI_lt2, nI_eq2, nI_lt0, nI_0le, nI_0lt, nI_le0, nI_eq0, nI_clamp, nI_add, bu_nI, bb_0, bb_1, rf_s, rf_n, tl_s, tl_n, am_th_some, if_true, if_false, sI_eq, uI_eq, and_self, true_and, and_true, not_false_eq_true, not_true_eq_false, Nat.reduceEqDiff, Nat.reduceLeDiff, Nat.reduceLT, Nat.reduceAdd, Nat.reduceMul, Nat.reduceSub, Nat.zero_add, p0, p1, p2, C.pa.2.1, g1]
        · have C := get_m (Q := Q) hr h hok
          have p0 : am_cal (d + 89) _ _ _ _ _ = _ := C.food L (d + 87) x
          rw [if_pos e0] at p0
          have p2 : am_cal (d + 89) _ _ _ _ _ = _ := C.food L (d + 87) y
          rw [if_pos e2] at p2
          have p1 : am_cal (d + 89) _ _ _ _ _ = _ := m_isCell (d := d + 88) (R := R) (Q := Q) (x := y) C.hc L.n25
          rw [if_pos e1] at p1
          obtain ⟨J, g1, g2, g3⟩ := m_refused (d := d + 89) (Q := Q) hr h.1.2.2.2 (k := 2) (by decide)
          refine ⟨J, Q, ?_, fr_mo g2 fun a b j w => by unfold mdS; omega, relm_re h hok g2 g3, fun _ _ _ _ => rfl⟩
          rw [s230]
          simp (disch := first | omega | assumption) only [s230_0, s230_1, s230_2, s230_3, s230_6, s230_9, s230_10, s230_11, s230_14, s230_17, s230_18, s230_21, s230_22, s230_23, s230_26, s230_29, s230_30, s230_33, s230_34, s230_37, s230_40, s230_41, s230_42, s230_43, s230_46, s230_47, s230_48, s230_49, s230_52, s230_53, s230_54, s230_57, nI_le2, nI_lt2, nI_eq2, nI_lt0, nI_0le, nI_0lt, nI_le0, nI_eq0, nI_clamp, nI_add, bu_nI, bb_0, bb_1, rf_s, rf_n, tl_s, tl_n, am_th_some, if_true, if_false, sI_eq, uI_eq, and_self, true_and, and_true, not_false_eq_true, not_true_eq_false, Nat.reduceEqDiff, Nat.reduceLeDiff, Nat.reduceLT, Nat.reduceAdd, Nat.reduceMul, Nat.reduceSub, Nat.zero_add, p0, p1, p2, g1]
      · obtain ⟨c, hc, rfl, hf⟩ := pp_f_of L.pt.1 n25 e0
        obtain ⟨c', hc', rfl⟩ := am_in e1.1 e1.2 (by omega)
        have hz : PK k 0 c' ≤ 0 := Classical.byContradiction fun w => e2 ((pp_f_k L.pt.1 n25 (by omega)).mpr ⟨hc', w⟩)
        have hne : ¬ c = c' := fun w => hf (by rw [w]; exact hz)
        have hdk := hd_keep hd
        have ek : sp_kj k (sp_kk k) = k := kj_k k L.k40
        have hI : pt_I (zn E) (E.2.1 4) (tk k) (sp_shift (PK k) c c') := shift_I L.b1.1 hc hf hc' n25 L.pt
        have eS : sp_shift (PK k) c c' = sp_clear (sp_up (sp_up (sp_up (sp_up (PK k) 0 c' (PK k 0 c)) 1 c' (PK k 1 c)) 2 c' (PK k 2 c)) 3 c' (PK k 3 c)) c := by rw [sp_shift, if_pos hz]
        have h41 : sp_shift (PK k) c c' 4 1 = nI (tk k) := by rw [eS]; exact L.p1
        generalize hS : sp_shift (PK k) c c' = S at hI h41 eS
        have hd2 : hd_ok (zn E) (E.2.1 4) (sp_kk k) (sp_nw (sp_kk k) (fun j => PK (sp_kj k j)) S) (fun j => tk (sp_kj k j)) := hd_nowS hdk (by show pt_I _ _ (tk (sp_kj k (sp_kk k))) _; rw [ek]; exact hI) (by show _ = nI (tk (sp_kj k (sp_kk k))); rw [ek]; exact h41)
        refine ⟨sp_edges (sp_B (E.2.1 0) (E.2.1 1)) S c', (tp, w, st, rf, some (E, sp_kk k, sp_nw (sp_kk k) (fun j => PK (sp_kj k j)) S, (fun j => tk (sp_kj k j)), EL, im, (k0, N0), (k1, N1))), fun d u I R Q h => ?_, fun d I R Q hr h => ?_, ok_hist hok hd2 (by show tk (sp_kj k (sp_kk k)) ≤ 9999; rw [ek]; exact L.tm)⟩
        · have C := get_c (Q := Q) h hok
          have p0 := C.food L (d + 89) (nI c)
          rw [if_pos e0] at p0
          have p2 := C.food L (d + 89) (nI c')
          rw [if_neg e2] at p2
          have p1 := c_isCellX (d := d + 89) (Q := Q) (x := nI c') C.pa.2.1 C.h4 L.n25
          rw [if_pos e1] at p1
          obtain ⟨f, lo, h6⟩ := h.2.2.2.1
          obtain ⟨J1, a1, a2, a3⟩ := c_keepH (d := d + 88) (Q := Q) C.pa.2.2.2.2.2.2.2.2.2 hd h6
          have hp1 : pp_at J1 12 (PK k) := by have := a3.2.2.2.2.1; dsimp only at this; rw [ek] at this; exact this
          obtain ⟨J2, b1, b2, b3⟩ := c_shift (d := d + 88) (Q := Q) (C.aa.2.2.2.2.1 12 (by decide)) hp1 L.pt.1 n25 hc hc' hf
          rw [hS] at b3
          replace b1 : am_cal (d + 89) _ _ _ _ _ = _ := b1
          have c3 := c_nowH a3 b2 b3 hdk.1
          have hf2 : am_fr hC I J2 := fr_tr (fr_mo a2 fun a b j w => hcS_C w) (fr_mo b2 fun a b j w => pp12_C w)
          have hB : bs_at J2 u (zn E) (sp_B (E.2.1 0) (E.2.1 1)) := bs_fr C.bs hf2 (fun j w => by unfold hC hc_S kk_S at w; omega)
          have c1 : am_cal (d + 89) _ _ _ _ _ = _ := c_edges (d := d + 88) (Q := Q) C.kk (rF_p0 C.pa) b3 hI.1 n25 hB hc'
          refine ⟨J2, R, u, ?_, fr_mo hf2 fun a b j w => hC_cl w, relc_hist h hok hf2 ⟨_, _, c3⟩, fun _ _ _ _ => rfl⟩
          rw [s118]
          simp (disch := first | omega | assumption) only [s118_0, s118_1, s118_4, s118_5, s118_8, s118_11, s118_12, s118_13, s118_16, s118_19, s118_20, s118_21, s118_24, s118_25, s118_26, s118_29, s118_30, s118_33, s118_36, s118_37, s118_38, s118_41, s118_42, s118_43, s118_46, s118_47, s118_50, s118_53, s118_54, s118_57, s118_58, s118_59, s118_62, s118_63, s118_66, s118_67, s118_70, s118_71, s118_74, nI_le2, nI_lt2, nI_eq2, nI_lt0, nI_0le, nI_0lt, nI_le0, nI_eq0, nI_clamp, nI_add, bu_nI, bb_0, bb_1, rf_s, rf_n, tl_s, tl_n, am_th_some, if_true, if_false, sI_eq, uI_eq, and_self, true_and, and_true, not_false_eq_true, not_true_eq_false, Nat.reduceEqDiff, Nat.reduceLeDiff, Nat.reduceLT, Nat.reduceAdd, Nat.reduceMul, Nat.reduceSub, Nat.zero_add, p0, p1, p2, C.pa.1, C.pa.2.1, C.pa.2.2.2.1, a1, b1, c1]
        · have C := get_m (Q := Q) hr h hok
          have p0 : am_cal (d + 89) _ _ _ _ _ = _ := C.food L (d + 87) (nI c)
          rw [if_pos e0] at p0
          have p2 : am_cal (d + 89) _ _ _ _ _ = _ := C.food L (d + 87) (nI c')
          rw [if_neg e2] at p2
          have p1 : am_cal (d + 89) _ _ _ _ _ = _ := m_isCell (d := d + 88) (R := R) (Q := Q) (x := nI c') C.hc L.n25
          rw [if_pos e1] at p1
          obtain ⟨J1, a1, a2, a3⟩ := m_keepH (d := d + 89) (Q := Q) hr L.k40 h.2.2.1
          have hs1 := a3.2.2.2
          dsimp only at hs1
          rw [ek] at hs1
          have hm1 := sn_mm hs1 (a3.1.trans L.pt.1.symm)
          obtain ⟨J2, b1, b2, b3⟩ := m_moveNow (d := d + 89) (Q := Q) hr hm1 (show c < 25 by omega) (show c' < 25 by omega) hne
          rw [← eS] at b3
          have nr := m_notRefused (d := d + 89) (I := I) (R := R) (Q := Q)
          have c3 := m_nowH a3 (fr_mo b2 fun a b j w => ⟨Or.inl ⟨w.1, Nat.lt_trans w.2 (by decide)⟩, fun _ => w.2⟩) b3
          have hf2 : am_fr hM I J2 := fr_tr (fr_mo a2 fun a b j w => hmS_M w) (fr_mo b2 fun a b j w => mmS_M w)
          have ho : mo_at J2 (E.2.1 0) (E.2.1 1) (zn E) := ⟨(hf2 _ _ _ (fun w => by unfold hM at w; omega)).trans C.mo.1, (hf2 _ _ _ (fun w => by unfold hM at w; omega)).trans C.mo.2.1, C.mo.2.2⟩
          have c1 : am_cal (d + 89) _ _ _ _ _ = _ := m_edges (d := d + 86) (Q := Q) hr ho b3 hI.1 n25 hc'
          refine ⟨J2, Q, ?_, fr_mo hf2 fun a b j w => hM_md w, relm_hist h hok hf2 c3, fun _ _ _ _ => rfl⟩
          rw [s230]
          simp (disch := first | omega | assumption) only [s230_0, s230_1, s230_2, s230_3, s230_6, s230_9, s230_10, s230_11, s230_14, s230_17, s230_18, s230_21, s230_22, s230_23, s230_26, s230_29, s230_30, s230_33, s230_34, s230_37, s230_40, s230_41, s230_42, s230_43, s230_46, s230_47, s230_48, s230_49, s230_52, s230_53, s230_54, s230_57, nI_le2, nI_lt2, nI_eq2, nI_lt0, nI_0le, nI_0lt, nI_le0, nI_eq0, nI_clamp, nI_add, bu_nI, bb_0, bb_1, rf_s, rf_n, tl_s, tl_n, am_th_some, if_true, if_false, sI_eq, uI_eq, and_self, true_and, and_true, not_false_eq_true, not_true_eq_false, Nat.reduceEqDiff, Nat.reduceLeDiff, Nat.reduceLT, Nat.reduceAdd, Nat.reduceMul, Nat.reduceSub, Nat.zero_add, p0, p1, p2, nr, a1, b1, c1]
    · refine ⟨-nI 1, (tp, w, st, sp_re rf 0, some (E, k, PK, tk, EL, im, (k0, N0), (k1, N1))), fun d u I R Q h => ?_, fun d I R Q hr h => ?_, hok⟩
      · have C := get_c (Q := Q) h hok
        have p0 := C.food L (d + 89) x
        have p1 := c_isCellX (d := d + 89) (Q := Q) (x := y) C.pa.2.1 C.h4 L.n25
        obtain ⟨J, g1, g2, g3⟩ := c_refuse (d := d + 89) (R := R) (Q := Q) (rF_11 h.1.1).2.2.2.2.2.1 h.2.1.2.2.2.2.2.1 (k := 0) (by decide)
        refine ⟨J, R, u, ?_, fr_mo g2 fun a b j w => by unfold clS; omega, relc_re h hok g2 g3, fun _ _ _ _ => rfl⟩
        rw [s118]
        by_cases ex : pp_f (PK k) x
        · rw [if_pos ex] at p0
          rw [if_neg (fun w => e0 ⟨ex, w⟩)] at p1
          simp (disch := first | omega | assumption) only [s118_0, s118_1, s118_4, s118_5, s118_8, s118_11, s118_12, s118_13, s118_16, s118_19, s118_20, s118_21, s118_24, s118_25, s118_26, s118_29, s118_30, s118_33, s118_36, s118_37, s118_38, s118_41, s118_42, s118_43, s118_46, s118_47, s118_50, s118_53, s118_54, s118_57, s118_58, s118_59, s118_62, s118_63, s118_66, s118_67, s118_70, s118_71, s118_74, nI_le2, nI_lt2, nI_eq2, nI_lt0, nI_0le, nI_0lt, nI_le0, nI_eq0, nI_clamp, nI_add, bu_nI, bb_0, bb_1, rf_s, rf_n, tl_s, tl_n, am_th_some, if_true, if_false, sI_eq, uI_eq, and_self, true_and, and_true, not_false_eq_true, not_true_eq_false, Nat.reduceEqDiff, Nat.reduceLeDiff, Nat.reduceLT, Nat.reduceAdd, Nat.reduceMul, Nat.reduceSub, Nat.zero_add, p0, p1, C.pa.2.1, g1]
        · rw [if_neg ex] at p0
          simp (disch := first | omega | assumption) only [s118_0, s118_1, s118_4, s118_5, s118_8, s118_11, s118_12, s118_13, s118_16, s118_19, s118_20, s118_21, s118_24, s118_25, s118_26, s118_29, s118_30, s118_33, s118_36, s118_37, s118_38, s118_41, s118_42, s118_43, s118_46, s118_47, s118_50, s118_53, s118_54, s118_57, s118_58, s118_59, s118_62, s118_63, s118_66, s118_67, s118_70, s118_71, s118_74, nI_le2, nI_lt2, nI_eq2, nI_lt0, nI_0le, nI_0lt, nI_le0, nI_eq0, nI_clamp, nI_add, bu_nI, bb_0, bb_1, rf_s, rf_n, tl_s, tl_n, am_th_some, if_true, if_false, sI_eq, uI_eq, and_self, true_and, and_true, not_false_eq_true, not_true_eq_false, Nat.reduceEqDiff, Nat.reduceLeDiff, Nat.reduceLT, Nat.reduceAdd, Nat.reduceMul, Nat.reduceSub, Nat.zero_add, p0, C.pa.2.1, g1]
      · have C := get_m (Q := Q) hr h hok
        have p0 : am_cal (d + 89) _ _ _ _ _ = _ := C.food L (d + 87) x
        have p1 : am_cal (d + 89) _ _ _ _ _ = _ := m_isCell (d := d + 88) (R := R) (Q := Q) (x := y) C.hc L.n25
        obtain ⟨J, g1, g2, g3⟩ := m_refused (d := d + 89) (Q := Q) hr h.1.2.2.2 (k := 0) (by decide)
        refine ⟨J, Q, ?_, fr_mo g2 fun a b j w => by unfold mdS; omega, relm_re h hok g2 g3, fun _ _ _ _ => rfl⟩
        rw [s230]
        by_cases ex : pp_f (PK k) x
        · rw [if_pos ex] at p0
          rw [if_neg (fun w => e0 ⟨ex, w⟩)] at p1
          simp (disch := first | omega | assumption) only [s230_0, s230_1, s230_2, s230_3, s230_6, s230_9, s230_10, s230_11, s230_14, s230_17, s230_18, s230_21, s230_22, s230_23, s230_26, s230_29, s230_30, s230_33, s230_34, s230_37, s230_40, s230_41, s230_42, s230_43, s230_46, s230_47, s230_48, s230_49, s230_52, s230_53, s230_54, s230_57, nI_le2, nI_lt2, nI_eq2, nI_lt0, nI_0le, nI_0lt, nI_le0, nI_eq0, nI_clamp, nI_add, bu_nI, bb_0, bb_1, rf_s, rf_n, tl_s, tl_n, am_th_some, if_true, if_false, sI_eq, uI_eq, and_self, true_and, and_true, not_false_eq_true, not_true_eq_false, Nat.reduceEqDiff, Nat.reduceLeDiff, Nat.reduceLT, Nat.reduceAdd, Nat.reduceMul, Nat.reduceSub, Nat.zero_add, p0, p1, g1]
        · rw [if_neg ex] at p0
          simp (disch := first | omega | assumption) only [s230_0, s230_1, s230_2, s230_3, s230_6, s230_9, s230_10, s230_11, s230_14, s230_17, s230_18, s230_21, s230_22, s230_23, s230_26, s230_29, s230_30, s230_33, s230_34, s230_37, s230_40, s230_41, s230_42, s230_43, s230_46, s230_47, s230_48, s230_49, s230_52, s230_53, s230_54, s230_57, nI_le2, nI_lt2, nI_eq2, nI_lt0, nI_0le, nI_0lt, nI_le0, nI_eq0, nI_clamp, nI_add, bu_nI, bb_0, bb_1, rf_s, rf_n, tl_s, tl_n, am_th_some, if_true, if_false, sI_eq, uI_eq, and_self, true_and, and_true, not_false_eq_true, not_true_eq_false, Nat.reduceEqDiff, Nat.reduceLeDiff, Nat.reduceLT, Nat.reduceAdd, Nat.reduceMul, Nat.reduceSub, Nat.zero_add, p0, g1]
end
