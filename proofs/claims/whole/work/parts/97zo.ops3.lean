/-! Queries, part three: rows of steps, ODDS, cups, DISHES, ORDER, JOINED. -/
theorem P0_I {E : zE} (hE : zd_ok E) (hg : zd_g E) : pt_I (zn E) (E.2.1 4) 0 (zP0 E) := by
  have b50 := (b_of hE).1
  have e0 : ∀ a c, a < 3 → zP0 E a c = nI (zd_P E.2.2.1 a c) := fun a c ha => by
    unfold zP0
    rw [if_neg (by omega), if_pos ha]
  refine ⟨rfl, Or.inl rfl, ⟨0, Nat.le_refl _, rfl⟩, fun c hc => ?_, ?_⟩
  · obtain ⟨p1, p2, p3, p4, p5⟩ := P_pos (c := c) E.2.2.1 hE.2.1
    refine ⟨_, _, _, 0, e0 0 c (by decide), e0 1 c (by decide), e0 2 c (by decide), rfl, p2, p3, by omega, by decide, fun h => ⟨(p5 h).1, (p5 h).2, rfl⟩, fun hn => ?_⟩
    refine Classical.byContradiction fun h => ?_
    have := hg.2.1.2 c (p1.mp (by omega))
    have : zn E = E.2.1 0 * E.2.1 1 := rfl
    omega
  · obtain ⟨f, hf⟩ := List.exists_mem_of_ne_nil _ hg.1
    have hm : f 0 ∈ zd_l E.2.2.1 := List.mem_map.mpr ⟨f, hf, rfl⟩
    obtain ⟨p1, p2, -⟩ := P_pos (c := f 0) E.2.2.1 hE.2.1
    have h1 := p1.mpr hm
    have h2 := hg.2.1.2 _ hm
    have h3 := (wh_of hE).2.2.2.2.2
    refine ⟨f 0, by omega, ?_⟩
    rw [e0 0 _ (by decide), nI_le0 (by omega)]
    omega
theorem D_ok {E : zE} (hE : zd_ok E) : ds_ok E.2.2.2.2.length (zD E.2.2.2.2 0) (zD E.2.2.2.2 1) := by
  refine ⟨hE.2.2.2.2.2.2, fun i hi => ?_⟩
  have hm : E.2.2.2.2.getD i (fun _ => 0) ∈ E.2.2.2.2 := by
    rw [List.getD_eq_getElem?_getD, List.getElem?_eq_getElem hi]
    exact List.getElem_mem hi
  have h := hE.2.2.2.1 _ hm
  exact ⟨(h 0 (by decide)).2, (h 1 (by decide)).2⟩
section
variable {s : zSt} {x y z : Int32}
theorem op_odds (hok : rel_ok s) : op1 146 266 [.int x, .int y] s := by
  obtain ⟨tp, w, st, rf, o⟩ := s
  cases o with
  | none =>
    refine op_k (v := -nI 1) hok (fun d u I R Q h => ?_) (fun d I R Q hr h => ?_)
    · have C := get_nc h
      have hL := C.lun (Q := Q) (d + 89)
      have r10 := C.pa.2.1
      rw [s146]
      simp (disch := first | omega | assumption) only [s146_0, s146_1, s146_4, s146_7, s146_8, s146_9, s146_11, s146_14, s146_17, s146_18, s146_19, s146_21, s146_24, s146_27, s146_28, s146_29, s146_30, s146_33, s146_34, s146_37, s146_38, s146_39, s146_42, nI_le2, nI_lt2, nI_eq2, nI_lt0, nI_0le, nI_0lt, nI_le0, nI_eq0, nI_clamp, nI_add, bu_nI, bb_0, bb_1, rf_s, rf_n, tl_s, tl_n, am_th_some, if_true, if_false, sI_eq, uI_eq, and_self, true_and, and_true, not_false_eq_true, not_true_eq_false, Nat.reduceEqDiff, Nat.reduceLeDiff, Nat.reduceLT, Nat.reduceAdd, Nat.reduceMul, Nat.reduceSub, Nat.zero_add, hL, r10]
    · have C := get_nm h
      have hL := C.lun (R := R) (Q := Q) (d + 89)
      have hp0 := fun x => m_power0 (d := d + 88) (R := R) (Q := Q) (x := x) C.hc
      rw [s266]
      simp (disch := first | omega | assumption) only [s266_0, s266_1, s266_4, s266_7, s266_8, s266_9, s266_11, s266_14, s266_17, s266_18, s266_19, s266_21, s266_24, s266_27, s266_28, s266_29, s266_30, s266_31, s266_34, s266_37, s266_40, s266_41, nI_le2, nI_lt2, nI_eq2, nI_lt0, nI_0le, nI_0lt, nI_le0, nI_eq0, nI_clamp, nI_add, bu_nI, bb_0, bb_1, rf_s, rf_n, tl_s, tl_n, am_th_some, if_true, if_false, sI_eq, uI_eq, and_self, true_and, and_true, not_false_eq_true, not_true_eq_false, Nat.reduceEqDiff, Nat.reduceLeDiff, Nat.reduceLT, Nat.reduceAdd, Nat.reduceMul, Nat.reduceSub, Nat.zero_add, hL, hp0]
  | some l =>
    obtain ⟨E, k, PK, tk, EL, im, ⟨k0, N0⟩, k1, N1⟩ := l
    have L := get_l hok
    by_cases e0 : nI 0 ≤ x ∧ x ≤ nI 8
    · by_cases e1 : nI 0 ≤ y ∧ y ≤ nI 100
      · obtain ⟨c0, h0, rfl⟩ := in_nat (by decide) e0
        obtain ⟨c1, h1, rfl⟩ := in_nat (by decide) e1
        refine op_q (v := nI (sp_parts (zT E w) (nI (E.2.1 2)) (nI (E.2.1 5)) (zn E) c1 c0 (PK k) 1000000000)) hok (fun d u I R Q h => ?_) (fun d I R Q hr h => ?_)
        · have C := get_c (Q := Q) h hok
          have hL := C.lun L (d + 89)
          have p0 := c_within (d := d + 89) (x := (nI c0)) (a := nI 0) (b := nI 8) (I := I) (R := R) (Q := Q)
          rw [if_pos e0] at p0
          have p1 := c_within (d := d + 89) (x := (nI c1)) (a := nI 0) (b := nI 100) (I := I) (R := R) (Q := Q)
          rw [if_pos e1] at p1
          obtain ⟨J, g1, g2⟩ := c_partsSafe (d := d + 71) C.aa L.hk L.b1 L.n25 L.q9 C.T (C.ov 2 (by decide)) L.pt (by have := L.tm; omega) (p := 12) (by decide) (by decide) C.pp h0 h1
          rw [C.ov 5 (by decide)] at g1
          replace g1 : am_cal (d + 89) _ _ _ _ _ = _ := g1
          refine ⟨J, ?_, fr_mo g2 fun a b j => ahq⟩
          rw [s146]
          simp (disch := first | omega | assumption) only [s146_0, s146_1, s146_4, s146_7, s146_8, s146_9, s146_11, s146_14, s146_17, s146_18, s146_19, s146_21, s146_24, s146_27, s146_28, s146_29, s146_30, s146_33, s146_34, s146_37, s146_38, s146_39, s146_42, nI_le2, nI_lt2, nI_eq2, nI_lt0, nI_0le, nI_0lt, nI_le0, nI_eq0, nI_clamp, nI_add, bu_nI, bb_0, bb_1, rf_s, rf_n, tl_s, tl_n, am_th_some, if_true, if_false, sI_eq, uI_eq, and_self, true_and, and_true, not_false_eq_true, not_true_eq_false, Nat.reduceEqDiff, Nat.reduceLeDiff, Nat.reduceLT, Nat.reduceAdd, Nat.reduceMul, Nat.reduceSub, Nat.zero_add, hL, p0, p1, C.pa.1, C.pa.2.1, C.r9, C.r16, C.r17, g1]
        · have C := get_m (Q := Q) hr h hok
          have hL := C.lun L (d + 89)
          have p0 := m_inX (d := d + 89) (x := (nI c0)) (lo := nI 0) (hi := nI 8) (I := I) (R := R) (Q := Q)
          rw [if_pos e0] at p0
          have p1 := m_inX (d := d + 89) (x := (nI c1)) (lo := nI 0) (hi := nI 100) (I := I) (R := R) (Q := Q)
          rw [if_pos e1] at p1
          obtain ⟨e, he⟩ : ∃ e, e + 9 + c0 = d + 89 := ⟨d + 80 - c0, by omega⟩
          obtain ⟨J, g1, g2, g3⟩ := m_safeParts (d := e) hr L.hk L.b1 L.n25 L.q9 h1 c0 I (PK k) (tk k) 0 1000000000 (by omega) C.T (C.ov 2 (by decide)) L.pt (by have := L.tm; omega) (Nat.le_refl _) C.mm
          rw [C.ov 5 (by decide), he] at g1
          refine ⟨J, ?_, fr_mo g2 fun a b j => maq, g3⟩
          rw [s266]
          simp (disch := first | omega | assumption) only [s266_0, s266_1, s266_4, s266_7, s266_8, s266_9, s266_11, s266_14, s266_17, s266_18, s266_19, s266_21, s266_24, s266_27, s266_28, s266_29, s266_30, s266_31, s266_34, s266_37, s266_40, s266_41, nI_le2, nI_lt2, nI_eq2, nI_lt0, nI_0le, nI_0lt, nI_le0, nI_eq0, nI_clamp, nI_add, bu_nI, bb_0, bb_1, rf_s, rf_n, tl_s, tl_n, am_th_some, if_true, if_false, sI_eq, uI_eq, and_self, true_and, and_true, not_false_eq_true, not_true_eq_false, Nat.reduceEqDiff, Nat.reduceLeDiff, Nat.reduceLT, Nat.reduceAdd, Nat.reduceMul, Nat.reduceSub, Nat.zero_add, hL, p0, p1, g1]
      · refine op_k (v := -nI 1) hok (fun d u I R Q h => ?_) (fun d I R Q hr h => ?_)
        · have C := get_c (Q := Q) h hok
          have hL := C.lun L (d + 89)
          have p0 := c_within (d := d + 89) (x := x) (a := nI 0) (b := nI 8) (I := I) (R := R) (Q := Q)
          rw [if_pos e0] at p0
          have p1 := c_within (d := d + 89) (x := y) (a := nI 0) (b := nI 100) (I := I) (R := R) (Q := Q)
          rw [if_neg e1] at p1
          rw [s146]
          simp (disch := first | omega | assumption) only [s146_0, s146_1, s146_4, s146_7, s146_8, s146_9, s146_11, s146_14, s146_17, s146_18, s146_19, s146_21, s146_24, s146_27, s146_28, s146_29, s146_30, s146_33, s146_34, s146_37, s146_38, s146_39, s146_42, nI_le2, nI_lt2, nI_eq2, nI_lt0, nI_0le, nI_0lt, nI_le0, nI_eq0, nI_clamp, nI_add, bu_nI, bb_0, bb_1, rf_s, rf_n, tl_s, tl_n, am_th_some, if_true, if_false, sI_eq, uI_eq, and_self, true_and, and_true, not_false_eq_true, not_true_eq_false, Nat.reduceEqDiff, Nat.reduceLeDiff, Nat.reduceLT, Nat.reduceAdd, Nat.reduceMul, Nat.reduceSub, Nat.zero_add, hL, p0, p1, C.pa.1, C.pa.2.1, C.r9, C.r16, C.r17]
        · have C := get_m (Q := Q) hr h hok
          have hL := C.lun L (d + 89)
          have p0 := m_inX (d := d + 89) (x := x) (lo := nI 0) (hi := nI 8) (I := I) (R := R) (Q := Q)
          rw [if_pos e0] at p0
          have p1 := m_inX (d := d + 89) (x := y) (lo := nI 0) (hi := nI 100) (I := I) (R := R) (Q := Q)
          rw [if_neg e1] at p1
          rw [s266]
          simp (disch := first | omega | assumption) only [s266_0, s266_1, s266_4, s266_7, s266_8, s266_9, s266_11, s266_14, s266_17, s266_18, s266_19, s266_21, s266_24, s266_27, s266_28, s266_29, s266_30, s266_31, s266_34, s266_37, s266_40, s266_41, nI_le2, nI_lt2, nI_eq2, nI_lt0, nI_0le, nI_0lt, nI_le0, nI_eq0, nI_clamp, nI_add, bu_nI, bb_0, bb_1, rf_s, rf_n, tl_s, tl_n, am_th_some, if_true, if_false, sI_eq, uI_eq, and_self, true_and, and_true, not_false_eq_true, not_true_eq_false, Nat.reduceEqDiff, Nat.reduceLeDiff, Nat.reduceLT, Nat.reduceAdd, Nat.reduceMul, Nat.reduceSub, Nat.zero_add, hL, p0, p1]
    · by_cases e1 : nI 0 ≤ y ∧ y ≤ nI 100
      · refine op_k (v := -nI 1) hok (fun d u I R Q h => ?_) (fun d I R Q hr h => ?_)
        · have C := get_c (Q := Q) h hok
          have hL := C.lun L (d + 89)
          have p0 := c_within (d := d + 89) (x := x) (a := nI 0) (b := nI 8) (I := I) (R := R) (Q := Q)
          rw [if_neg e0] at p0
          have p1 := c_within (d := d + 89) (x := y) (a := nI 0) (b := nI 100) (I := I) (R := R) (Q := Q)
          rw [if_pos e1] at p1
          rw [s146]
          simp (disch := first | omega | assumption) only [s146_0, s146_1, s146_4, s146_7, s146_8, s146_9, s146_11, s146_14, s146_17, s146_18, s146_19, s146_21, s146_24, s146_27, s146_28, s146_29, s146_30, s146_33, s146_34, s146_37, s146_38, s146_39, s146_42, nI_le2, nI_lt2, nI_eq2, nI_lt0, nI_0le, nI_0lt, nI_le0, nI_eq0, nI_clamp, nI_add, bu_nI, bb_0, bb_1, rf_s, rf_n, tl_s, tl_n, am_th_some, if_true, if_false, sI_eq, uI_eq, and_self, true_and, and_true, not_false_eq_true, not_true_eq_false, Nat.reduceEqDiff, Nat.reduceLeDiff, Nat.reduceLT, Nat.reduceAdd, Nat.reduceMul, Nat.reduceSub, Nat.zero_add, hL, p0, p1, C.pa.1, C.pa.2.1, C.r9, C.r16, C.r17]
        · have C := get_m (Q := Q) hr h hok
          have hL := C.lun L (d + 89)
          have p0 := m_inX (d := d + 89) (x := x) (lo := nI 0) (hi := nI 8) (I := I) (R := R) (Q := Q)
          rw [if_neg e0] at p0
          have p1 := m_inX (d := d + 89) (x := y) (lo := nI 0) (hi := nI 100) (I := I) (R := R) (Q := Q)
          rw [if_pos e1] at p1
          rw [s266]
          simp (disch := first | omega | assumption) only [s266_0, s266_1, s266_4, s266_7, s266_8, s266_9, s266_11, s266_14, s266_17, s266_18, s266_19, s266_21, s266_24, s266_27, s266_28, s266_29, s266_30, s266_31, s266_34, s266_37, s266_40, s266_41, nI_le2, nI_lt2, nI_eq2, nI_lt0, nI_0le, nI_0lt, nI_le0, nI_eq0, nI_clamp, nI_add, bu_nI, bb_0, bb_1, rf_s, rf_n, tl_s, tl_n, am_th_some, if_true, if_false, sI_eq, uI_eq, and_self, true_and, and_true, not_false_eq_true, not_true_eq_false, Nat.reduceEqDiff, Nat.reduceLeDiff, Nat.reduceLT, Nat.reduceAdd, Nat.reduceMul, Nat.reduceSub, Nat.zero_add, hL, p0, p1]
      · refine op_k (v := -nI 1) hok (fun d u I R Q h => ?_) (fun d I R Q hr h => ?_)
        · have C := get_c (Q := Q) h hok
          have hL := C.lun L (d + 89)
          have p0 := c_within (d := d + 89) (x := x) (a := nI 0) (b := nI 8) (I := I) (R := R) (Q := Q)
          rw [if_neg e0] at p0
          have p1 := c_within (d := d + 89) (x := y) (a := nI 0) (b := nI 100) (I := I) (R := R) (Q := Q)
          rw [if_neg e1] at p1
          rw [s146]
          simp (disch := first | omega | assumption) only [s146_0, s146_1, s146_4, s146_7, s146_8, s146_9, s146_11, s146_14, s146_17, s146_18, s146_19, s146_21, s146_24, s146_27, s146_28, s146_29, s146_30, s146_33, s146_34, s146_37, s146_38, s146_39, s146_42, nI_le2, nI_lt2, nI_eq2, nI_lt0, nI_0le, nI_0lt, nI_le0, nI_eq0, nI_clamp, nI_add, bu_nI, bb_0, bb_1, rf_s, rf_n, tl_s, tl_n, am_th_some, if_true, if_false, sI_eq, uI_eq, and_self, true_and, and_true, not_false_eq_true, not_true_eq_false, Nat.reduceEqDiff, Nat.reduceLeDiff, Nat.reduceLT, Nat.reduceAdd, Nat.reduceMul, Nat.reduceSub, Nat.zero_add, hL, p0, p1, C.pa.1, C.pa.2.1, C.r9, C.r16, C.r17]
        · have C := get_m (Q := Q) hr h hok
          have hL := C.lun L (d + 89)
          have p0 := m_inX (d := d + 89) (x := x) (lo := nI 0) (hi := nI 8) (I := I) (R := R) (Q := Q)
          rw [if_neg e0] at p0
          have p1 := m_inX (d := d + 89) (x := y) (lo := nI 0) (hi := nI 100) (I := I) (R := R) (Q := Q)
          rw [if_neg e1] at p1
          rw [s266]
          simp (disch := first | omega | assumption) only [s266_0, s266_1, s266_4, s266_7, s266_8, s266_9, s266_11, s266_14, s266_17, s266_18, s266_19, s266_21, s266_24, s266_27, s266_28, s266_29, s266_30, s266_31, s266_34, s266_37, s266_40, s266_41, nI_le2, nI_lt2, nI_eq2, nI_lt0, nI_0le, nI_0lt, nI_le0, nI_eq0, nI_clamp, nI_add, bu_nI, bb_0, bb_1, rf_s, rf_n, tl_s, tl_n, am_th_some, if_true, if_false, sI_eq, uI_eq, and_self, true_and, and_true, not_false_eq_true, not_true_eq_false, Nat.reduceEqDiff, Nat.reduceLeDiff, Nat.reduceLT, Nat.reduceAdd, Nat.reduceMul, Nat.reduceSub, Nat.zero_add, hL, p0, p1]
theorem op_weak (hok : rel_ok s) : op1 139 257 [.int x, .int y] s := by
  obtain ⟨tp, w, st, rf, o⟩ := s
  cases o with
  | none =>
    refine op_k (v := -nI 1) hok (fun d u I R Q h => ?_) (fun d I R Q hr h => ?_)
    · have C := get_nc h
      have hL := C.lun (Q := Q) (d + 89)
      have r10 := C.pa.2.1
      rw [s139]
      simp (disch := first | omega | assumption) only [s139_0, s139_1, s139_4, s139_7, s139_8, s139_9, s139_10, s139_13, s139_16, s139_17, s139_20, s139_21, s139_24, s139_27, s139_28, s139_29, s139_32, s139_35, s139_36, nI_le2, nI_lt2, nI_eq2, nI_lt0, nI_0le, nI_0lt, nI_le0, nI_eq0, nI_clamp, nI_add, bu_nI, bb_0, bb_1, rf_s, rf_n, tl_s, tl_n, am_th_some, if_true, if_false, sI_eq, uI_eq, and_self, true_and, and_true, not_false_eq_true, not_true_eq_false, Nat.reduceEqDiff, Nat.reduceLeDiff, Nat.reduceLT, Nat.reduceAdd, Nat.reduceMul, Nat.reduceSub, Nat.zero_add, hL, r10]
    · have C := get_nm h
      have hL := C.lun (R := R) (Q := Q) (d + 88)
      have hp0 := fun x => m_power0 (d := d + 87) (R := R) (Q := Q) (x := x) C.hc
      rw [s257]
      simp (disch := first | omega | assumption) only [s257_0, s257_1, s257_2, s257_5, s257_8, s257_9, s257_10, s257_13, s257_14, s257_15, s257_16, s257_17, s257_18, s257_19, s257_20, s257_23, s257_25, s257_27, s257_28, s257_31, s257_32, s257_33, s257_36, s257_38, s257_39, s257_42, s257_43, s257_44, s257_46, s257_49, s257_51, s257_54, s257_55, s257_56, s257_59, s257_60, s257_63, s257_64, nI_le2, nI_lt2, nI_eq2, nI_lt0, nI_0le, nI_0lt, nI_le0, nI_eq0, nI_clamp, nI_add, bu_nI, bb_0, bb_1, rf_s, rf_n, tl_s, tl_n, am_th_some, if_true, if_false, sI_eq, uI_eq, and_self, true_and, and_true, not_false_eq_true, not_true_eq_false, Nat.reduceEqDiff, Nat.reduceLeDiff, Nat.reduceLT, Nat.reduceAdd, Nat.reduceMul, Nat.reduceSub, Nat.zero_add, hL, hp0, s256, s256_0, s256_1, s256_4, s256_7, s256_8, s256_9, s256_10, s256_13, s256_16, s256_17, s256_20, s256_21]
  | some l =>
    obtain ⟨E, k, PK, tk, EL, im, ⟨k0, N0⟩, k1, N1⟩ := l
    have L := get_l hok
    by_cases e0 : nI 1 ≤ x ∧ x ≤ nI 2
    · obtain ⟨c0, l0, h0, rfl⟩ := in_nat1 (by decide) e0
      refine op_q (v := sp_weak (sp_fit k0 N0 c0 (zn E)) y) hok (fun d u I R Q h => ?_) (fun d I R Q hr h => ?_)
      · have C := get_c (Q := Q) h hok
        have hL := C.lun L (d + 89)
        have p0 := c_within (d := d + 89) (x := (nI c0)) (a := nI 1) (b := nI 2) (I := I) (R := R) (Q := Q)
        rw [if_pos e0] at p0
        have hn := (hok.2.2.2 _ rfl).2.2.2.2.1
        obtain ⟨-, -, -, -, -, n8, n9⟩ := h
        obtain ⟨J, g1, g2, -⟩ := c_weakCells (d := d + 88) (R := R) (Q := Q) (i := y) C.n0 hn n8 L.n25 (show c0 = 1 ∨ c0 = 2 by omega)
        replace g1 : am_cal (d + 89) _ _ _ _ _ = _ := g1
        refine ⟨J, ?_, fr_mo g2 fun a b j => ntq⟩
        rw [s139]
        simp (disch := first | omega | assumption) only [s139_0, s139_1, s139_4, s139_7, s139_8, s139_9, s139_10, s139_13, s139_16, s139_17, s139_20, s139_21, s139_24, s139_27, s139_28, s139_29, s139_32, s139_35, s139_36, nI_le2, nI_lt2, nI_eq2, nI_lt0, nI_0le, nI_0lt, nI_le0, nI_eq0, nI_clamp, nI_add, bu_nI, bb_0, bb_1, rf_s, rf_n, tl_s, tl_n, am_th_some, if_true, if_false, sI_eq, uI_eq, and_self, true_and, and_true, not_false_eq_true, not_true_eq_false, Nat.reduceEqDiff, Nat.reduceLeDiff, Nat.reduceLT, Nat.reduceAdd, Nat.reduceMul, Nat.reduceSub, Nat.zero_add, hL, p0, C.pa.1, C.pa.2.1, C.r9, C.r16, C.r17, g1, C.h4]
      · have C := get_m (Q := Q) hr h hok
        have hL := C.lun L (d + 88)
        have p0 := m_inX (d := d + 88) (x := (nI c0)) (lo := nI 1) (hi := nI 2) (I := I) (R := R) (Q := Q)
        rw [if_pos e0] at p0
        have hn := (hok.2.2.2 _ rfl).2.2.2.2.1
        obtain ⟨-, -, -, -, n8, n9⟩ := h
        have g1 := m_weak (d := d + 87) (Q := Q) (i := y) hr hn n8 L.n25 L.n1 C.hc (show c0 = 1 ∨ c0 = 2 by omega)
        exact ⟨I, g1, fr_rf, C.mm⟩
    · refine op_k (v := -nI 1) hok (fun d u I R Q h => ?_) (fun d I R Q hr h => ?_)
      · have C := get_c (Q := Q) h hok
        have hL := C.lun L (d + 89)
        have p0 := c_within (d := d + 89) (x := x) (a := nI 1) (b := nI 2) (I := I) (R := R) (Q := Q)
        rw [if_neg e0] at p0
        rw [s139]
        simp (disch := first | omega | assumption) only [s139_0, s139_1, s139_4, s139_7, s139_8, s139_9, s139_10, s139_13, s139_16, s139_17, s139_20, s139_21, s139_24, s139_27, s139_28, s139_29, s139_32, s139_35, s139_36, nI_le2, nI_lt2, nI_eq2, nI_lt0, nI_0le, nI_0lt, nI_le0, nI_eq0, nI_clamp, nI_add, bu_nI, bb_0, bb_1, rf_s, rf_n, tl_s, tl_n, am_th_some, if_true, if_false, sI_eq, uI_eq, and_self, true_and, and_true, not_false_eq_true, not_true_eq_false, Nat.reduceEqDiff, Nat.reduceLeDiff, Nat.reduceLT, Nat.reduceAdd, Nat.reduceMul, Nat.reduceSub, Nat.zero_add, hL, p0, C.pa.1, C.pa.2.1, C.r9, C.r16, C.r17]
      · have C := get_m (Q := Q) hr h hok
        have hL := C.lun L (d + 88)
        have p0 := m_inX (d := d + 88) (x := x) (lo := nI 1) (hi := nI 2) (I := I) (R := R) (Q := Q)
        rw [if_neg e0] at p0
        rw [s257]
        simp (disch := first | omega | assumption) only [s257_0, s257_1, s257_2, s257_5, s257_8, s257_9, s257_10, s257_13, s257_14, s257_15, s257_16, s257_17, s257_18, s257_19, s257_20, s257_23, s257_25, s257_27, s257_28, s257_31, s257_32, s257_33, s257_36, s257_38, s257_39, s257_42, s257_43, s257_44, s257_46, s257_49, s257_51, s257_54, s257_55, s257_56, s257_59, s257_60, s257_63, s257_64, nI_le2, nI_lt2, nI_eq2, nI_lt0, nI_0le, nI_0lt, nI_le0, nI_eq0, nI_clamp, nI_add, bu_nI, bb_0, bb_1, rf_s, rf_n, tl_s, tl_n, am_th_some, if_true, if_false, sI_eq, uI_eq, and_self, true_and, and_true, not_false_eq_true, not_true_eq_false, Nat.reduceEqDiff, Nat.reduceLeDiff, Nat.reduceLT, Nat.reduceAdd, Nat.reduceMul, Nat.reduceSub, Nat.zero_add, hL, p0, s256, s256_0, s256_1, s256_4, s256_7, s256_8, s256_9, s256_10, s256_13, s256_16, s256_17, s256_20, s256_21]
theorem op_best (hok : rel_ok s) : op1 140 258 [.int x] s := by
  obtain ⟨tp, w, st, rf, o⟩ := s
  cases o with
  | none =>
    refine op_k (v := -nI 1) hok (fun d u I R Q h => ?_) (fun d I R Q hr h => ?_)
    · have C := get_nc h
      have hL := C.lun (Q := Q) (d + 89)
      have r10 := C.pa.2.1
      rw [s140]
      simp (disch := first | omega | assumption) only [s140_0, s140_1, s140_4, s140_7, s140_8, s140_9, s140_10, s140_13, s140_16, s140_17, s140_20, s140_21, s140_24, s140_27, s140_28, s140_31, s140_34, s140_35, nI_le2, nI_lt2, nI_eq2, nI_lt0, nI_0le, nI_0lt, nI_le0, nI_eq0, nI_clamp, nI_add, bu_nI, bb_0, bb_1, rf_s, rf_n, tl_s, tl_n, am_th_some, if_true, if_false, sI_eq, uI_eq, and_self, true_and, and_true, not_false_eq_true, not_true_eq_false, Nat.reduceEqDiff, Nat.reduceLeDiff, Nat.reduceLT, Nat.reduceAdd, Nat.reduceMul, Nat.reduceSub, Nat.zero_add, hL, r10]
    · have C := get_nm h
      have hL := C.lun (R := R) (Q := Q) (d + 88)
      have hp0 := fun x => m_power0 (d := d + 87) (R := R) (Q := Q) (x := x) C.hc
      rw [s258]
      simp (disch := first | omega | assumption) only [s258_0, s258_1, s258_2, s258_5, s258_8, s258_9, s258_10, s258_11, s258_14, s258_15, s258_18, s258_19, s258_20, s258_21, s258_22, s258_23, s258_24, s258_25, s258_27, s258_29, s258_30, s258_33, s258_36, s258_37, s258_39, s258_40, s258_41, s258_42, s258_45, s258_47, s258_49, s258_50, s258_53, s258_55, s258_57, s258_59, s258_62, s258_65, s258_66, s258_69, s258_70, s258_71, s258_73, s258_74, s258_75, s258_77, s258_80, s258_82, s258_85, s258_86, s258_87, s258_90, s258_92, s258_95, s258_96, s258_99, s258_101, s258_102, s258_104, s258_107, s258_108, s258_111, s258_114, s258_115, nI_le2, nI_lt2, nI_eq2, nI_lt0, nI_0le, nI_0lt, nI_le0, nI_eq0, nI_clamp, nI_add, bu_nI, bb_0, bb_1, rf_s, rf_n, tl_s, tl_n, am_th_some, if_true, if_false, sI_eq, uI_eq, and_self, true_and, and_true, not_false_eq_true, not_true_eq_false, Nat.reduceEqDiff, Nat.reduceLeDiff, Nat.reduceLT, Nat.reduceAdd, Nat.reduceMul, Nat.reduceSub, Nat.zero_add, hL, hp0, s256, s256_0, s256_1, s256_4, s256_7, s256_8, s256_9, s256_10, s256_13, s256_16, s256_17, s256_20, s256_21]
  | some l =>
    obtain ⟨E, k, PK, tk, EL, im, ⟨k0, N0⟩, k1, N1⟩ := l
    have L := get_l hok
    by_cases e0 : nI 1 ≤ x ∧ x ≤ nI 2
    · obtain ⟨c0, l0, h0, rfl⟩ := in_nat1 (by decide) e0
      refine op_q (v := sp_best (sp_fit k0 N0 c0 (zn E)) (zn E)) hok (fun d u I R Q h => ?_) (fun d I R Q hr h => ?_)
      · have C := get_c (Q := Q) h hok
        have hL := C.lun L (d + 89)
        have p0 := c_within (d := d + 89) (x := (nI c0)) (a := nI 1) (b := nI 2) (I := I) (R := R) (Q := Q)
        rw [if_pos e0] at p0
        have hn := (hok.2.2.2 _ rfl).2.2.2.2.1
        obtain ⟨-, -, -, -, -, n8, n9⟩ := h
        obtain ⟨J, g1, g2⟩ := c_whereToLook (d := d + 87) (R := R) (Q := Q) C.n0 hn n8 L.n25 (show c0 = 1 ∨ c0 = 2 by omega)
        replace g1 : am_cal (d + 89) _ _ _ _ _ = _ := g1
        refine ⟨J, ?_, fr_mo g2 fun a b j => ntq⟩
        rw [s140]
        simp (disch := first | omega | assumption) only [s140_0, s140_1, s140_4, s140_7, s140_8, s140_9, s140_10, s140_13, s140_16, s140_17, s140_20, s140_21, s140_24, s140_27, s140_28, s140_31, s140_34, s140_35, nI_le2, nI_lt2, nI_eq2, nI_lt0, nI_0le, nI_0lt, nI_le0, nI_eq0, nI_clamp, nI_add, bu_nI, bb_0, bb_1, rf_s, rf_n, tl_s, tl_n, am_th_some, if_true, if_false, sI_eq, uI_eq, and_self, true_and, and_true, not_false_eq_true, not_true_eq_false, Nat.reduceEqDiff, Nat.reduceLeDiff, Nat.reduceLT, Nat.reduceAdd, Nat.reduceMul, Nat.reduceSub, Nat.zero_add, hL, p0, C.pa.1, C.pa.2.1, C.r9, C.r16, C.r17, g1, C.h4]
      · have C := get_m (Q := Q) hr h hok
        have hL := C.lun L (d + 88)
        have p0 := m_inX (d := d + 88) (x := (nI c0)) (lo := nI 1) (hi := nI 2) (I := I) (R := R) (Q := Q)
        rw [if_pos e0] at p0
        have hn := (hok.2.2.2 _ rfl).2.2.2.2.1
        obtain ⟨-, -, -, -, n8, n9⟩ := h
        have g1 := m_best (d := d + 87) (Q := Q) hr hn n8 L.n25 L.n1 C.hc (show c0 = 1 ∨ c0 = 2 by omega)
        exact ⟨I, g1, fr_rf, C.mm⟩
    · refine op_k (v := -nI 1) hok (fun d u I R Q h => ?_) (fun d I R Q hr h => ?_)
      · have C := get_c (Q := Q) h hok
        have hL := C.lun L (d + 89)
        have p0 := c_within (d := d + 89) (x := x) (a := nI 1) (b := nI 2) (I := I) (R := R) (Q := Q)
        rw [if_neg e0] at p0
        rw [s140]
        simp (disch := first | omega | assumption) only [s140_0, s140_1, s140_4, s140_7, s140_8, s140_9, s140_10, s140_13, s140_16, s140_17, s140_20, s140_21, s140_24, s140_27, s140_28, s140_31, s140_34, s140_35, nI_le2, nI_lt2, nI_eq2, nI_lt0, nI_0le, nI_0lt, nI_le0, nI_eq0, nI_clamp, nI_add, bu_nI, bb_0, bb_1, rf_s, rf_n, tl_s, tl_n, am_th_some, if_true, if_false, sI_eq, uI_eq, and_self, true_and, and_true, not_false_eq_true, not_true_eq_false, Nat.reduceEqDiff, Nat.reduceLeDiff, Nat.reduceLT, Nat.reduceAdd, Nat.reduceMul, Nat.reduceSub, Nat.zero_add, hL, p0, C.pa.1, C.pa.2.1, C.r9, C.r16, C.r17]
      · have C := get_m (Q := Q) hr h hok
        have hL := C.lun L (d + 88)
        have p0 := m_inX (d := d + 88) (x := x) (lo := nI 1) (hi := nI 2) (I := I) (R := R) (Q := Q)
        rw [if_neg e0] at p0
        rw [s258]
        simp (disch := first | omega | assumption) only [s258_0, s258_1, s258_2, s258_5, s258_8, s258_9, s258_10, s258_11, s258_14, s258_15, s258_18, s258_19, s258_20, s258_21, s258_22, s258_23, s258_24, s258_25, s258_27, s258_29, s258_30, s258_33, s258_36, s258_37, s258_39, s258_40, s258_41, s258_42, s258_45, s258_47, s258_49, s258_50, s258_53, s258_55, s258_57, s258_59, s258_62, s258_65, s258_66, s258_69, s258_70, s258_71, s258_73, s258_74, s258_75, s258_77, s258_80, s258_82, s258_85, s258_86, s258_87, s258_90, s258_92, s258_95, s258_96, s258_99, s258_101, s258_102, s258_104, s258_107, s258_108, s258_111, s258_114, s258_115, nI_le2, nI_lt2, nI_eq2, nI_lt0, nI_0le, nI_0lt, nI_le0, nI_eq0, nI_clamp, nI_add, bu_nI, bb_0, bb_1, rf_s, rf_n, tl_s, tl_n, am_th_some, if_true, if_false, sI_eq, uI_eq, and_self, true_and, and_true, not_false_eq_true, not_true_eq_false, Nat.reduceEqDiff, Nat.reduceLeDiff, Nat.reduceLT, Nat.reduceAdd, Nat.reduceMul, Nat.reduceSub, Nat.zero_add, hL, p0, s256, s256_0, s256_1, s256_4, s256_7, s256_8, s256_9, s256_10, s256_13, s256_16, s256_17, s256_20, s256_21]
theorem op_together (hok : rel_ok s) : op1 143 263 [.int x] s := by
  obtain ⟨tp, w, st, rf, o⟩ := s
  cases o with
  | none =>
    refine op_k (v := -nI 1) hok (fun d u I R Q h => ?_) (fun d I R Q hr h => ?_)
    · have C := get_nc h
      have hL := C.lun (Q := Q) (d + 89)
      have r10 := C.pa.2.1
      rw [s143]
      simp (disch := first | omega | assumption) only [s143_0, s143_1, s143_4, s143_7, s143_8, s143_9, s143_10, s143_13, s143_16, s143_17, s143_20, s143_23, s143_24, s143_27, s143_30, s143_31, nI_le2, nI_lt2, nI_eq2, nI_lt0, nI_0le, nI_0lt, nI_le0, nI_eq0, nI_clamp, nI_add, bu_nI, bb_0, bb_1, rf_s, rf_n, tl_s, tl_n, am_th_some, if_true, if_false, sI_eq, uI_eq, and_self, true_and, and_true, not_false_eq_true, not_true_eq_false, Nat.reduceEqDiff, Nat.reduceLeDiff, Nat.reduceLT, Nat.reduceAdd, Nat.reduceMul, Nat.reduceSub, Nat.zero_add, hL, r10]
    · have C := get_nm h
      have hL := C.lun (R := R) (Q := Q) (d + 89)
      have hp0 := fun x => m_power0 (d := d + 88) (R := R) (Q := Q) (x := x) C.hc
      rw [s263]
      simp (disch := first | omega | assumption) only [s263_0, s263_1, s263_4, s263_7, s263_8, s263_9, s263_10, s263_13, s263_16, s263_17, s263_18, s263_19, s263_20, s263_23, s263_24, s263_25, s263_26, s263_27, s263_28, s263_29, s263_32, s263_33, s263_34, s263_36, s263_38, s263_39, s263_42, s263_43, s263_44, s263_47, s263_48, s263_49, s263_51, s263_54, s263_55, s263_56, s263_58, s263_59, s263_60, s263_61, s263_64, s263_67, s263_70, s263_71, s263_74, s263_77, s263_78, nI_le2, nI_lt2, nI_eq2, nI_lt0, nI_0le, nI_0lt, nI_le0, nI_eq0, nI_clamp, nI_add, bu_nI, bb_0, bb_1, rf_s, rf_n, tl_s, tl_n, am_th_some, if_true, if_false, sI_eq, uI_eq, and_self, true_and, and_true, not_false_eq_true, not_true_eq_false, Nat.reduceEqDiff, Nat.reduceLeDiff, Nat.reduceLT, Nat.reduceAdd, Nat.reduceMul, Nat.reduceSub, Nat.zero_add, hL, hp0]
  | some l =>
    obtain ⟨E, k, PK, tk, EL, im, ⟨k0, N0⟩, k1, N1⟩ := l
    have L := get_l hok
    by_cases e0 : nI 1 ≤ x ∧ x ≤ nI 2
    · obtain ⟨c0, l0, h0, rfl⟩ := in_nat1 (by decide) e0
      refine op_q (v := if c0 = 2 then sp_tg (zD E.2.2.2.2 0) E.2.2.2.2.length else nI (sp_tn (zD E.2.2.2.2 0) (2 ^ E.2.2.2.2.length - 1) E.2.2.2.2.length)) hok (fun d u I R Q h => ?_) (fun d I R Q hr h => ?_)
      · have C := get_c (Q := Q) h hok
        have hL := C.lun L (d + 89)
        have p0 := c_within (d := d + 89) (x := (nI c0)) (a := nI 1) (b := nI 2) (I := I) (R := R) (Q := Q)
        rw [if_pos e0] at p0
        have hd := D_ok (hok.2.2.2 _ rfl).1.1
        obtain ⟨-, -, ⟨-, -, -, -, l5⟩, -⟩ := h
        have g1 := c_together (d := d + 88) (R := R) (Q := Q) C.ds l5 hd (show c0 = 1 ∨ c0 = 2 by omega)
        refine ⟨I, ?_, fr_rf⟩
        rw [s143]
        simp (disch := first | omega | assumption) only [s143_0, s143_1, s143_4, s143_7, s143_8, s143_9, s143_10, s143_13, s143_16, s143_17, s143_20, s143_23, s143_24, s143_27, s143_30, s143_31, nI_le2, nI_lt2, nI_eq2, nI_lt0, nI_0le, nI_0lt, nI_le0, nI_eq0, nI_clamp, nI_add, bu_nI, bb_0, bb_1, rf_s, rf_n, tl_s, tl_n, am_th_some, if_true, if_false, sI_eq, uI_eq, and_self, true_and, and_true, not_false_eq_true, not_true_eq_false, Nat.reduceEqDiff, Nat.reduceLeDiff, Nat.reduceLT, Nat.reduceAdd, Nat.reduceMul, Nat.reduceSub, Nat.zero_add, hL, p0, C.pa.1, C.pa.2.1, C.r9, C.r16, C.r17, g1, C.kk.1]
      · have C := get_m (Q := Q) hr h hok
        have hL := C.lun L (d + 89)
        have p0 := m_inX (d := d + 89) (x := (nI c0)) (lo := nI 1) (hi := nI 2) (I := I) (R := R) (Q := Q)
        rw [if_pos e0] at p0
        have hd := D_ok (hok.2.2.2 _ rfl).1.1
        obtain ⟨-, ⟨-, -, -, l5⟩, -⟩ := h
        have g1 := m_together (d := d + 88) (Q := Q) hr l5 hd C.hc L.n1 L.n25 (show c0 = 1 ∨ c0 = 2 by omega)
        exact ⟨I, g1, fr_rf, C.mm⟩
    · refine op_k (v := -nI 1) hok (fun d u I R Q h => ?_) (fun d I R Q hr h => ?_)
      · have C := get_c (Q := Q) h hok
        have hL := C.lun L (d + 89)
        have p0 := c_within (d := d + 89) (x := x) (a := nI 1) (b := nI 2) (I := I) (R := R) (Q := Q)
        rw [if_neg e0] at p0
        rw [s143]
        simp (disch := first | omega | assumption) only [s143_0, s143_1, s143_4, s143_7, s143_8, s143_9, s143_10, s143_13, s143_16, s143_17, s143_20, s143_23, s143_24, s143_27, s143_30, s143_31, nI_le2, nI_lt2, nI_eq2, nI_lt0, nI_0le, nI_0lt, nI_le0, nI_eq0, nI_clamp, nI_add, bu_nI, bb_0, bb_1, rf_s, rf_n, tl_s, tl_n, am_th_some, if_true, if_false, sI_eq, uI_eq, and_self, true_and, and_true, not_false_eq_true, not_true_eq_false, Nat.reduceEqDiff, Nat.reduceLeDiff, Nat.reduceLT, Nat.reduceAdd, Nat.reduceMul, Nat.reduceSub, Nat.zero_add, hL, p0, C.pa.1, C.pa.2.1, C.r9, C.r16, C.r17]
      · have C := get_m (Q := Q) hr h hok
        have hL := C.lun L (d + 89)
        have p0 := m_inX (d := d + 89) (x := x) (lo := nI 1) (hi := nI 2) (I := I) (R := R) (Q := Q)
        rw [if_neg e0] at p0
        rw [s263]
        simp (disch := first | omega | assumption) only [s263_0, s263_1, s263_4, s263_7, s263_8, s263_9, s263_10, s263_13, s263_16, s263_17, s263_18, s263_19, s263_20, s263_23, s263_24, s263_25, s263_26, s263_27, s263_28, s263_29, s263_32, s263_33, s263_34, s263_36, s263_38, s263_39, s263_42, s263_43, s263_44, s263_47, s263_48, s263_49, s263_51, s263_54, s263_55, s263_56, s263_58, s263_59, s263_60, s263_61, s263_64, s263_67, s263_70, s263_71, s263_74, s263_77, s263_78, nI_le2, nI_lt2, nI_eq2, nI_lt0, nI_0le, nI_0lt, nI_le0, nI_eq0, nI_clamp, nI_add, bu_nI, bb_0, bb_1, rf_s, rf_n, tl_s, tl_n, am_th_some, if_true, if_false, sI_eq, uI_eq, and_self, true_and, and_true, not_false_eq_true, not_true_eq_false, Nat.reduceEqDiff, Nat.reduceLeDiff, Nat.reduceLT, Nat.reduceAdd, Nat.reduceMul, Nat.reduceSub, Nat.zero_add, hL, p0]
theorem op_order (hok : rel_ok s) : op1 142 261 [.int x] s := by
  obtain ⟨tp, w, st, rf, o⟩ := s
  cases o with
  | none =>
    refine op_k (v := -nI 1) hok (fun d u I R Q h => ?_) (fun d I R Q hr h => ?_)
    · have C := get_nc h
      have hL := C.lun (Q := Q) (d + 89)
      have r10 := C.pa.2.1
      rw [s142]
      simp (disch := first | omega | assumption) only [s142_0, s142_1, s142_4, s142_7, s142_8, s142_9, s142_10, s142_13, s142_16, s142_17, s142_18, s142_19, s142_22, s142_25, s142_28, s142_29, s142_32, s142_33, s142_36, s142_39, s142_42, s142_45, s142_46, s142_49, s142_52, s142_55, nI_le2, nI_lt2, nI_eq2, nI_lt0, nI_0le, nI_0lt, nI_le0, nI_eq0, nI_clamp, nI_add, bu_nI, bb_0, bb_1, rf_s, rf_n, tl_s, tl_n, am_th_some, if_true, if_false, sI_eq, uI_eq, and_self, true_and, and_true, not_false_eq_true, not_true_eq_false, Nat.reduceEqDiff, Nat.reduceLeDiff, Nat.reduceLT, Nat.reduceAdd, Nat.reduceMul, Nat.reduceSub, Nat.zero_add, hL, r10]
    · have C := get_nm h
      have hL := C.lun (R := R) (Q := Q) (d + 89)
      have hp0 := fun x => m_power0 (d := d + 88) (R := R) (Q := Q) (x := x) C.hc
      rw [s261]
      simp (disch := first | omega | assumption) only [s261_0, s261_1, s261_4, s261_7, s261_8, s261_9, s261_10, s261_13, s261_16, s261_17, s261_18, s261_19, s261_20, s261_23, s261_24, s261_25, s261_28, s261_29, s261_30, s261_31, s261_32, s261_33, s261_36, s261_37, s261_40, s261_41, s261_44, s261_47, s261_48, s261_51, nI_le2, nI_lt2, nI_eq2, nI_lt0, nI_0le, nI_0lt, nI_le0, nI_eq0, nI_clamp, nI_add, bu_nI, bb_0, bb_1, rf_s, rf_n, tl_s, tl_n, am_th_some, if_true, if_false, sI_eq, uI_eq, and_self, true_and, and_true, not_false_eq_true, not_true_eq_false, Nat.reduceEqDiff, Nat.reduceLeDiff, Nat.reduceLT, Nat.reduceAdd, Nat.reduceMul, Nat.reduceSub, Nat.zero_add, hL, hp0]
  | some l =>
    obtain ⟨E, k, PK, tk, EL, im, ⟨k0, N0⟩, k1, N1⟩ := l
    have L := get_l hok
    by_cases e0 : nI 0 ≤ x ∧ x ≤ nI 1
    · obtain ⟨c0, h0, rfl⟩ := in_nat (by decide) e0
      have hd := D_ok (hok.2.2.2 _ rfl).1.1
      obtain ⟨a, ha⟩ := try_some (zD E.2.2.2.2 0) (zD E.2.2.2.2 1) E.2.2.2.2.length E.2.2.2.2.length 0 0 0 0 none (un_0 _) (Nat.two_pow_pos _)
      refine op_q (v := sp_ord (some a) c0) hok (fun d u I R Q h => ?_) (fun d I R Q hr h => ?_)
      · have C := get_c (Q := Q) h hok
        have hL := C.lun L (d + 89)
        have p0 := c_within (d := d + 89) (x := (nI c0)) (a := nI 0) (b := nI 1) (I := I) (R := R) (Q := Q)
        rw [if_pos e0] at p0
        obtain ⟨-, -, ⟨-, -, -, -, l5⟩, -⟩ := h
        obtain ⟨J, g1, g2, g3⟩ := c_findOrder (d := d + 82) (Q := Q) C.ds hd l5
        replace g1 : am_cal (d + 89) _ _ _ _ _ = _ := g1
        rw [ha] at g3
        obtain ⟨-, o8, o7⟩ := g3
        have hv : sp_ord (some a) c0 = if c0 = 0 then nI a.2 else nI a.1 := rfl
        rw [hv]
        have gk := C.kk.1
        refine ⟨J, ?_, fr_mo g2 fun a b j => coq⟩
        rw [s142]
        simp (disch := first | omega | assumption) only [s142_0, s142_1, s142_4, s142_7, s142_8, s142_9, s142_10, s142_13, s142_16, s142_17, s142_18, s142_19, s142_22, s142_25, s142_28, s142_29, s142_32, s142_33, s142_36, s142_39, s142_42, s142_45, s142_46, s142_49, s142_52, s142_55, nI_le2, nI_lt2, nI_eq2, nI_lt0, nI_0le, nI_0lt, nI_le0, nI_eq0, nI_clamp, nI_add, bu_nI, bb_0, bb_1, rf_s, rf_n, tl_s, tl_n, am_th_some, if_true, if_false, sI_eq, uI_eq, and_self, true_and, and_true, not_false_eq_true, not_true_eq_false, Nat.reduceEqDiff, Nat.reduceLeDiff, Nat.reduceLT, Nat.reduceAdd, Nat.reduceMul, Nat.reduceSub, Nat.zero_add, hL, p0, C.pa.1, C.pa.2.1, C.r9, C.r16, C.r17, g1, gk, o7, o8]
        rcases (show c0 = 0 ∨ c0 = 1 by omega) with rfl | rfl <;> rfl
      · have C := get_m (Q := Q) hr h hok
        have hL := C.lun L (d + 89)
        have p0 := m_inX (d := d + 89) (x := (nI c0)) (lo := nI 0) (hi := nI 1) (I := I) (R := R) (Q := Q)
        rw [if_pos e0] at p0
        obtain ⟨-, ⟨-, -, -, l5⟩, -⟩ := h
        obtain ⟨J, g1, g2⟩ := m_order (d := d + 82) (Q := Q) hr l5 hd C.hc L.n1 L.n25 h0
        rw [ha] at g1
        exact ⟨J, g1, fr_mo g2 fun a b j => moq, mm_fr C.mm g2 (fun j _ w => by unfold mo_S at w; omega) (fun w => by unfold mo_S at w; omega)⟩
    · refine op_k (v := -nI 1) hok (fun d u I R Q h => ?_) (fun d I R Q hr h => ?_)
      · have C := get_c (Q := Q) h hok
        have hL := C.lun L (d + 89)
        have p0 := c_within (d := d + 89) (x := x) (a := nI 0) (b := nI 1) (I := I) (R := R) (Q := Q)
        rw [if_neg e0] at p0
        rw [s142]
        simp (disch := first | omega | assumption) only [s142_0, s142_1, s142_4, s142_7, s142_8, s142_9, s142_10, s142_13, s142_16, s142_17, s142_18, s142_19, s142_22, s142_25, s142_28, s142_29, s142_32, s142_33, s142_36, s142_39, s142_42, s142_45, s142_46, s142_49, s142_52, s142_55, nI_le2, nI_lt2, nI_eq2, nI_lt0, nI_0le, nI_0lt, nI_le0, nI_eq0, nI_clamp, nI_add, bu_nI, bb_0, bb_1, rf_s, rf_n, tl_s, tl_n, am_th_some, if_true, if_false, sI_eq, uI_eq, and_self, true_and, and_true, not_false_eq_true, not_true_eq_false, Nat.reduceEqDiff, Nat.reduceLeDiff, Nat.reduceLT, Nat.reduceAdd, Nat.reduceMul, Nat.reduceSub, Nat.zero_add, hL, p0, C.pa.1, C.pa.2.1, C.r9, C.r16, C.r17]
      · have C := get_m (Q := Q) hr h hok
        have hL := C.lun L (d + 89)
        have p0 := m_inX (d := d + 89) (x := x) (lo := nI 0) (hi := nI 1) (I := I) (R := R) (Q := Q)
        rw [if_neg e0] at p0
        rw [s261]
        simp (disch := first | omega | assumption) only [s261_0, s261_1, s261_4, s261_7, s261_8, s261_9, s261_10, s261_13, s261_16, s261_17, s261_18, s261_19, s261_20, s261_23, s261_24, s261_25, s261_28, s261_29, s261_30, s261_31, s261_32, s261_33, s261_36, s261_37, s261_40, s261_41, s261_44, s261_47, s261_48, s261_51, nI_le2, nI_lt2, nI_eq2, nI_lt0, nI_0le, nI_0lt, nI_le0, nI_eq0, nI_clamp, nI_add, bu_nI, bb_0, bb_1, rf_s, rf_n, tl_s, tl_n, am_th_some, if_true, if_false, sI_eq, uI_eq, and_self, true_and, and_true, not_false_eq_true, not_true_eq_false, Nat.reduceEqDiff, Nat.reduceLeDiff, Nat.reduceLT, Nat.reduceAdd, Nat.reduceMul, Nat.reduceSub, Nat.zero_add, hL, p0]
end
