/-! Queries, part two: what is found apart. -/
section
variable {d n b m q f : Nat} {I : am_I} {R : am_R} {Q : am_Q} {P : Nat → Nat → Int32} {T : pl_T} {u : Nat} {s : zSt} {x y z : Int32}
/-- the first row of steps -/
def sp_fr (T : pl_T) (full sf : Int32) (n f : Nat) (P : Nat → Nat → Int32) (k x : Nat) : Prop := k < 7 ∧ (∀ j, j < k → sp_row T full sf n f j P = none) ∧ sp_row T full sf n f k P = some x
theorem fr_uni {full sf : Int32} {k x k' x' : Nat} (h : sp_fr T full sf n f P k x) (h' : sp_fr T full sf n f P k' x') : k = k' ∧ x = x' := by
  obtain ⟨a1, a2, a3⟩ := h
  obtain ⟨b1, b2, b3⟩ := h'
  have e : k = k' := by
    rcases Nat.lt_trichotomy k k' with g | g | g
    · rw [b2 k g] at a3; cases a3
    · exact g
    · rw [a2 k' g] at b3; cases b3
  subst e
  rw [a3] at b3
  cases b3
  exact ⟨rfl, rfl⟩
theorem fr_no {full sf : Int32} {k x : Nat} (h : sp_fr T full sf n f P k x) (h' : ∀ k, k < 7 → sp_row T full sf n f k P = none) : False := by
  have := h.2.2
  rw [h' k h.1] at this
  cases this
theorem m_heatsC (hr : mm_R R) (hT : mT T n b R Q I) (hk : kT T n b) (hI : pt_I n b m P) (hm : m < 2 ^ 28) (hq : q ≤ 9) (hP : mm_at I P) {c cnt : Nat} (hc : cnt ≤ 60) (hn2 : n ≤ 25) (hcn : c < n) {l1 l2 : Value} : ∃ J, am_ev (d + 10) 247 28 [.ref (am_mk 12 0), .int (nI c), .int (nI cnt), .int (nI q), l1] [] I R Q = some (some (.int (sp_it T (nI q) P cnt 2 c)), J, R, Q) ∧ am_fr (ma_S 0) I J ∧ mm_at J P := by
  obtain ⟨J1, a1, a2, a3, a4⟩ := m_putAside (d := d + 9) (Q := Q) hr hP (dep := 0) (by decide)
  obtain ⟨J2, b1, b2, b3⟩ := m_heatMany (d := d) hr (mT_fr hT (fr_mo (fr_mo a2 asS_ma) ma_ev)) hk hI hm hq a4 hc
  have hIk := it_I (q := q) hk hI cnt
  obtain ⟨J3, c1, c2, c3⟩ := m_takeBack (d := d + 9) (R := R) (Q := Q) hr (dep := 0) (by decide) (ma_fr a3 b2 (fun j _ _ w => by unfold mk_S at w; omega)) (b3.2.1.trans (hIk.1.trans hI.1.symm))
  have e := (b3.1 c (by omega)).2.2.1
  have h5 : 50 + c < 283 := by omega
  refine ⟨J3, ?_, fr_x (fr_x (fr_mo a2 asS_ma) b2 mkS_ma) c2 mmS_ma, c3⟩
  simp (disch := first | omega | assumption) only [s247_0, s247_1, s247_2, s247_5, s247_8, s247_9, s247_10, s247_12, s247_15, s247_18, s247_19, s247_20, s247_23, s247_26, s247_27, s247_28, s247_29, s247_30, s247_33, s247_34, s247_35, s247_36, s247_39, s247_40, s247_43, s247_45, s247_46, s247_47, s247_48, s247_50, s247_51, s247_52, s247_55, s247_57, nI_le2, nI_lt2, nI_eq2, nI_lt0, nI_0le, nI_0lt, nI_le0, nI_eq0, nI_clamp, nI_add, bu_nI, bb_0, bb_1, rf_s, rf_n, tl_s, tl_n, am_th_some, if_true, if_false, sI_eq, uI_eq, and_self, true_and, and_true, not_false_eq_true, not_true_eq_false, Nat.reduceEqDiff, Nat.reduceLeDiff, Nat.reduceLT, Nat.reduceAdd, Nat.reduceMul, Nat.reduceSub, Nat.zero_add, a1, b1, c1, mr31 hr, h5, e]
end
section
variable {s : zSt} {x y z : Int32}
theorem op_heats (hok : rel_ok s) : op1 134 247 [.int x, .int y, .int z] s := by
  obtain ⟨tp, w, st, rf, o⟩ := s
  cases o with
  | none =>
    refine op_k (v := -nI 1) hok (fun d u I R Q h => ?_) (fun d I R Q hr h => ?_)
    · have C := get_nc h
      have hL := C.lun (Q := Q) (d + 89)
      have r10 := C.pa.2.1
      have hF := C.food (Q := Q) (d + 89) x
      rw [s134]
      simp (disch := first | omega | assumption) only [s134_0, s134_1, s134_4, s134_5, s134_8, s134_11, s134_12, s134_13, s134_15, s134_18, s134_21, s134_22, s134_23, s134_26, s134_29, s134_30, s134_31, s134_32, s134_35, s134_36, s134_39, s134_40, s134_41, s134_44, s134_47, s134_48, s134_49, nI_le2, nI_lt2, nI_eq2, nI_lt0, nI_0le, nI_0lt, nI_le0, nI_eq0, nI_clamp, nI_add, bu_nI, bb_0, bb_1, rf_s, rf_n, tl_s, tl_n, am_th_some, if_true, if_false, sI_eq, uI_eq, and_self, true_and, and_true, not_false_eq_true, not_true_eq_false, Nat.reduceEqDiff, Nat.reduceLeDiff, Nat.reduceLT, Nat.reduceAdd, Nat.reduceMul, Nat.reduceSub, Nat.zero_add, hL, r10, hF]
    · have C := get_nm h
      have hL := C.lun (R := R) (Q := Q) (d + 89)
      have hp0 := fun x => m_power0 (d := d + 88) (R := R) (Q := Q) (x := x) C.hc
      have hF := C.food (Q := Q) hr (d + 87) x
      rw [s247]
      simp (disch := first | omega | assumption) only [s247_0, s247_1, s247_2, s247_5, s247_8, s247_9, s247_10, s247_12, s247_15, s247_18, s247_19, s247_20, s247_23, s247_26, s247_27, s247_28, s247_29, s247_30, s247_33, s247_34, s247_35, s247_36, s247_39, s247_40, s247_43, s247_45, s247_46, s247_47, s247_48, s247_50, s247_51, s247_52, s247_55, s247_57, nI_le2, nI_lt2, nI_eq2, nI_lt0, nI_0le, nI_0lt, nI_le0, nI_eq0, nI_clamp, nI_add, bu_nI, bb_0, bb_1, rf_s, rf_n, tl_s, tl_n, am_th_some, if_true, if_false, sI_eq, uI_eq, and_self, true_and, and_true, not_false_eq_true, not_true_eq_false, Nat.reduceEqDiff, Nat.reduceLeDiff, Nat.reduceLT, Nat.reduceAdd, Nat.reduceMul, Nat.reduceSub, Nat.zero_add, hL, hp0, hF]
  | some l =>
    obtain ⟨E, k, PK, tk, EL, im, ⟨k0, N0⟩, k1, N1⟩ := l
    have L := get_l hok
    by_cases e0 : pp_f (PK k) x
    · by_cases e1 : nI 0 ≤ y ∧ y ≤ nI 60
      · by_cases e2 : 0 ≤ z ∧ z ≤ nI (E.2.1 2)
        · obtain ⟨c, hc, rfl, hf⟩ := pp_f_of L.pt.1 L.n25 e0
          obtain ⟨c1, h1, rfl⟩ := in_nat (by decide) e1
          obtain ⟨q, hq, rfl⟩ := in_nat0 (by have := L.q9; omega) e2
          have hq9 : q ≤ 9 := Nat.le_trans hq L.q9
          refine op_q (v := sp_it (zT E w) (nI q) (PK k) c1 2 c) hok (fun d u I R Q h => ?_) (fun d I R Q hr h => ?_)
          · have C := get_c (Q := Q) h hok
            have hL := C.lun L (d + 89)
            have p0 := C.food L (d + 89) (nI c)
            rw [if_pos e0] at p0
            have p1 := c_within (d := d + 89) (x := (nI c1)) (a := nI 0) (b := nI 60) (I := I) (R := R) (Q := Q)
            rw [if_pos e1] at p1
            have p2 := C.pow L (d + 89) (nI q)
            rw [if_pos e2] at p2
            have h25 : c < 25 := by have := L.n25; omega
            obtain ⟨J, g1, g2, g3⟩ := c_behind (d := d + 80) C.aa C.T L.hk L.pt (by have := L.tm; omega) hq9 (p := 12) (by decide) (by decide) C.pp h1
            replace g1 : am_cal (d + 89) _ _ _ _ _ = _ := g1
            have gx := (g3.1 c h25).2.2.1
            have gr := (C.aa.2.2.2.2.1 2 (by decide)).2.2.1
            refine ⟨J, ?_, fr_mo g2 fun a b j => ahq⟩
            rw [s134]
            simp (disch := first | omega | assumption) only [s134_0, s134_1, s134_4, s134_5, s134_8, s134_11, s134_12, s134_13, s134_15, s134_18, s134_21, s134_22, s134_23, s134_26, s134_29, s134_30, s134_31, s134_32, s134_35, s134_36, s134_39, s134_40, s134_41, s134_44, s134_47, s134_48, s134_49, nI_le2, nI_lt2, nI_eq2, nI_lt0, nI_0le, nI_0lt, nI_le0, nI_eq0, nI_clamp, nI_add, bu_nI, bb_0, bb_1, rf_s, rf_n, tl_s, tl_n, am_th_some, if_true, if_false, sI_eq, uI_eq, and_self, true_and, and_true, not_false_eq_true, not_true_eq_false, Nat.reduceEqDiff, Nat.reduceLeDiff, Nat.reduceLT, Nat.reduceAdd, Nat.reduceMul, Nat.reduceSub, Nat.zero_add, hL, p0, p1, p2, C.pa.1, C.pa.2.1, C.r9, C.r16, C.r17, g1, gx, gr, h25]
          · have C := get_m (Q := Q) hr h hok
            have hL := C.lun L (d + 89)
            have p0 : am_cal (d + 89) _ _ _ _ _ = _ := C.food L (d + 87) (nI c)
            rw [if_pos e0] at p0
            have p1 := m_inX (d := d + 89) (x := (nI c1)) (lo := nI 0) (hi := nI 60) (I := I) (R := R) (Q := Q)
            rw [if_pos e1] at p1
            have p2 : am_cal (d + 89) _ _ _ _ _ = _ := C.pow L (d + 88) (nI q)
            rw [if_pos e2] at p2
            obtain ⟨J, g1, g2, g3⟩ := m_heatsC (d := d + 80) (l1 := am_J) (l2 := am_J) hr C.T L.hk L.pt (by have := L.tm; omega) hq9 C.mm h1 L.n25 hc
            replace g1 : am_ev (d + 90) _ _ _ _ _ _ _ = _ := g1
            refine ⟨J, ?_, fr_mo g2 fun a b j => maq, g3⟩
            rw [s247]
            simp (disch := first | omega | assumption) only [s247_0, s247_1, s247_2, s247_5, s247_8, s247_9, s247_10, s247_12, s247_15, s247_18, s247_19, s247_20, s247_23, s247_26, s247_27, s247_29, s247_30, s247_33, s247_34, s247_35, s247_36, s247_39, s247_40, s247_43, s247_45, s247_46, s247_47, s247_48, s247_50, s247_51, s247_52, s247_55, s247_57, nI_le2, nI_lt2, nI_eq2, nI_lt0, nI_0le, nI_0lt, nI_le0, nI_eq0, nI_clamp, nI_add, bu_nI, bb_0, bb_1, rf_s, rf_n, tl_s, tl_n, am_th_some, if_true, if_false, sI_eq, uI_eq, and_self, true_and, and_true, not_false_eq_true, not_true_eq_false, Nat.reduceEqDiff, Nat.reduceLeDiff, Nat.reduceLT, Nat.reduceAdd, Nat.reduceMul, Nat.reduceSub, Nat.zero_add, hL, p0, p1, p2]
            exact g1
        · refine op_k (v := -nI 1) hok (fun d u I R Q h => ?_) (fun d I R Q hr h => ?_)
          · have C := get_c (Q := Q) h hok
            have hL := C.lun L (d + 89)
            have p0 := C.food L (d + 89) x
            rw [if_pos e0] at p0
            have p1 := c_within (d := d + 89) (x := y) (a := nI 0) (b := nI 60) (I := I) (R := R) (Q := Q)
            rw [if_pos e1] at p1
            have p2 := C.pow L (d + 89) z
            rw [if_neg e2] at p2
            rw [s134]
            simp (disch := first | omega | assumption) only [s134_0, s134_1, s134_4, s134_5, s134_8, s134_11, s134_12, s134_13, s134_15, s134_18, s134_21, s134_22, s134_23, s134_26, s134_29, s134_30, s134_31, s134_32, s134_35, s134_36, s134_39, s134_40, s134_41, s134_44, s134_47, s134_48, s134_49, nI_le2, nI_lt2, nI_eq2, nI_lt0, nI_0le, nI_0lt, nI_le0, nI_eq0, nI_clamp, nI_add, bu_nI, bb_0, bb_1, rf_s, rf_n, tl_s, tl_n, am_th_some, if_true, if_false, sI_eq, uI_eq, and_self, true_and, and_true, not_false_eq_true, not_true_eq_false, Nat.reduceEqDiff, Nat.reduceLeDiff, Nat.reduceLT, Nat.reduceAdd, Nat.reduceMul, Nat.reduceSub, Nat.zero_add, hL, p0, p1, p2, C.pa.1, C.pa.2.1, C.r9, C.r16, C.r17]
          · have C := get_m (Q := Q) hr h hok
            have hL := C.lun L (d + 89)
            have p0 : am_cal (d + 89) _ _ _ _ _ = _ := C.food L (d + 87) x
            rw [if_pos e0] at p0
            have p1 := m_inX (d := d + 89) (x := y) (lo := nI 0) (hi := nI 60) (I := I) (R := R) (Q := Q)
            rw [if_pos e1] at p1
            have p2 : am_cal (d + 89) _ _ _ _ _ = _ := C.pow L (d + 88) z
            rw [if_neg e2] at p2
            rw [s247]
            simp (disch := first | omega | assumption) only [s247_0, s247_1, s247_2, s247_5, s247_8, s247_9, s247_10, s247_12, s247_15, s247_18, s247_19, s247_20, s247_23, s247_26, s247_27, s247_28, s247_29, s247_30, s247_33, s247_34, s247_35, s247_36, s247_39, s247_40, s247_43, s247_45, s247_46, s247_47, s247_48, s247_50, s247_51, s247_52, s247_55, s247_57, nI_le2, nI_lt2, nI_eq2, nI_lt0, nI_0le, nI_0lt, nI_le0, nI_eq0, nI_clamp, nI_add, bu_nI, bb_0, bb_1, rf_s, rf_n, tl_s, tl_n, am_th_some, if_true, if_false, sI_eq, uI_eq, and_self, true_and, and_true, not_false_eq_true, not_true_eq_false, Nat.reduceEqDiff, Nat.reduceLeDiff, Nat.reduceLT, Nat.reduceAdd, Nat.reduceMul, Nat.reduceSub, Nat.zero_add, hL, p0, p1, p2]
      · by_cases e2 : 0 ≤ z ∧ z ≤ nI (E.2.1 2)
        · refine op_k (v := -nI 1) hok (fun d u I R Q h => ?_) (fun d I R Q hr h => ?_)
          · have C := get_c (Q := Q) h hok
            have hL := C.lun L (d + 89)
            have p0 := C.food L (d + 89) x
            rw [if_pos e0] at p0
            have p1 := c_within (d := d + 89) (x := y) (a := nI 0) (b := nI 60) (I := I) (R := R) (Q := Q)
            rw [if_neg e1] at p1
            have p2 := C.pow L (d + 89) z
            rw [if_pos e2] at p2
            rw [s134]
            simp (disch := first | omega | assumption) only [s134_0, s134_1, s134_4, s134_5, s134_8, s134_11, s134_12, s134_13, s134_15, s134_18, s134_21, s134_22, s134_23, s134_26, s134_29, s134_30, s134_31, s134_32, s134_35, s134_36, s134_39, s134_40, s134_41, s134_44, s134_47, s134_48, s134_49, nI_le2, nI_lt2, nI_eq2, nI_lt0, nI_0le, nI_0lt, nI_le0, nI_eq0, nI_clamp, nI_add, bu_nI, bb_0, bb_1, rf_s, rf_n, tl_s, tl_n, am_th_some, if_true, if_false, sI_eq, uI_eq, and_self, true_and, and_true, not_false_eq_true, not_true_eq_false, Nat.reduceEqDiff, Nat.reduceLeDiff, Nat.reduceLT, Nat.reduceAdd, Nat.reduceMul, Nat.reduceSub, Nat.zero_add, hL, p0, p1, p2, C.pa.1, C.pa.2.1, C.r9, C.r16, C.r17]
          · have C := get_m (Q := Q) hr h hok
            have hL := C.lun L (d + 89)
            have p0 : am_cal (d + 89) _ _ _ _ _ = _ := C.food L (d + 87) x
            rw [if_pos e0] at p0
            have p1 := m_inX (d := d + 89) (x := y) (lo := nI 0) (hi := nI 60) (I := I) (R := R) (Q := Q)
            rw [if_neg e1] at p1
            have p2 : am_cal (d + 89) _ _ _ _ _ = _ := C.pow L (d + 88) z
            rw [if_pos e2] at p2
            rw [s247]
            simp (disch := first | omega | assumption) only [s247_0, s247_1, s247_2, s247_5, s247_8, s247_9, s247_10, s247_12, s247_15, s247_18, s247_19, s247_20, s247_23, s247_26, s247_27, s247_28, s247_29, s247_30, s247_33, s247_34, s247_35, s247_36, s247_39, s247_40, s247_43, s247_45, s247_46, s247_47, s247_48, s247_50, s247_51, s247_52, s247_55, s247_57, nI_le2, nI_lt2, nI_eq2, nI_lt0, nI_0le, nI_0lt, nI_le0, nI_eq0, nI_clamp, nI_add, bu_nI, bb_0, bb_1, rf_s, rf_n, tl_s, tl_n, am_th_some, if_true, if_false, sI_eq, uI_eq, and_self, true_and, and_true, not_false_eq_true, not_true_eq_false, Nat.reduceEqDiff, Nat.reduceLeDiff, Nat.reduceLT, Nat.reduceAdd, Nat.reduceMul, Nat.reduceSub, Nat.zero_add, hL, p0, p1, p2]
        · refine op_k (v := -nI 1) hok (fun d u I R Q h => ?_) (fun d I R Q hr h => ?_)
          · have C := get_c (Q := Q) h hok
            have hL := C.lun L (d + 89)
            have p0 := C.food L (d + 89) x
            rw [if_pos e0] at p0
            have p1 := c_within (d := d + 89) (x := y) (a := nI 0) (b := nI 60) (I := I) (R := R) (Q := Q)
            rw [if_neg e1] at p1
            have p2 := C.pow L (d + 89) z
            rw [if_neg e2] at p2
            rw [s134]
            simp (disch := first | omega | assumption) only [s134_0, s134_1, s134_4, s134_5, s134_8, s134_11, s134_12, s134_13, s134_15, s134_18, s134_21, s134_22, s134_23, s134_26, s134_29, s134_30, s134_31, s134_32, s134_35, s134_36, s134_39, s134_40, s134_41, s134_44, s134_47, s134_48, s134_49, nI_le2, nI_lt2, nI_eq2, nI_lt0, nI_0le, nI_0lt, nI_le0, nI_eq0, nI_clamp, nI_add, bu_nI, bb_0, bb_1, rf_s, rf_n, tl_s, tl_n, am_th_some, if_true, if_false, sI_eq, uI_eq, and_self, true_and, and_true, not_false_eq_true, not_true_eq_false, Nat.reduceEqDiff, Nat.reduceLeDiff, Nat.reduceLT, Nat.reduceAdd, Nat.reduceMul, Nat.reduceSub, Nat.zero_add, hL, p0, p1, p2, C.pa.1, C.pa.2.1, C.r9, C.r16, C.r17]
          · have C := get_m (Q := Q) hr h hok
            have hL := C.lun L (d + 89)
            have p0 : am_cal (d + 89) _ _ _ _ _ = _ := C.food L (d + 87) x
            rw [if_pos e0] at p0
            have p1 := m_inX (d := d + 89) (x := y) (lo := nI 0) (hi := nI 60) (I := I) (R := R) (Q := Q)
            rw [if_neg e1] at p1
            have p2 : am_cal (d + 89) _ _ _ _ _ = _ := C.pow L (d + 88) z
            rw [if_neg e2] at p2
            rw [s247]
            simp (disch := first | omega | assumption) only [s247_0, s247_1, s247_2, s247_5, s247_8, s247_9, s247_10, s247_12, s247_15, s247_18, s247_19, s247_20, s247_23, s247_26, s247_27, s247_28, s247_29, s247_30, s247_33, s247_34, s247_35, s247_36, s247_39, s247_40, s247_43, s247_45, s247_46, s247_47, s247_48, s247_50, s247_51, s247_52, s247_55, s247_57, nI_le2, nI_lt2, nI_eq2, nI_lt0, nI_0le, nI_0lt, nI_le0, nI_eq0, nI_clamp, nI_add, bu_nI, bb_0, bb_1, rf_s, rf_n, tl_s, tl_n, am_th_some, if_true, if_false, sI_eq, uI_eq, and_self, true_and, and_true, not_false_eq_true, not_true_eq_false, Nat.reduceEqDiff, Nat.reduceLeDiff, Nat.reduceLT, Nat.reduceAdd, Nat.reduceMul, Nat.reduceSub, Nat.zero_add, hL, p0, p1, p2]
    · by_cases e1 : nI 0 ≤ y ∧ y ≤ nI 60
      · by_cases e2 : 0 ≤ z ∧ z ≤ nI (E.2.1 2)
        · refine op_k (v := -nI 1) hok (fun d u I R Q h => ?_) (fun d I R Q hr h => ?_)
          · have C := get_c (Q := Q) h hok
            have hL := C.lun L (d + 89)
            have p0 := C.food L (d + 89) x
            rw [if_neg e0] at p0
            have p1 := c_within (d := d + 89) (x := y) (a := nI 0) (b := nI 60) (I := I) (R := R) (Q := Q)
            rw [if_pos e1] at p1
            have p2 := C.pow L (d + 89) z
            rw [if_pos e2] at p2
            rw [s134]
            simp (disch := first | omega | assumption) only [s134_0, s134_1, s134_4, s134_5, s134_8, s134_11, s134_12, s134_13, s134_15, s134_18, s134_21, s134_22, s134_23, s134_26, s134_29, s134_30, s134_31, s134_32, s134_35, s134_36, s134_39, s134_40, s134_41, s134_44, s134_47, s134_48, s134_49, nI_le2, nI_lt2, nI_eq2, nI_lt0, nI_0le, nI_0lt, nI_le0, nI_eq0, nI_clamp, nI_add, bu_nI, bb_0, bb_1, rf_s, rf_n, tl_s, tl_n, am_th_some, if_true, if_false, sI_eq, uI_eq, and_self, true_and, and_true, not_false_eq_true, not_true_eq_false, Nat.reduceEqDiff, Nat.reduceLeDiff, Nat.reduceLT, Nat.reduceAdd, Nat.reduceMul, Nat.reduceSub, Nat.zero_add, hL, p0, p1, p2, C.pa.1, C.pa.2.1, C.r9, C.r16, C.r17]
          · have C := get_m (Q := Q) hr h hok
            have hL := C.lun L (d + 89)
            have p0 : am_cal (d + 89) _ _ _ _ _ = _ := C.food L (d + 87) x
            rw [if_neg e0] at p0
            have p1 := m_inX (d := d + 89) (x := y) (lo := nI 0) (hi := nI 60) (I := I) (R := R) (Q := Q)
            rw [if_pos e1] at p1
            have p2 : am_cal (d + 89) _ _ _ _ _ = _ := C.pow L (d + 88) z
            rw [if_pos e2] at p2
            rw [s247]
            simp (disch := first | omega | assumption) only [s247_0, s247_1, s247_2, s247_5, s247_8, s247_9, s247_10, s247_12, s247_15, s247_18, s247_19, s247_20, s247_23, s247_26, s247_27, s247_28, s247_29, s247_30, s247_33, s247_34, s247_35, s247_36, s247_39, s247_40, s247_43, s247_45, s247_46, s247_47, s247_48, s247_50, s247_51, s247_52, s247_55, s247_57, nI_le2, nI_lt2, nI_eq2, nI_lt0, nI_0le, nI_0lt, nI_le0, nI_eq0, nI_clamp, nI_add, bu_nI, bb_0, bb_1, rf_s, rf_n, tl_s, tl_n, am_th_some, if_true, if_false, sI_eq, uI_eq, and_self, true_and, and_true, not_false_eq_true, not_true_eq_false, Nat.reduceEqDiff, Nat.reduceLeDiff, Nat.reduceLT, Nat.reduceAdd, Nat.reduceMul, Nat.reduceSub, Nat.zero_add, hL, p0, p1, p2]
        · refine op_k (v := -nI 1) hok (fun d u I R Q h => ?_) (fun d I R Q hr h => ?_)
          · have C := get_c (Q := Q) h hok
            have hL := C.lun L (d + 89)
            have p0 := C.food L (d + 89) x
            rw [if_neg e0] at p0
            have p1 := c_within (d := d + 89) (x := y) (a := nI 0) (b := nI 60) (I := I) (R := R) (Q := Q)
            rw [if_pos e1] at p1
            have p2 := C.pow L (d + 89) z
            rw [if_neg e2] at p2
            rw [s134]
            simp (disch := first | omega | assumption) only [s134_0, s134_1, s134_4, s134_5, s134_8, s134_11, s134_12, s134_13, s134_15, s134_18, s134_21, s134_22, s134_23, s134_26, s134_29, s134_30, s134_31, s134_32, s134_35, s134_36, s134_39, s134_40, s134_41, s134_44, s134_47, s134_48, s134_49, nI_le2, nI_lt2, nI_eq2, nI_lt0, nI_0le, nI_0lt, nI_le0, nI_eq0, nI_clamp, nI_add, bu_nI, bb_0, bb_1, rf_s, rf_n, tl_s, tl_n, am_th_some, if_true, if_false, sI_eq, uI_eq, and_self, true_and, and_true, not_false_eq_true, not_true_eq_false, Nat.reduceEqDiff, Nat.reduceLeDiff, Nat.reduceLT, Nat.reduceAdd, Nat.reduceMul, Nat.reduceSub, Nat.zero_add, hL, p0, p1, p2, C.pa.1, C.pa.2.1, C.r9, C.r16, C.r17]
          · have C := get_m (Q := Q) hr h hok
            have hL := C.lun L (d + 89)
            have p0 : am_cal (d + 89) _ _ _ _ _ = _ := C.food L (d + 87) x
            rw [if_neg e0] at p0
            have p1 := m_inX (d := d + 89) (x := y) (lo := nI 0) (hi := nI 60) (I := I) (R := R) (Q := Q)
            rw [if_pos e1] at p1
            have p2 : am_cal (d + 89) _ _ _ _ _ = _ := C.pow L (d + 88) z
            rw [if_neg e2] at p2
            rw [s247]
            simp (disch := first | omega | assumption) only [s247_0, s247_1, s247_2, s247_5, s247_8, s247_9, s247_10, s247_12, s247_15, s247_18, s247_19, s247_20, s247_23, s247_26, s247_27, s247_28, s247_29, s247_30, s247_33, s247_34, s247_35, s247_36, s247_39, s247_40, s247_43, s247_45, s247_46, s247_47, s247_48, s247_50, s247_51, s247_52, s247_55, s247_57, nI_le2, nI_lt2, nI_eq2, nI_lt0, nI_0le, nI_0lt, nI_le0, nI_eq0, nI_clamp, nI_add, bu_nI, bb_0, bb_1, rf_s, rf_n, tl_s, tl_n, am_th_some, if_true, if_false, sI_eq, uI_eq, and_self, true_and, and_true, not_false_eq_true, not_true_eq_false, Nat.reduceEqDiff, Nat.reduceLeDiff, Nat.reduceLT, Nat.reduceAdd, Nat.reduceMul, Nat.reduceSub, Nat.zero_add, hL, p0, p1, p2]
      · by_cases e2 : 0 ≤ z ∧ z ≤ nI (E.2.1 2)
        · refine op_k (v := -nI 1) hok (fun d u I R Q h => ?_) (fun d I R Q hr h => ?_)
          · have C := get_c (Q := Q) h hok
            have hL := C.lun L (d + 89)
            have p0 := C.food L (d + 89) x
            rw [if_neg e0] at p0
            have p1 := c_within (d := d + 89) (x := y) (a := nI 0) (b := nI 60) (I := I) (R := R) (Q := Q)
            rw [if_neg e1] at p1
            have p2 := C.pow L (d + 89) z
            rw [if_pos e2] at p2
            rw [s134]
            simp (disch := first | omega | assumption) only [s134_0, s134_1, s134_4, s134_5, s134_8, s134_11, s134_12, s134_13, s134_15, s134_18, s134_21, s134_22, s134_23, s134_26, s134_29, s134_30, s134_31, s134_32, s134_35, s134_36, s134_39, s134_40, s134_41, s134_44, s134_47, s134_48, s134_49, nI_le2, nI_lt2, nI_eq2, nI_lt0, nI_0le, nI_0lt, nI_le0, nI_eq0, nI_clamp, nI_add, bu_nI, bb_0, bb_1, rf_s, rf_n, tl_s, tl_n, am_th_some, if_true, if_false, sI_eq, uI_eq, and_self, true_and, and_true, not_false_eq_true, not_true_eq_false, Nat.reduceEqDiff, Nat.reduceLeDiff, Nat.reduceLT, Nat.reduceAdd, Nat.reduceMul, Nat.reduceSub, Nat.zero_add, hL, p0, p1, p2, C.pa.1, C.pa.2.1, C.r9, C.r16, C.r17]
          · have C := get_m (Q := Q) hr h hok
            have hL := C.lun L (d + 89)
            have p0 : am_cal (d + 89) _ _ _ _ _ = _ := C.food L (d + 87) x
            rw [if_neg e0] at p0
            have p1 := m_inX (d := d + 89) (x := y) (lo := nI 0) (hi := nI 60) (I := I) (R := R) (Q := Q)
            rw [if_neg e1] at p1
            have p2 : am_cal (d + 89) _ _ _ _ _ = _ := C.pow L (d + 88) z
            rw [if_pos e2] at p2
            rw [s247]
            simp (disch := first | omega | assumption) only [s247_0, s247_1, s247_2, s247_5, s247_8, s247_9, s247_10, s247_12, s247_15, s247_18, s247_19, s247_20, s247_23, s247_26, s247_27, s247_28, s247_29, s247_30, s247_33, s247_34, s247_35, s247_36, s247_39, s247_40, s247_43, s247_45, s247_46, s247_47, s247_48, s247_50, s247_51, s247_52, s247_55, s247_57, nI_le2, nI_lt2, nI_eq2, nI_lt0, nI_0le, nI_0lt, nI_le0, nI_eq0, nI_clamp, nI_add, bu_nI, bb_0, bb_1, rf_s, rf_n, tl_s, tl_n, am_th_some, if_true, if_false, sI_eq, uI_eq, and_self, true_and, and_true, not_false_eq_true, not_true_eq_false, Nat.reduceEqDiff, Nat.reduceLeDiff, Nat.reduceLT, Nat.reduceAdd, Nat.reduceMul, Nat.reduceSub, Nat.zero_add, hL, p0, p1, p2]
        · refine op_k (v := -nI 1) hok (fun d u I R Q h => ?_) (fun d I R Q hr h => ?_)
          · have C := get_c (Q := Q) h hok
            have hL := C.lun L (d + 89)
            have p0 := C.food L (d + 89) x
            rw [if_neg e0] at p0
            have p1 := c_within (d := d + 89) (x := y) (a := nI 0) (b := nI 60) (I := I) (R := R) (Q := Q)
            rw [if_neg e1] at p1
            have p2 := C.pow L (d + 89) z
            rw [if_neg e2] at p2
            rw [s134]
            simp (disch := first | omega | assumption) only [s134_0, s134_1, s134_4, s134_5, s134_8, s134_11, s134_12, s134_13, s134_15, s134_18, s134_21, s134_22, s134_23, s134_26, s134_29, s134_30, s134_31, s134_32, s134_35, s134_36, s134_39, s134_40, s134_41, s134_44, s134_47, s134_48, s134_49, nI_le2, nI_lt2, nI_eq2, nI_lt0, nI_0le, nI_0lt, nI_le0, nI_eq0, nI_clamp, nI_add, bu_nI, bb_0, bb_1, rf_s, rf_n, tl_s, tl_n, am_th_some, if_true, if_false, sI_eq, uI_eq, and_self, true_and, and_true, not_false_eq_true, not_true_eq_false, Nat.reduceEqDiff, Nat.reduceLeDiff, Nat.reduceLT, Nat.reduceAdd, Nat.reduceMul, Nat.reduceSub, Nat.zero_add, hL, p0, p1, p2, C.pa.1, C.pa.2.1, C.r9, C.r16, C.r17]
          · have C := get_m (Q := Q) hr h hok
            have hL := C.lun L (d + 89)
            have p0 : am_cal (d + 89) _ _ _ _ _ = _ := C.food L (d + 87) x
            rw [if_neg e0] at p0
            have p1 := m_inX (d := d + 89) (x := y) (lo := nI 0) (hi := nI 60) (I := I) (R := R) (Q := Q)
            rw [if_neg e1] at p1
            have p2 : am_cal (d + 89) _ _ _ _ _ = _ := C.pow L (d + 88) z
            rw [if_neg e2] at p2
            rw [s247]
            simp (disch := first | omega | assumption) only [s247_0, s247_1, s247_2, s247_5, s247_8, s247_9, s247_10, s247_12, s247_15, s247_18, s247_19, s247_20, s247_23, s247_26, s247_27, s247_28, s247_29, s247_30, s247_33, s247_34, s247_35, s247_36, s247_39, s247_40, s247_43, s247_45, s247_46, s247_47, s247_48, s247_50, s247_51, s247_52, s247_55, s247_57, nI_le2, nI_lt2, nI_eq2, nI_lt0, nI_0le, nI_0lt, nI_le0, nI_eq0, nI_clamp, nI_add, bu_nI, bb_0, bb_1, rf_s, rf_n, tl_s, tl_n, am_th_some, if_true, if_false, sI_eq, uI_eq, and_self, true_and, and_true, not_false_eq_true, not_true_eq_false, Nat.reduceEqDiff, Nat.reduceLeDiff, Nat.reduceLT, Nat.reduceAdd, Nat.reduceMul, Nat.reduceSub, Nat.zero_add, hL, p0, p1, p2]
theorem op_next (hok : rel_ok s) : op1 154 276 [.int x, .int z] s := by
  obtain ⟨tp, w, st, rf, o⟩ := s
  cases o with
  | none =>
    refine op_k (v := -nI 1) hok (fun d u I R Q h => ?_) (fun d I R Q hr h => ?_)
    · have C := get_nc h
      have hL := C.lun (Q := Q) (d + 89)
      have r10 := C.pa.2.1
      have hF := C.food (Q := Q) (d + 89) x
      rw [s154]
      simp (disch := first | omega | assumption) only [s154_0, s154_1, s154_4, s154_5, s154_8, s154_11, s154_12, s154_13, s154_16, s154_19, s154_20, s154_21, s154_22, s154_25, s154_26, s154_29, s154_30, s154_31, s154_34, s154_37, s154_38, s154_39, nI_le2, nI_lt2, nI_eq2, nI_lt0, nI_0le, nI_0lt, nI_le0, nI_eq0, nI_clamp, nI_add, bu_nI, bb_0, bb_1, rf_s, rf_n, tl_s, tl_n, am_th_some, if_true, if_false, sI_eq, uI_eq, and_self, true_and, and_true, not_false_eq_true, not_true_eq_false, Nat.reduceEqDiff, Nat.reduceLeDiff, Nat.reduceLT, Nat.reduceAdd, Nat.reduceMul, Nat.reduceSub, Nat.zero_add, hL, r10, hF]
    · have C := get_nm h
      have hL := C.lun (R := R) (Q := Q) (d + 89)
      have hp0 := fun x => m_power0 (d := d + 87) (R := R) (Q := Q) (x := x) C.hc
      have hF := C.food (Q := Q) hr (d + 86) x
      rw [s276]
      simp (disch := first | omega | assumption) only [s276_0, s276_1, s276_2, s276_3, s276_4, s276_7, nI_le2, nI_lt2, nI_eq2, nI_lt0, nI_0le, nI_0lt, nI_le0, nI_eq0, nI_clamp, nI_add, bu_nI, bb_0, bb_1, rf_s, rf_n, tl_s, tl_n, am_th_some, if_true, if_false, sI_eq, uI_eq, and_self, true_and, and_true, not_false_eq_true, not_true_eq_false, Nat.reduceEqDiff, Nat.reduceLeDiff, Nat.reduceLT, Nat.reduceAdd, Nat.reduceMul, Nat.reduceSub, Nat.zero_add, hL, hp0, hF, s247, s247_0, s247_1, s247_2, s247_5, s247_8, s247_9, s247_10, s247_12, s247_15, s247_18, s247_19, s247_20, s247_23, s247_26, s247_27, s247_29, s247_30, s247_33, s247_34, s247_35, s247_36, s247_39, s247_40, s247_43, s247_45, s247_46, s247_47, s247_48, s247_50, s247_51, s247_52, s247_55, s247_57]
  | some l =>
    obtain ⟨E, k, PK, tk, EL, im, ⟨k0, N0⟩, k1, N1⟩ := l
    have L := get_l hok
    by_cases e0 : pp_f (PK k) x
    · by_cases e1 : 0 ≤ z ∧ z ≤ nI (E.2.1 2)
      · obtain ⟨c, hc, rfl, hf⟩ := pp_f_of L.pt.1 L.n25 e0
        obtain ⟨q, hq, rfl⟩ := in_nat0 (by have := L.q9; omega) e1
        have hq9 : q ≤ 9 := Nat.le_trans hq L.q9
        refine op_q (v := sp_it (zT E w) (nI q) (PK k) 1 2 c) hok (fun d u I R Q h => ?_) (fun d I R Q hr h => ?_)
        · have C := get_c (Q := Q) h hok
          have hL := C.lun L (d + 89)
          have p0 := C.food L (d + 89) (nI c)
          rw [if_pos e0] at p0
          have p1 := C.pow L (d + 89) (nI q)
          rw [if_pos e1] at p1
          have h25 : c < 25 := by have := L.n25; omega
          obtain ⟨J, g1, g2, g3⟩ := c_behind (d := d + 80) C.aa C.T L.hk L.pt (by have := L.tm; omega) hq9 (p := 12) (by decide) (by decide) C.pp (c := 1) (by decide)
          replace g1 : am_cal (d + 89) _ _ _ _ _ = _ := g1
          have gx := (g3.1 c h25).2.2.1
          have gr := (C.aa.2.2.2.2.1 2 (by decide)).2.2.1
          refine ⟨J, ?_, fr_mo g2 fun a b j => ahq⟩
          rw [s154]
          simp (disch := first | omega | assumption) only [s154_0, s154_1, s154_4, s154_5, s154_8, s154_11, s154_12, s154_13, s154_16, s154_19, s154_20, s154_21, s154_22, s154_25, s154_26, s154_29, s154_30, s154_31, s154_34, s154_37, s154_38, s154_39, nI_le2, nI_lt2, nI_eq2, nI_lt0, nI_0le, nI_0lt, nI_le0, nI_eq0, nI_clamp, nI_add, bu_nI, bb_0, bb_1, rf_s, rf_n, tl_s, tl_n, am_th_some, if_true, if_false, sI_eq, uI_eq, and_self, true_and, and_true, not_false_eq_true, not_true_eq_false, Nat.reduceEqDiff, Nat.reduceLeDiff, Nat.reduceLT, Nat.reduceAdd, Nat.reduceMul, Nat.reduceSub, Nat.zero_add, hL, p0, p1, C.pa.1, C.pa.2.1, C.r9, C.r16, C.r17, g1, gx, gr, h25]
        · have C := get_m (Q := Q) hr h hok
          have hL := C.lun L (d + 89)
          have p0 : am_cal (d + 88) _ _ _ _ _ = _ := C.food L (d + 86) (nI c)
          rw [if_pos e0] at p0
          have p1 : am_cal (d + 88) _ _ _ _ _ = _ := C.pow L (d + 87) (nI q)
          rw [if_pos e1] at p1
          have pin : am_cal (d + 88) 156 [.int (nI 1), .int (nI 0), .int (nI 60)] I R Q = some (some (.int (nI 1)), I, R, Q) := by rw [m_inX, if_pos (by decide)]
          obtain ⟨J, g1, g2, g3⟩ := m_heatsC (d := d + 79) (l1 := am_J) (l2 := am_J) (cnt := 1) hr C.T L.hk L.pt (by have := L.tm; omega) hq9 C.mm (by decide) L.n25 hc
          replace g1 : am_ev (d + 89) _ _ _ _ _ _ _ = _ := g1
          refine ⟨J, ?_, fr_mo g2 fun a b j => maq, g3⟩
          rw [s276]
          simp (disch := first | omega | assumption) only [s276_0, s276_1, s276_2, s276_3, s276_4, s276_7, nI_le2, nI_lt2, nI_eq2, nI_lt0, nI_0le, nI_0lt, nI_le0, nI_eq0, nI_clamp, nI_add, bu_nI, bb_0, bb_1, rf_s, rf_n, tl_s, tl_n, am_th_some, if_true, if_false, sI_eq, uI_eq, and_self, true_and, and_true, not_false_eq_true, not_true_eq_false, Nat.reduceEqDiff, Nat.reduceLeDiff, Nat.reduceLT, Nat.reduceAdd, Nat.reduceMul, Nat.reduceSub, Nat.zero_add, hL, p0, p1, pin, s247, s247_0, s247_1, s247_2, s247_5, s247_8, s247_9, s247_10, s247_12, s247_15, s247_18, s247_19, s247_20, s247_23, s247_26, s247_27, s247_29, s247_30, s247_33, s247_34, s247_35, s247_36, s247_39, s247_40, s247_43, s247_45, s247_46, s247_47, s247_48, s247_50, s247_51, s247_52, s247_55, s247_57]
          rw [show am_ev (d + 88 + 1) _ _ _ _ _ _ _ = _ from g1]
          simp (disch := first | omega | assumption) only [s276_0, s276_1, s276_2, s276_3, s276_4, s276_7, nI_le2, nI_lt2, nI_eq2, nI_lt0, nI_0le, nI_0lt, nI_le0, nI_eq0, nI_clamp, nI_add, bu_nI, bb_0, bb_1, rf_s, rf_n, tl_s, tl_n, am_th_some, if_true, if_false, sI_eq, uI_eq, and_self, true_and, and_true, not_false_eq_true, not_true_eq_false, Nat.reduceEqDiff, Nat.reduceLeDiff, Nat.reduceLT, Nat.reduceAdd, Nat.reduceMul, Nat.reduceSub, Nat.zero_add]
      · refine op_k (v := -nI 1) hok (fun d u I R Q h => ?_) (fun d I R Q hr h => ?_)
        · have C := get_c (Q := Q) h hok
          have hL := C.lun L (d + 89)
          have p0 := C.food L (d + 89) x
          rw [if_pos e0] at p0
          have p1 := C.pow L (d + 89) z
          rw [if_neg e1] at p1
          rw [s154]
          simp (disch := first | omega | assumption) only [s154_0, s154_1, s154_4, s154_5, s154_8, s154_11, s154_12, s154_13, s154_16, s154_19, s154_20, s154_21, s154_22, s154_25, s154_26, s154_29, s154_30, s154_31, s154_34, s154_37, s154_38, s154_39, nI_le2, nI_lt2, nI_eq2, nI_lt0, nI_0le, nI_0lt, nI_le0, nI_eq0, nI_clamp, nI_add, bu_nI, bb_0, bb_1, rf_s, rf_n, tl_s, tl_n, am_th_some, if_true, if_false, sI_eq, uI_eq, and_self, true_and, and_true, not_false_eq_true, not_true_eq_false, Nat.reduceEqDiff, Nat.reduceLeDiff, Nat.reduceLT, Nat.reduceAdd, Nat.reduceMul, Nat.reduceSub, Nat.zero_add, hL, p0, p1, C.pa.1, C.pa.2.1, C.r9, C.r16, C.r17]
        · have C := get_m (Q := Q) hr h hok
          have hL := C.lun L (d + 89)
          have p0 : am_cal (d + 88) _ _ _ _ _ = _ := C.food L (d + 86) x
          rw [if_pos e0] at p0
          have p1 : am_cal (d + 88) _ _ _ _ _ = _ := C.pow L (d + 87) z
          rw [if_neg e1] at p1
          have pin : am_cal (d + 88) 156 [.int (nI 1), .int (nI 0), .int (nI 60)] I R Q = some (some (.int (nI 1)), I, R, Q) := by rw [m_inX, if_pos (by decide)]
          rw [s276]
          simp (disch := first | omega | assumption) only [s276_0, s276_1, s276_2, s276_3, s276_4, s276_7, nI_le2, nI_lt2, nI_eq2, nI_lt0, nI_0le, nI_0lt, nI_le0, nI_eq0, nI_clamp, nI_add, bu_nI, bb_0, bb_1, rf_s, rf_n, tl_s, tl_n, am_th_some, if_true, if_false, sI_eq, uI_eq, and_self, true_and, and_true, not_false_eq_true, not_true_eq_false, Nat.reduceEqDiff, Nat.reduceLeDiff, Nat.reduceLT, Nat.reduceAdd, Nat.reduceMul, Nat.reduceSub, Nat.zero_add, hL, p0, p1, pin, s247, s247_0, s247_1, s247_2, s247_5, s247_8, s247_9, s247_10, s247_12, s247_15, s247_18, s247_19, s247_20, s247_23, s247_26, s247_27, s247_29, s247_30, s247_33, s247_34, s247_35, s247_36, s247_39, s247_40, s247_43, s247_45, s247_46, s247_47, s247_48, s247_50, s247_51, s247_52, s247_55, s247_57]
    · by_cases e1 : 0 ≤ z ∧ z ≤ nI (E.2.1 2)
      · refine op_k (v := -nI 1) hok (fun d u I R Q h => ?_) (fun d I R Q hr h => ?_)
        · have C := get_c (Q := Q) h hok
          have hL := C.lun L (d + 89)
          have p0 := C.food L (d + 89) x
          rw [if_neg e0] at p0
          have p1 := C.pow L (d + 89) z
          rw [if_pos e1] at p1
          rw [s154]
          simp (disch := first | omega | assumption) only [s154_0, s154_1, s154_4, s154_5, s154_8, s154_11, s154_12, s154_13, s154_16, s154_19, s154_20, s154_21, s154_22, s154_25, s154_26, s154_29, s154_30, s154_31, s154_34, s154_37, s154_38, s154_39, nI_le2, nI_lt2, nI_eq2, nI_lt0, nI_0le, nI_0lt, nI_le0, nI_eq0, nI_clamp, nI_add, bu_nI, bb_0, bb_1, rf_s, rf_n, tl_s, tl_n, am_th_some, if_true, if_false, sI_eq, uI_eq, and_self, true_and, and_true, not_false_eq_true, not_true_eq_false, Nat.reduceEqDiff, Nat.reduceLeDiff, Nat.reduceLT, Nat.reduceAdd, Nat.reduceMul, Nat.reduceSub, Nat.zero_add, hL, p0, p1, C.pa.1, C.pa.2.1, C.r9, C.r16, C.r17]
        · have C := get_m (Q := Q) hr h hok
          have hL := C.lun L (d + 89)
          have p0 : am_cal (d + 88) _ _ _ _ _ = _ := C.food L (d + 86) x
          rw [if_neg e0] at p0
          have p1 : am_cal (d + 88) _ _ _ _ _ = _ := C.pow L (d + 87) z
          rw [if_pos e1] at p1
          have pin : am_cal (d + 88) 156 [.int (nI 1), .int (nI 0), .int (nI 60)] I R Q = some (some (.int (nI 1)), I, R, Q) := by rw [m_inX, if_pos (by decide)]
          rw [s276]
          simp (disch := first | omega | assumption) only [s276_0, s276_1, s276_2, s276_3, s276_4, s276_7, nI_le2, nI_lt2, nI_eq2, nI_lt0, nI_0le, nI_0lt, nI_le0, nI_eq0, nI_clamp, nI_add, bu_nI, bb_0, bb_1, rf_s, rf_n, tl_s, tl_n, am_th_some, if_true, if_false, sI_eq, uI_eq, and_self, true_and, and_true, not_false_eq_true, not_true_eq_false, Nat.reduceEqDiff, Nat.reduceLeDiff, Nat.reduceLT, Nat.reduceAdd, Nat.reduceMul, Nat.reduceSub, Nat.zero_add, hL, p0, p1, pin, s247, s247_0, s247_1, s247_2, s247_5, s247_8, s247_9, s247_10, s247_12, s247_15, s247_18, s247_19, s247_20, s247_23, s247_26, s247_27, s247_29, s247_30, s247_33, s247_34, s247_35, s247_36, s247_39, s247_40, s247_43, s247_45, s247_46, s247_47, s247_48, s247_50, s247_51, s247_52, s247_55, s247_57]
      · refine op_k (v := -nI 1) hok (fun d u I R Q h => ?_) (fun d I R Q hr h => ?_)
        · have C := get_c (Q := Q) h hok
          have hL := C.lun L (d + 89)
          have p0 := C.food L (d + 89) x
          rw [if_neg e0] at p0
          have p1 := C.pow L (d + 89) z
          rw [if_neg e1] at p1
          rw [s154]
          simp (disch := first | omega | assumption) only [s154_0, s154_1, s154_4, s154_5, s154_8, s154_11, s154_12, s154_13, s154_16, s154_19, s154_20, s154_21, s154_22, s154_25, s154_26, s154_29, s154_30, s154_31, s154_34, s154_37, s154_38, s154_39, nI_le2, nI_lt2, nI_eq2, nI_lt0, nI_0le, nI_0lt, nI_le0, nI_eq0, nI_clamp, nI_add, bu_nI, bb_0, bb_1, rf_s, rf_n, tl_s, tl_n, am_th_some, if_true, if_false, sI_eq, uI_eq, and_self, true_and, and_true, not_false_eq_true, not_true_eq_false, Nat.reduceEqDiff, Nat.reduceLeDiff, Nat.reduceLT, Nat.reduceAdd, Nat.reduceMul, Nat.reduceSub, Nat.zero_add, hL, p0, p1, C.pa.1, C.pa.2.1, C.r9, C.r16, C.r17]
        · have C := get_m (Q := Q) hr h hok
          have hL := C.lun L (d + 89)
          have p0 : am_cal (d + 88) _ _ _ _ _ = _ := C.food L (d + 86) x
          rw [if_neg e0] at p0
          have p1 : am_cal (d + 88) _ _ _ _ _ = _ := C.pow L (d + 87) z
          rw [if_neg e1] at p1
          have pin : am_cal (d + 88) 156 [.int (nI 1), .int (nI 0), .int (nI 60)] I R Q = some (some (.int (nI 1)), I, R, Q) := by rw [m_inX, if_pos (by decide)]
          rw [s276]
          simp (disch := first | omega | assumption) only [s276_0, s276_1, s276_2, s276_3, s276_4, s276_7, nI_le2, nI_lt2, nI_eq2, nI_lt0, nI_0le, nI_0lt, nI_le0, nI_eq0, nI_clamp, nI_add, bu_nI, bb_0, bb_1, rf_s, rf_n, tl_s, tl_n, am_th_some, if_true, if_false, sI_eq, uI_eq, and_self, true_and, and_true, not_false_eq_true, not_true_eq_false, Nat.reduceEqDiff, Nat.reduceLeDiff, Nat.reduceLT, Nat.reduceAdd, Nat.reduceMul, Nat.reduceSub, Nat.zero_add, hL, p0, p1, pin, s247, s247_0, s247_1, s247_2, s247_5, s247_8, s247_9, s247_10, s247_12, s247_15, s247_18, s247_19, s247_20, s247_23, s247_26, s247_27, s247_29, s247_30, s247_33, s247_34, s247_35, s247_36, s247_39, s247_40, s247_43, s247_45, s247_46, s247_47, s247_48, s247_50, s247_51, s247_52, s247_55, s247_57]
theorem op_place (hok : rel_ok s) : op1 135 248 [.int x, .int y] s := by
  obtain ⟨tp, w, st, rf, o⟩ := s
  cases o with
  | none =>
    refine op_k (v := -nI 1) hok (fun d u I R Q h => ?_) (fun d I R Q hr h => ?_)
    · have C := get_nc h
      have hL := C.lun (Q := Q) (d + 89)
      have r10 := C.pa.2.1
      have hF := C.food (Q := Q) (d + 89) x
      rw [s135]
      simp (disch := first | omega | assumption) only [s135_0, s135_1, s135_4, s135_5, s135_8, s135_11, s135_12, s135_13, s135_15, s135_18, s135_21, s135_22, s135_23, s135_24, s135_27, s135_28, s135_31, s135_32, s135_33, s135_36, nI_le2, nI_lt2, nI_eq2, nI_lt0, nI_0le, nI_0lt, nI_le0, nI_eq0, nI_clamp, nI_add, bu_nI, bb_0, bb_1, rf_s, rf_n, tl_s, tl_n, am_th_some, if_true, if_false, sI_eq, uI_eq, and_self, true_and, and_true, not_false_eq_true, not_true_eq_false, Nat.reduceEqDiff, Nat.reduceLeDiff, Nat.reduceLT, Nat.reduceAdd, Nat.reduceMul, Nat.reduceSub, Nat.zero_add, hL, r10, hF]
    · have C := get_nm h
      have hL := C.lun (R := R) (Q := Q) (d + 89)
      have hp0 := fun x => m_power0 (d := d + 88) (R := R) (Q := Q) (x := x) C.hc
      have hF := C.food (Q := Q) hr (d + 87) x
      rw [s248]
      simp (disch := first | omega | assumption) only [s248_0, s248_1, s248_2, s248_5, s248_8, s248_9, s248_10, s248_12, s248_15, s248_18, s248_19, s248_20, s248_21, s248_22, s248_23, s248_25, s248_26, s248_28, s248_30, s248_31, s248_34, s248_37, s248_39, s248_40, s248_43, s248_44, s248_46, s248_49, s248_52, s248_53, s248_54, s248_57, s248_59, s248_60, s248_63, s248_64, s248_65, s248_67, s248_70, s248_71, s248_72, s248_73, s248_76, s248_77, s248_78, s248_81, s248_82, s248_85, s248_87, s248_89, s248_90, s248_91, s248_92, s248_95, s248_97, s248_99, s248_100, s248_101, s248_102, s248_104, s248_105, s248_106, s248_109, s248_110, s248_111, s248_114, s248_116, s248_118, s248_121, s248_123, s248_124, s248_126, s248_128, s248_131, s248_134, s248_135, nI_le2, nI_lt2, nI_eq2, nI_lt0, nI_0le, nI_0lt, nI_le0, nI_eq0, nI_clamp, nI_add, bu_nI, bb_0, bb_1, rf_s, rf_n, tl_s, tl_n, am_th_some, if_true, if_false, sI_eq, uI_eq, and_self, true_and, and_true, not_false_eq_true, not_true_eq_false, Nat.reduceEqDiff, Nat.reduceLeDiff, Nat.reduceLT, Nat.reduceAdd, Nat.reduceMul, Nat.reduceSub, Nat.zero_add, hL, hp0, hF]
  | some l =>
    obtain ⟨E, k, PK, tk, EL, im, ⟨k0, N0⟩, k1, N1⟩ := l
    have L := get_l hok
    by_cases e0 : pp_f (PK k) x
    · by_cases e1 : nI 1 ≤ y ∧ y ≤ nI 20
      · obtain ⟨c, hc, rfl, hf⟩ := pp_f_of L.pt.1 L.n25 e0
        obtain ⟨c1, l1, h1, rfl⟩ := in_nat1 (by decide) e1
        refine op_q (v := sp_place (zT E w) (nI (E.2.1 2)) c c1 (zn E) (PK k)) hok (fun d u I R Q h => ?_) (fun d I R Q hr h => ?_)
        · have C := get_c (Q := Q) h hok
          have hL := C.lun L (d + 89)
          have p0 := C.food L (d + 89) (nI c)
          rw [if_pos e0] at p0
          have p1 := c_within (d := d + 89) (x := (nI c1)) (a := nI 1) (b := nI 20) (I := I) (R := R) (Q := Q)
          rw [if_pos e1] at p1
          obtain ⟨J, g1, g2⟩ := c_bestPlace (d := d + 79) C.aa L.hk L.b1 L.n25 L.q9 C.T (C.ov 2 (by decide)) L.pt (by have := L.tm; omega) (p := 12) (cnt := c1) (by decide) (by decide) C.pp (by omega) hc hf
          replace g1 : am_cal (d + 89) _ _ _ _ _ = _ := g1
          refine ⟨J, ?_, fr_mo g2 fun a b j => ahq⟩
          rw [s135]
          simp (disch := first | omega | assumption) only [s135_0, s135_1, s135_4, s135_5, s135_8, s135_11, s135_12, s135_13, s135_15, s135_18, s135_21, s135_22, s135_23, s135_24, s135_27, s135_28, s135_31, s135_32, s135_33, s135_36, nI_le2, nI_lt2, nI_eq2, nI_lt0, nI_0le, nI_0lt, nI_le0, nI_eq0, nI_clamp, nI_add, bu_nI, bb_0, bb_1, rf_s, rf_n, tl_s, tl_n, am_th_some, if_true, if_false, sI_eq, uI_eq, and_self, true_and, and_true, not_false_eq_true, not_true_eq_false, Nat.reduceEqDiff, Nat.reduceLeDiff, Nat.reduceLT, Nat.reduceAdd, Nat.reduceMul, Nat.reduceSub, Nat.zero_add, hL, p0, p1, C.pa.1, C.pa.2.1, C.r9, C.r16, C.r17, g1]
        · have C := get_m (Q := Q) hr h hok
          have hL := C.lun L (d + 89)
          have p0 : am_cal (d + 89) _ _ _ _ _ = _ := C.food L (d + 87) (nI c)
          rw [if_pos e0] at p0
          have p1 := m_inX (d := d + 89) (x := (nI c1)) (lo := nI 1) (hi := nI 20) (I := I) (R := R) (Q := Q)
          rw [if_pos e1] at p1
          obtain ⟨J, g1, g2, g3⟩ := m_place (d := d + 80) hr L.hk L.b1 L.n25 L.q9 C.T (C.ov 2 (by decide)) L.pt (by have := L.tm; omega) C.mm (cnt := c1) ⟨l1, h1⟩ hc hf
          exact ⟨J, g1, fr_mo g2 fun a b j => maq, g3⟩
      · refine op_k (v := -nI 1) hok (fun d u I R Q h => ?_) (fun d I R Q hr h => ?_)
        · have C := get_c (Q := Q) h hok
          have hL := C.lun L (d + 89)
          have p0 := C.food L (d + 89) x
          rw [if_pos e0] at p0
          have p1 := c_within (d := d + 89) (x := y) (a := nI 1) (b := nI 20) (I := I) (R := R) (Q := Q)
          rw [if_neg e1] at p1
          rw [s135]
          simp (disch := first | omega | assumption) only [s135_0, s135_1, s135_4, s135_5, s135_8, s135_11, s135_12, s135_13, s135_15, s135_18, s135_21, s135_22, s135_23, s135_24, s135_27, s135_28, s135_31, s135_32, s135_33, s135_36, nI_le2, nI_lt2, nI_eq2, nI_lt0, nI_0le, nI_0lt, nI_le0, nI_eq0, nI_clamp, nI_add, bu_nI, bb_0, bb_1, rf_s, rf_n, tl_s, tl_n, am_th_some, if_true, if_false, sI_eq, uI_eq, and_self, true_and, and_true, not_false_eq_true, not_true_eq_false, Nat.reduceEqDiff, Nat.reduceLeDiff, Nat.reduceLT, Nat.reduceAdd, Nat.reduceMul, Nat.reduceSub, Nat.zero_add, hL, p0, p1, C.pa.1, C.pa.2.1, C.r9, C.r16, C.r17]
        · have C := get_m (Q := Q) hr h hok
          have hL := C.lun L (d + 89)
          have p0 : am_cal (d + 89) _ _ _ _ _ = _ := C.food L (d + 87) x
          rw [if_pos e0] at p0
          have p1 := m_inX (d := d + 89) (x := y) (lo := nI 1) (hi := nI 20) (I := I) (R := R) (Q := Q)
          rw [if_neg e1] at p1
          rw [s248]
          simp (disch := first | omega | assumption) only [s248_0, s248_1, s248_2, s248_5, s248_8, s248_9, s248_10, s248_12, s248_15, s248_18, s248_19, s248_20, s248_21, s248_22, s248_23, s248_25, s248_26, s248_28, s248_30, s248_31, s248_34, s248_37, s248_39, s248_40, s248_43, s248_44, s248_46, s248_49, s248_52, s248_53, s248_54, s248_57, s248_59, s248_60, s248_63, s248_64, s248_65, s248_67, s248_70, s248_71, s248_72, s248_73, s248_76, s248_77, s248_78, s248_81, s248_82, s248_85, s248_87, s248_89, s248_90, s248_91, s248_92, s248_95, s248_97, s248_99, s248_100, s248_101, s248_102, s248_104, s248_105, s248_106, s248_109, s248_110, s248_111, s248_114, s248_116, s248_118, s248_121, s248_123, s248_124, s248_126, s248_128, s248_131, s248_134, s248_135, nI_le2, nI_lt2, nI_eq2, nI_lt0, nI_0le, nI_0lt, nI_le0, nI_eq0, nI_clamp, nI_add, bu_nI, bb_0, bb_1, rf_s, rf_n, tl_s, tl_n, am_th_some, if_true, if_false, sI_eq, uI_eq, and_self, true_and, and_true, not_false_eq_true, not_true_eq_false, Nat.reduceEqDiff, Nat.reduceLeDiff, Nat.reduceLT, Nat.reduceAdd, Nat.reduceMul, Nat.reduceSub, Nat.zero_add, hL, p0, p1]
    · by_cases e1 : nI 1 ≤ y ∧ y ≤ nI 20
      · refine op_k (v := -nI 1) hok (fun d u I R Q h => ?_) (fun d I R Q hr h => ?_)
        · have C := get_c (Q := Q) h hok
          have hL := C.lun L (d + 89)
          have p0 := C.food L (d + 89) x
          rw [if_neg e0] at p0
          have p1 := c_within (d := d + 89) (x := y) (a := nI 1) (b := nI 20) (I := I) (R := R) (Q := Q)
          rw [if_pos e1] at p1
          rw [s135]
          simp (disch := first | omega | assumption) only [s135_0, s135_1, s135_4, s135_5, s135_8, s135_11, s135_12, s135_13, s135_15, s135_18, s135_21, s135_22, s135_23, s135_24, s135_27, s135_28, s135_31, s135_32, s135_33, s135_36, nI_le2, nI_lt2, nI_eq2, nI_lt0, nI_0le, nI_0lt, nI_le0, nI_eq0, nI_clamp, nI_add, bu_nI, bb_0, bb_1, rf_s, rf_n, tl_s, tl_n, am_th_some, if_true, if_false, sI_eq, uI_eq, and_self, true_and, and_true, not_false_eq_true, not_true_eq_false, Nat.reduceEqDiff, Nat.reduceLeDiff, Nat.reduceLT, Nat.reduceAdd, Nat.reduceMul, Nat.reduceSub, Nat.zero_add, hL, p0, p1, C.pa.1, C.pa.2.1, C.r9, C.r16, C.r17]
        · have C := get_m (Q := Q) hr h hok
          have hL := C.lun L (d + 89)
          have p0 : am_cal (d + 89) _ _ _ _ _ = _ := C.food L (d + 87) x
          rw [if_neg e0] at p0
          have p1 := m_inX (d := d + 89) (x := y) (lo := nI 1) (hi := nI 20) (I := I) (R := R) (Q := Q)
          rw [if_pos e1] at p1
          rw [s248]
          simp (disch := first | omega | assumption) only [s248_0, s248_1, s248_2, s248_5, s248_8, s248_9, s248_10, s248_12, s248_15, s248_18, s248_19, s248_20, s248_21, s248_22, s248_23, s248_25, s248_26, s248_28, s248_30, s248_31, s248_34, s248_37, s248_39, s248_40, s248_43, s248_44, s248_46, s248_49, s248_52, s248_53, s248_54, s248_57, s248_59, s248_60, s248_63, s248_64, s248_65, s248_67, s248_70, s248_71, s248_72, s248_73, s248_76, s248_77, s248_78, s248_81, s248_82, s248_85, s248_87, s248_89, s248_90, s248_91, s248_92, s248_95, s248_97, s248_99, s248_100, s248_101, s248_102, s248_104, s248_105, s248_106, s248_109, s248_110, s248_111, s248_114, s248_116, s248_118, s248_121, s248_123, s248_124, s248_126, s248_128, s248_131, s248_134, s248_135, nI_le2, nI_lt2, nI_eq2, nI_lt0, nI_0le, nI_0lt, nI_le0, nI_eq0, nI_clamp, nI_add, bu_nI, bb_0, bb_1, rf_s, rf_n, tl_s, tl_n, am_th_some, if_true, if_false, sI_eq, uI_eq, and_self, true_and, and_true, not_false_eq_true, not_true_eq_false, Nat.reduceEqDiff, Nat.reduceLeDiff, Nat.reduceLT, Nat.reduceAdd, Nat.reduceMul, Nat.reduceSub, Nat.zero_add, hL, p0, p1]
      · refine op_k (v := -nI 1) hok (fun d u I R Q h => ?_) (fun d I R Q hr h => ?_)
        · have C := get_c (Q := Q) h hok
          have hL := C.lun L (d + 89)
          have p0 := C.food L (d + 89) x
          rw [if_neg e0] at p0
          have p1 := c_within (d := d + 89) (x := y) (a := nI 1) (b := nI 20) (I := I) (R := R) (Q := Q)
          rw [if_neg e1] at p1
          rw [s135]
          simp (disch := first | omega | assumption) only [s135_0, s135_1, s135_4, s135_5, s135_8, s135_11, s135_12, s135_13, s135_15, s135_18, s135_21, s135_22, s135_23, s135_24, s135_27, s135_28, s135_31, s135_32, s135_33, s135_36, nI_le2, nI_lt2, nI_eq2, nI_lt0, nI_0le, nI_0lt, nI_le0, nI_eq0, nI_clamp, nI_add, bu_nI, bb_0, bb_1, rf_s, rf_n, tl_s, tl_n, am_th_some, if_true, if_false, sI_eq, uI_eq, and_self, true_and, and_true, not_false_eq_true, not_true_eq_false, Nat.reduceEqDiff, Nat.reduceLeDiff, Nat.reduceLT, Nat.reduceAdd, Nat.reduceMul, Nat.reduceSub, Nat.zero_add, hL, p0, p1, C.pa.1, C.pa.2.1, C.r9, C.r16, C.r17]
        · have C := get_m (Q := Q) hr h hok
          have hL := C.lun L (d + 89)
          have p0 : am_cal (d + 89) _ _ _ _ _ = _ := C.food L (d + 87) x
          rw [if_neg e0] at p0
          have p1 := m_inX (d := d + 89) (x := y) (lo := nI 1) (hi := nI 20) (I := I) (R := R) (Q := Q)
          rw [if_neg e1] at p1
          rw [s248]
          simp (disch := first | omega | assumption) only [s248_0, s248_1, s248_2, s248_5, s248_8, s248_9, s248_10, s248_12, s248_15, s248_18, s248_19, s248_20, s248_21, s248_22, s248_23, s248_25, s248_26, s248_28, s248_30, s248_31, s248_34, s248_37, s248_39, s248_40, s248_43, s248_44, s248_46, s248_49, s248_52, s248_53, s248_54, s248_57, s248_59, s248_60, s248_63, s248_64, s248_65, s248_67, s248_70, s248_71, s248_72, s248_73, s248_76, s248_77, s248_78, s248_81, s248_82, s248_85, s248_87, s248_89, s248_90, s248_91, s248_92, s248_95, s248_97, s248_99, s248_100, s248_101, s248_102, s248_104, s248_105, s248_106, s248_109, s248_110, s248_111, s248_114, s248_116, s248_118, s248_121, s248_123, s248_124, s248_126, s248_128, s248_131, s248_134, s248_135, nI_le2, nI_lt2, nI_eq2, nI_lt0, nI_0le, nI_0lt, nI_le0, nI_eq0, nI_clamp, nI_add, bu_nI, bb_0, bb_1, rf_s, rf_n, tl_s, tl_n, am_th_some, if_true, if_false, sI_eq, uI_eq, and_self, true_and, and_true, not_false_eq_true, not_true_eq_false, Nat.reduceEqDiff, Nat.reduceLeDiff, Nat.reduceLT, Nat.reduceAdd, Nat.reduceMul, Nat.reduceSub, Nat.zero_add, hL, p0, p1]
theorem op_turning (hok : rel_ok s) : op1 136 250 [.int x] s := by
  obtain ⟨tp, w, st, rf, o⟩ := s
  cases o with
  | none =>
    refine op_k (v := -nI 1000000) hok (fun d u I R Q h => ?_) (fun d I R Q hr h => ?_)
    · have C := get_nc h
      have hL := C.lun (Q := Q) (d + 89)
      have r10 := C.pa.2.1
      rw [s136]
      simp (disch := first | omega | assumption) only [s136_0, s136_1, s136_4, s136_7, s136_8, s136_9, s136_11, s136_14, s136_17, s136_20, s136_21, s136_22, s136_25, s136_26, s136_29, s136_30, s136_31, s136_34, s136_35, s136_38, s136_39, s136_42, s136_43, s136_44, s136_47, s136_48, nI_le2, nI_lt2, nI_eq2, nI_lt0, nI_0le, nI_0lt, nI_le0, nI_eq0, nI_clamp, nI_add, bu_nI, bb_0, bb_1, rf_s, rf_n, tl_s, tl_n, am_th_some, if_true, if_false, sI_eq, uI_eq, and_self, true_and, and_true, not_false_eq_true, not_true_eq_false, Nat.reduceEqDiff, Nat.reduceLeDiff, Nat.reduceLT, Nat.reduceAdd, Nat.reduceMul, Nat.reduceSub, Nat.zero_add, hL, r10]
    · have C := get_nm h
      have hL := C.lun (R := R) (Q := Q) (d + 89)
      have hp0 := fun x => m_power0 (d := d + 88) (R := R) (Q := Q) (x := x) C.hc
      rw [s250]
      simp (disch := first | omega | assumption) only [s250_0, s250_1, s250_4, s250_7, s250_8, s250_9, s250_11, s250_14, s250_17, s250_18, s250_19, s250_20, s250_23, s250_24, s250_25, s250_26, s250_29, s250_30, s250_33, s250_36, nI_le2, nI_lt2, nI_eq2, nI_lt0, nI_0le, nI_0lt, nI_le0, nI_eq0, nI_clamp, nI_add, bu_nI, bb_0, bb_1, rf_s, rf_n, tl_s, tl_n, am_th_some, if_true, if_false, sI_eq, uI_eq, and_self, true_and, and_true, not_false_eq_true, not_true_eq_false, Nat.reduceEqDiff, Nat.reduceLeDiff, Nat.reduceLT, Nat.reduceAdd, Nat.reduceMul, Nat.reduceSub, Nat.zero_add, hL, hp0]
  | some l =>
    obtain ⟨E, k, PK, tk, EL, im, ⟨k0, N0⟩, k1, N1⟩ := l
    have L := get_l hok
    by_cases e0 : nI 1 ≤ x ∧ x ≤ nI 20
    · obtain ⟨c0, l0, h0, rfl⟩ := in_nat1 (by decide) e0
      refine op_q (v := sp_lli (sp_it (zT E w) (nI (E.2.1 2)) (sp_up (PK k) 4 2 (nI 1)) c0) - sp_lli (sp_it (zT E w) (nI (E.2.1 2)) (sp_up (PK k) 4 2 (nI 0)) c0)) hok (fun d u I R Q h => ?_) (fun d I R Q hr h => ?_)
      · have C := get_c (Q := Q) h hok
        have hL := C.lun L (d + 89)
        have p0 := c_within (d := d + 89) (x := (nI c0)) (a := nI 1) (b := nI 20) (I := I) (R := R) (Q := Q)
        rw [if_pos e0] at p0
        obtain ⟨J, g1, g2⟩ := c_leastBehind (d := d + 79) C.aa L.hk L.q9 C.T (C.ov 2 (by decide)) L.pt (by have := L.tm; omega) (p := 12) (c := c0) (t := 1) (by decide) (by decide) C.pp (by omega) (by decide)
        replace g1 : am_cal (d + 89) _ _ _ _ _ = _ := g1
        have e2 : J 14 u 2 = nI (E.2.1 2) := (g2 _ _ _ (by unfold ah_S; omega)).trans (C.ov 2 (by decide))
        obtain ⟨K, k1, k2⟩ := c_leastBehind (d := d + 79) C.aa L.hk L.q9 (cT_fr C.T (fr_mo g2 ah_ev)) e2 L.pt (by have := L.tm; omega) (p := 12) (c := c0) (t := 0) (by decide) (by decide) (pl_fr C.pp g2 (fun a j ha w => by unfold ah_S at w; omega)) (by omega) (by decide)
        replace k1 : am_cal (d + 89) _ _ _ _ _ = _ := k1
        refine ⟨K, ?_, fr_mo (fr_tr g2 k2) fun a b j => ahq⟩
        rw [s136]
        simp (disch := first | omega | assumption) only [s136_0, s136_1, s136_4, s136_7, s136_8, s136_9, s136_11, s136_14, s136_17, s136_20, s136_21, s136_22, s136_25, s136_26, s136_29, s136_30, s136_31, s136_34, s136_35, s136_38, s136_39, s136_42, s136_43, s136_44, s136_47, s136_48, nI_le2, nI_lt2, nI_eq2, nI_lt0, nI_0le, nI_0lt, nI_le0, nI_eq0, nI_clamp, nI_add, bu_nI, bb_0, bb_1, rf_s, rf_n, tl_s, tl_n, am_th_some, if_true, if_false, sI_eq, uI_eq, and_self, true_and, and_true, not_false_eq_true, not_true_eq_false, Nat.reduceEqDiff, Nat.reduceLeDiff, Nat.reduceLT, Nat.reduceAdd, Nat.reduceMul, Nat.reduceSub, Nat.zero_add, hL, p0, C.pa.1, C.pa.2.1, C.r9, C.r16, C.r17, g1, k1]
      · have C := get_m (Q := Q) hr h hok
        have hL := C.lun L (d + 89)
        have p0 := m_inX (d := d + 89) (x := (nI c0)) (lo := nI 1) (hi := nI 20) (I := I) (R := R) (Q := Q)
        rw [if_pos e0] at p0
        obtain ⟨J, g1, g2, g3⟩ := m_leastBy (d := d + 79) hr L.hk L.b1 L.n25 L.q9 C.T (C.ov 2 (by decide)) L.pt (by have := L.tm; omega) C.mm (cnt := c0) (t := 1) (by omega) (by decide)
        replace g1 : am_cal (d + 89) _ _ _ _ _ = _ := g1
        have e2 : J 56 0 2 = nI (E.2.1 2) := (g2 _ _ _ (by unfold ma_S; omega)).trans (C.ov 2 (by decide))
        obtain ⟨K, k1, k2, k3⟩ := m_leastBy (d := d + 79) hr L.hk L.b1 L.n25 L.q9 (mT_fr C.T (fr_mo g2 ma_ev)) e2 L.pt (by have := L.tm; omega) g3 (cnt := c0) (t := 0) (by omega) (by decide)
        replace k1 : am_cal (d + 89) _ _ _ _ _ = _ := k1
        refine ⟨K, ?_, fr_mo (fr_tr g2 k2) fun a b j => maq, k3⟩
        rw [s250]
        simp (disch := first | omega | assumption) only [s250_0, s250_1, s250_4, s250_7, s250_8, s250_9, s250_11, s250_14, s250_17, s250_18, s250_19, s250_20, s250_23, s250_24, s250_25, s250_26, s250_29, s250_30, s250_33, s250_36, nI_le2, nI_lt2, nI_eq2, nI_lt0, nI_0le, nI_0lt, nI_le0, nI_eq0, nI_clamp, nI_add, bu_nI, bb_0, bb_1, rf_s, rf_n, tl_s, tl_n, am_th_some, if_true, if_false, sI_eq, uI_eq, and_self, true_and, and_true, not_false_eq_true, not_true_eq_false, Nat.reduceEqDiff, Nat.reduceLeDiff, Nat.reduceLT, Nat.reduceAdd, Nat.reduceMul, Nat.reduceSub, Nat.zero_add, hL, p0, g1, k1]
    · refine op_k (v := -nI 1000000) hok (fun d u I R Q h => ?_) (fun d I R Q hr h => ?_)
      · have C := get_c (Q := Q) h hok
        have hL := C.lun L (d + 89)
        have p0 := c_within (d := d + 89) (x := x) (a := nI 1) (b := nI 20) (I := I) (R := R) (Q := Q)
        rw [if_neg e0] at p0
        rw [s136]
        simp (disch := first | omega | assumption) only [s136_0, s136_1, s136_4, s136_7, s136_8, s136_9, s136_11, s136_14, s136_17, s136_20, s136_21, s136_22, s136_25, s136_26, s136_29, s136_30, s136_31, s136_34, s136_35, s136_38, s136_39, s136_42, s136_43, s136_44, s136_47, s136_48, nI_le2, nI_lt2, nI_eq2, nI_lt0, nI_0le, nI_0lt, nI_le0, nI_eq0, nI_clamp, nI_add, bu_nI, bb_0, bb_1, rf_s, rf_n, tl_s, tl_n, am_th_some, if_true, if_false, sI_eq, uI_eq, and_self, true_and, and_true, not_false_eq_true, not_true_eq_false, Nat.reduceEqDiff, Nat.reduceLeDiff, Nat.reduceLT, Nat.reduceAdd, Nat.reduceMul, Nat.reduceSub, Nat.zero_add, hL, p0, C.pa.1, C.pa.2.1, C.r9, C.r16, C.r17]
      · have C := get_m (Q := Q) hr h hok
        have hL := C.lun L (d + 89)
        have p0 := m_inX (d := d + 89) (x := x) (lo := nI 1) (hi := nI 20) (I := I) (R := R) (Q := Q)
        rw [if_neg e0] at p0
        rw [s250]
        simp (disch := first | omega | assumption) only [s250_0, s250_1, s250_4, s250_7, s250_8, s250_9, s250_11, s250_14, s250_17, s250_18, s250_19, s250_20, s250_23, s250_24, s250_25, s250_26, s250_29, s250_30, s250_33, s250_36, nI_le2, nI_lt2, nI_eq2, nI_lt0, nI_0le, nI_0lt, nI_le0, nI_eq0, nI_clamp, nI_add, bu_nI, bb_0, bb_1, rf_s, rf_n, tl_s, tl_n, am_th_some, if_true, if_false, sI_eq, uI_eq, and_self, true_and, and_true, not_false_eq_true, not_true_eq_false, Nat.reduceEqDiff, Nat.reduceLeDiff, Nat.reduceLT, Nat.reduceAdd, Nat.reduceMul, Nat.reduceSub, Nat.zero_add, hL, p0]
theorem op_runs (hok : rel_ok s) : op1 137 252 [.int x, .int z] s := by
  obtain ⟨tp, w, st, rf, o⟩ := s
  cases o with
  | none =>
    refine op_k (v := -nI 1000000) hok (fun d u I R Q h => ?_) (fun d I R Q hr h => ?_)
    · have C := get_nc h
      have hL := C.lun (Q := Q) (d + 89)
      have r10 := C.pa.2.1
      rw [s137]
      simp (disch := first | omega | assumption) only [s137_0, s137_1, s137_4, s137_7, s137_8, s137_9, s137_11, s137_14, s137_17, s137_18, s137_19, s137_22, s137_25, s137_28, s137_29, s137_30, s137_33, s137_34, s137_37, s137_38, s137_39, s137_42, s137_45, s137_46, s137_49, s137_52, s137_53, nI_le2, nI_lt2, nI_eq2, nI_lt0, nI_0le, nI_0lt, nI_le0, nI_eq0, nI_clamp, nI_add, bu_nI, bb_0, bb_1, rf_s, rf_n, tl_s, tl_n, am_th_some, if_true, if_false, sI_eq, uI_eq, and_self, true_and, and_true, not_false_eq_true, not_true_eq_false, Nat.reduceEqDiff, Nat.reduceLeDiff, Nat.reduceLT, Nat.reduceAdd, Nat.reduceMul, Nat.reduceSub, Nat.zero_add, hL, r10]
    · have C := get_nm h
      have hL := C.lun (R := R) (Q := Q) (d + 89)
      have hp0 := fun x => m_power0 (d := d + 88) (R := R) (Q := Q) (x := x) C.hc
      rw [s252]
      simp (disch := first | omega | assumption) only [s252_0, s252_1, s252_2, s252_5, s252_8, s252_9, s252_10, s252_12, s252_15, s252_18, s252_21, s252_22, s252_23, s252_26, s252_27, s252_28, s252_29, s252_32, s252_33, s252_34, s252_35, s252_38, s252_39, s252_42, s252_43, s252_44, s252_46, s252_47, s252_48, s252_51, s252_53, nI_le2, nI_lt2, nI_eq2, nI_lt0, nI_0le, nI_0lt, nI_le0, nI_eq0, nI_clamp, nI_add, bu_nI, bb_0, bb_1, rf_s, rf_n, tl_s, tl_n, am_th_some, if_true, if_false, sI_eq, uI_eq, and_self, true_and, and_true, not_false_eq_true, not_true_eq_false, Nat.reduceEqDiff, Nat.reduceLeDiff, Nat.reduceLT, Nat.reduceAdd, Nat.reduceMul, Nat.reduceSub, Nat.zero_add, hL, hp0]
  | some l =>
    obtain ⟨E, k, PK, tk, EL, im, ⟨k0, N0⟩, k1, N1⟩ := l
    have L := get_l hok
    by_cases e0 : nI 1 ≤ x ∧ x ≤ nI 20
    · by_cases e1 : 0 ≤ z ∧ z ≤ nI (E.2.1 2)
      · obtain ⟨c0, l0, h0, rfl⟩ := in_nat1 (by decide) e0
        obtain ⟨q, hq, rfl⟩ := in_nat0 (by have := L.q9; omega) e1
        have hq9 : q ≤ 9 := Nat.le_trans hq L.q9
        refine op_q (v := sp_most (sp_it (zT E w) (nI q) (PK k) c0) - sp_least (sp_it (zT E w) (nI q) (PK k) c0) - (sp_most (PK k) - sp_least (PK k))) hok (fun d u I R Q h => ?_) (fun d I R Q hr h => ?_)
        · have C := get_c (Q := Q) h hok
          have hL := C.lun L (d + 89)
          have p0 := c_within (d := d + 89) (x := (nI c0)) (a := nI 1) (b := nI 20) (I := I) (R := R) (Q := Q)
          rw [if_pos e0] at p0
          have p1 := C.pow L (d + 89) (nI q)
          rw [if_pos e1] at p1
          obtain ⟨J, g1, g2, g3⟩ := c_behind (d := d + 80) C.aa C.T L.hk L.pt (by have := L.tm; omega) hq9 (p := 12) (by decide) (by decide) C.pp (c := c0) (by omega)
          replace g1 : am_cal (d + 89) _ _ _ _ _ = _ := g1
          have a1 := c_apartP (d := d + 88) (Q := Q) (C.aa.2.2.2.2.1 2 (by decide)) g3
          have a2 := c_apartP (d := d + 88) (Q := Q) (C.aa.2.2.2.2.1 12 (by decide)) (pl_fr C.pp g2 (fun a j ha w => by unfold ah_S at w; omega))
          refine ⟨J, ?_, fr_mo g2 fun a b j => ahq⟩
          rw [s137]
          simp (disch := first | omega | assumption) only [s137_0, s137_1, s137_4, s137_7, s137_8, s137_9, s137_11, s137_14, s137_17, s137_18, s137_19, s137_22, s137_25, s137_28, s137_29, s137_30, s137_33, s137_34, s137_37, s137_38, s137_39, s137_42, s137_45, s137_46, s137_49, s137_52, s137_53, nI_le2, nI_lt2, nI_eq2, nI_lt0, nI_0le, nI_0lt, nI_le0, nI_eq0, nI_clamp, nI_add, bu_nI, bb_0, bb_1, rf_s, rf_n, tl_s, tl_n, am_th_some, if_true, if_false, sI_eq, uI_eq, and_self, true_and, and_true, not_false_eq_true, not_true_eq_false, Nat.reduceEqDiff, Nat.reduceLeDiff, Nat.reduceLT, Nat.reduceAdd, Nat.reduceMul, Nat.reduceSub, Nat.zero_add, hL, p0, p1, C.pa.1, C.pa.2.1, C.r9, C.r16, C.r17, g1, a1, a2]
        · have C := get_m (Q := Q) hr h hok
          have hL := C.lun L (d + 89)
          have p0 := m_inX (d := d + 89) (x := (nI c0)) (lo := nI 1) (hi := nI 20) (I := I) (R := R) (Q := Q)
          rw [if_pos e0] at p0
          have p1 : am_cal (d + 89) _ _ _ _ _ = _ := C.pow L (d + 88) (nI q)
          rw [if_pos e1] at p1
          obtain ⟨J1, a1, a2, a3, a4⟩ := m_putAside (d := d + 89) (Q := Q) hr C.mm (dep := 0) (by decide)
          obtain ⟨J2, b1, b2, b3⟩ := m_heatMany (d := d + 80) hr (mT_fr C.T (fr_mo (fr_mo a2 asS_ma) ma_ev)) L.hk L.pt (by have := L.tm; omega) hq9 a4 (cnt := c0) (by omega)
          replace b1 : am_cal (d + 89) _ _ _ _ _ = _ := b1
          have hIk := it_I (q := q) L.hk L.pt c0
          obtain ⟨J3, c1, c2, c3⟩ := m_takeBack (d := d + 89) (R := R) (Q := Q) hr (dep := 0) (by decide) (ma_fr a3 b2 (fun j _ _ w => by unfold mk_S at w; omega)) (b3.2.1.trans (hIk.1.trans L.pt.1.symm))
          have e1 := m_apartNow (d := d + 84) (Q := Q) L.b1 hr C.mm L.n25 L.pt
          have e2 := m_apartNow (d := d + 84) (Q := Q) L.b1 hr b3 L.n25 hIk
          replace e1 : am_cal (d + 89) _ _ _ _ _ = _ := e1
          replace e2 : am_cal (d + 89) _ _ _ _ _ = _ := e2
          refine ⟨J3, ?_, fr_mo (fr_x (fr_x (fr_mo a2 asS_ma) b2 mkS_ma) c2 mmS_ma) fun a b j => maq, c3⟩
          rw [s252]
          simp (disch := first | omega | assumption) only [s252_0, s252_1, s252_2, s252_5, s252_8, s252_9, s252_10, s252_12, s252_15, s252_18, s252_21, s252_22, s252_23, s252_26, s252_27, s252_28, s252_29, s252_32, s252_33, s252_34, s252_35, s252_38, s252_39, s252_42, s252_43, s252_44, s252_46, s252_47, s252_48, s252_51, s252_53, nI_le2, nI_lt2, nI_eq2, nI_lt0, nI_0le, nI_0lt, nI_le0, nI_eq0, nI_clamp, nI_add, bu_nI, bb_0, bb_1, rf_s, rf_n, tl_s, tl_n, am_th_some, if_true, if_false, sI_eq, uI_eq, and_self, true_and, and_true, not_false_eq_true, not_true_eq_false, Nat.reduceEqDiff, Nat.reduceLeDiff, Nat.reduceLT, Nat.reduceAdd, Nat.reduceMul, Nat.reduceSub, Nat.zero_add, hL, p0, p1, a1, b1, c1, e1, e2]
      · refine op_k (v := -nI 1000000) hok (fun d u I R Q h => ?_) (fun d I R Q hr h => ?_)
        · have C := get_c (Q := Q) h hok
          have hL := C.lun L (d + 89)
          have p0 := c_within (d := d + 89) (x := x) (a := nI 1) (b := nI 20) (I := I) (R := R) (Q := Q)
          rw [if_pos e0] at p0
          have p1 := C.pow L (d + 89) z
          rw [if_neg e1] at p1
          rw [s137]
          simp (disch := first | omega | assumption) only [s137_0, s137_1, s137_4, s137_7, s137_8, s137_9, s137_11, s137_14, s137_17, s137_18, s137_19, s137_22, s137_25, s137_28, s137_29, s137_30, s137_33, s137_34, s137_37, s137_38, s137_39, s137_42, s137_45, s137_46, s137_49, s137_52, s137_53, nI_le2, nI_lt2, nI_eq2, nI_lt0, nI_0le, nI_0lt, nI_le0, nI_eq0, nI_clamp, nI_add, bu_nI, bb_0, bb_1, rf_s, rf_n, tl_s, tl_n, am_th_some, if_true, if_false, sI_eq, uI_eq, and_self, true_and, and_true, not_false_eq_true, not_true_eq_false, Nat.reduceEqDiff, Nat.reduceLeDiff, Nat.reduceLT, Nat.reduceAdd, Nat.reduceMul, Nat.reduceSub, Nat.zero_add, hL, p0, p1, C.pa.1, C.pa.2.1, C.r9, C.r16, C.r17]
        · have C := get_m (Q := Q) hr h hok
          have hL := C.lun L (d + 89)
          have p0 := m_inX (d := d + 89) (x := x) (lo := nI 1) (hi := nI 20) (I := I) (R := R) (Q := Q)
          rw [if_pos e0] at p0
          have p1 : am_cal (d + 89) _ _ _ _ _ = _ := C.pow L (d + 88) z
          rw [if_neg e1] at p1
          rw [s252]
          simp (disch := first | omega | assumption) only [s252_0, s252_1, s252_2, s252_5, s252_8, s252_9, s252_10, s252_12, s252_15, s252_18, s252_21, s252_22, s252_23, s252_26, s252_27, s252_28, s252_29, s252_32, s252_33, s252_34, s252_35, s252_38, s252_39, s252_42, s252_43, s252_44, s252_46, s252_47, s252_48, s252_51, s252_53, nI_le2, nI_lt2, nI_eq2, nI_lt0, nI_0le, nI_0lt, nI_le0, nI_eq0, nI_clamp, nI_add, bu_nI, bb_0, bb_1, rf_s, rf_n, tl_s, tl_n, am_th_some, if_true, if_false, sI_eq, uI_eq, and_self, true_and, and_true, not_false_eq_true, not_true_eq_false, Nat.reduceEqDiff, Nat.reduceLeDiff, Nat.reduceLT, Nat.reduceAdd, Nat.reduceMul, Nat.reduceSub, Nat.zero_add, hL, p0, p1]
    · by_cases e1 : 0 ≤ z ∧ z ≤ nI (E.2.1 2)
      · refine op_k (v := -nI 1000000) hok (fun d u I R Q h => ?_) (fun d I R Q hr h => ?_)
        · have C := get_c (Q := Q) h hok
          have hL := C.lun L (d + 89)
          have p0 := c_within (d := d + 89) (x := x) (a := nI 1) (b := nI 20) (I := I) (R := R) (Q := Q)
          rw [if_neg e0] at p0
          have p1 := C.pow L (d + 89) z
          rw [if_pos e1] at p1
          rw [s137]
          simp (disch := first | omega | assumption) only [s137_0, s137_1, s137_4, s137_7, s137_8, s137_9, s137_11, s137_14, s137_17, s137_18, s137_19, s137_22, s137_25, s137_28, s137_29, s137_30, s137_33, s137_34, s137_37, s137_38, s137_39, s137_42, s137_45, s137_46, s137_49, s137_52, s137_53, nI_le2, nI_lt2, nI_eq2, nI_lt0, nI_0le, nI_0lt, nI_le0, nI_eq0, nI_clamp, nI_add, bu_nI, bb_0, bb_1, rf_s, rf_n, tl_s, tl_n, am_th_some, if_true, if_false, sI_eq, uI_eq, and_self, true_and, and_true, not_false_eq_true, not_true_eq_false, Nat.reduceEqDiff, Nat.reduceLeDiff, Nat.reduceLT, Nat.reduceAdd, Nat.reduceMul, Nat.reduceSub, Nat.zero_add, hL, p0, p1, C.pa.1, C.pa.2.1, C.r9, C.r16, C.r17]
        · have C := get_m (Q := Q) hr h hok
          have hL := C.lun L (d + 89)
          have p0 := m_inX (d := d + 89) (x := x) (lo := nI 1) (hi := nI 20) (I := I) (R := R) (Q := Q)
          rw [if_neg e0] at p0
          have p1 : am_cal (d + 89) _ _ _ _ _ = _ := C.pow L (d + 88) z
          rw [if_pos e1] at p1
          rw [s252]
          simp (disch := first | omega | assumption) only [s252_0, s252_1, s252_2, s252_5, s252_8, s252_9, s252_10, s252_12, s252_15, s252_18, s252_21, s252_22, s252_23, s252_26, s252_27, s252_28, s252_29, s252_32, s252_33, s252_34, s252_35, s252_38, s252_39, s252_42, s252_43, s252_44, s252_46, s252_47, s252_48, s252_51, s252_53, nI_le2, nI_lt2, nI_eq2, nI_lt0, nI_0le, nI_0lt, nI_le0, nI_eq0, nI_clamp, nI_add, bu_nI, bb_0, bb_1, rf_s, rf_n, tl_s, tl_n, am_th_some, if_true, if_false, sI_eq, uI_eq, and_self, true_and, and_true, not_false_eq_true, not_true_eq_false, Nat.reduceEqDiff, Nat.reduceLeDiff, Nat.reduceLT, Nat.reduceAdd, Nat.reduceMul, Nat.reduceSub, Nat.zero_add, hL, p0, p1]
      · refine op_k (v := -nI 1000000) hok (fun d u I R Q h => ?_) (fun d I R Q hr h => ?_)
        · have C := get_c (Q := Q) h hok
          have hL := C.lun L (d + 89)
          have p0 := c_within (d := d + 89) (x := x) (a := nI 1) (b := nI 20) (I := I) (R := R) (Q := Q)
          rw [if_neg e0] at p0
          have p1 := C.pow L (d + 89) z
          rw [if_neg e1] at p1
          rw [s137]
          simp (disch := first | omega | assumption) only [s137_0, s137_1, s137_4, s137_7, s137_8, s137_9, s137_11, s137_14, s137_17, s137_18, s137_19, s137_22, s137_25, s137_28, s137_29, s137_30, s137_33, s137_34, s137_37, s137_38, s137_39, s137_42, s137_45, s137_46, s137_49, s137_52, s137_53, nI_le2, nI_lt2, nI_eq2, nI_lt0, nI_0le, nI_0lt, nI_le0, nI_eq0, nI_clamp, nI_add, bu_nI, bb_0, bb_1, rf_s, rf_n, tl_s, tl_n, am_th_some, if_true, if_false, sI_eq, uI_eq, and_self, true_and, and_true, not_false_eq_true, not_true_eq_false, Nat.reduceEqDiff, Nat.reduceLeDiff, Nat.reduceLT, Nat.reduceAdd, Nat.reduceMul, Nat.reduceSub, Nat.zero_add, hL, p0, p1, C.pa.1, C.pa.2.1, C.r9, C.r16, C.r17]
        · have C := get_m (Q := Q) hr h hok
          have hL := C.lun L (d + 89)
          have p0 := m_inX (d := d + 89) (x := x) (lo := nI 1) (hi := nI 20) (I := I) (R := R) (Q := Q)
          rw [if_neg e0] at p0
          have p1 : am_cal (d + 89) _ _ _ _ _ = _ := C.pow L (d + 88) z
          rw [if_neg e1] at p1
          rw [s252]
          simp (disch := first | omega | assumption) only [s252_0, s252_1, s252_2, s252_5, s252_8, s252_9, s252_10, s252_12, s252_15, s252_18, s252_21, s252_22, s252_23, s252_26, s252_27, s252_28, s252_29, s252_32, s252_33, s252_34, s252_35, s252_38, s252_39, s252_42, s252_43, s252_44, s252_46, s252_47, s252_48, s252_51, s252_53, nI_le2, nI_lt2, nI_eq2, nI_lt0, nI_0le, nI_0lt, nI_le0, nI_eq0, nI_clamp, nI_add, bu_nI, bb_0, bb_1, rf_s, rf_n, tl_s, tl_n, am_th_some, if_true, if_false, sI_eq, uI_eq, and_self, true_and, and_true, not_false_eq_true, not_true_eq_false, Nat.reduceEqDiff, Nat.reduceLeDiff, Nat.reduceLT, Nat.reduceAdd, Nat.reduceMul, Nat.reduceSub, Nat.zero_add, hL, p0, p1]
end
