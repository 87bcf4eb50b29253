/-! The law: SPOT, what is no call, the loop. -/
theorem rF_c2 {R R' : am_R} (h : rF R) (e : ∀ a b j, a < 100 → R' a b j = R a b j) : rF R' := by
  unfold rF pa_R ac_R pp_R lo_R nt_R zc_R tc_R lw_R mm_R at h ⊢
  simp (disch := omega) only [e]
  exact h
theorem rel_c2 {s : zSt} {u : Nat} {I : am_I} {R R' : am_R} (h : rel_c s u I R) (e : ∀ a b j, a < 100 → R' a b j = R a b j) : rel_c s u I R' := by
  obtain ⟨⟨h1, h2, h3, h4, h5⟩, h6⟩ := h
  exact ⟨⟨rF_c2 h1 e, h2, (e _ _ _ (by decide)).trans h3, (e _ _ _ (by decide)).trans h4, (e _ _ _ (by decide)).trans h5⟩, h6⟩
section
variable {d L c u : Nat} {xs : Nat → Int32} {s : zSt} {I I' : am_I} {R R' : am_R} {Q Q' : am_Q} {l5 l6 : Value} {x y v : Int32}
theorem cal_950v (g : am_cal d 110 [.ref (am_mk 11 0), .int x, .int y] I R Q = some (some (.int v), I', R', Q')) : am_cal d 950 [.ref (am_mk 11 0), .int x, .int y, .ref (am_mk 72 0)] I R Q = some (some (.int (nI 0)), I', R', am_sQ Q' 72 0 (am_uQ (Q' 72 0) 0 v.toInt64)) := by
  have g' : am_ev d am_spot 0 (am_lo am_spot [.ref (am_mk 11 0), .int x, .int y]) [] I R Q = some (some (.int v), I', R', Q') := by
    rw [← g, am_cal_ev (by decide)]
    rfl
  unfold am_cal am_cl
  rw [if_neg (by decide), if_pos rfl]
  dsimp only
  rw [if_pos ⟨rfl, rfl⟩, g']
  rfl
theorem cal_950t (g : am_cal d 110 [.ref (am_mk 11 0), .int x, .int y] I R Q = some (none, I', R', Q')) : am_cal d 950 [.ref (am_mk 11 0), .int x, .int y, .ref (am_mk 72 0)] I R Q = some (some (.int (nI 1)), I', am_sR R' 126 0 (fun _ => some (am_gx R' + 1)), Q') := by
  have g' : am_ev d am_spot 0 (am_lo am_spot [.ref (am_mk 11 0), .int x, .int y]) [] I R Q = some (none, I', R', Q') := by
    rw [← g, am_cal_ev (by decide)]
    rfl
  unfold am_cal am_cl
  rw [if_neg (by decide), if_pos rfl]
  dsimp only
  rw [if_pos ⟨rfl, rfl⟩, g']
  rfl
theorem m_thrown : am_cal d 159 [.ref (am_mk 12 0)] I R Q = some (some (.int (I 12 0 0)), I, R, Q) := by
  rw [s159]
  simp (disch := first | omega | assumption) only [s159_0, s159_1, s159_4, nI_le2, nI_lt2, nI_eq2, nI_lt0, nI_0le, nI_0lt, nI_le0, nI_eq0, nI_clamp, nI_add, bu_nI, bb_0, bb_1, rf_s, rf_n, tl_s, tl_n, am_th_some, if_true, if_false, sI_eq, uI_eq, and_self, true_and, and_true, not_false_eq_true, not_true_eq_false, Nat.reduceEqDiff, Nat.reduceLeDiff, Nat.reduceLT, Nat.reduceAdd, Nat.reduceMul, Nat.reduceSub, Nat.zero_add]
theorem cmp_eq (x : Int64) : lg_cmp x x = nI 0 := by
  unfold lg_cmp
  rw [if_neg (by simp), if_pos rfl]
  rfl
theorem lc_5 (hS : lS L xs c s u I R) (hc : 6 * c + 6 ≤ L) (hv : xs (6 * c) &&& nI 63 = nI 5) : lc_G d L xs c I R Q l5 l6 := by
  obtain ⟨h1, h2, h3, hI, lI, h6, h7⟩ := id hS
  have n10 : ((nI 1 : Int32) = 0) = False := by decide
  rcases op_spot (x := xs (6 * c + 1)) (y := xs (6 * c + 2)) h1 with ⟨v, hc1, hm1⟩ | ⟨hc1, hm1⟩
  · have g1 := cal_950v (hc1 d u I R Q h2)
    obtain ⟨K, g2, f2, k0⟩ := hm1 d I R (am_sQ Q 72 0 (am_uQ (Q 72 0) 0 v.toInt64)) (rF_mm h2.1.1) h3
    have g3 := m_thrown (d := d + 90) (I := K) (R := R) (Q := am_sQ Q 72 0 (am_uQ (Q 72 0) 0 v.toInt64))
    rw [k0] at g3
    have q460 : ∀ {d : Nat} {l0 l1 l2 l3 l4 l5 l6 : Value} {st : List Value} {I : am_I} {R : am_R}, am_ev d 280 460 [l0, l1, l2, l3, l4, l5, l6] (.int (nI 0) :: .ref (am_mk 72 0) :: st) I R (am_sQ Q 72 0 (am_uQ (Q 72 0) 0 v.toInt64)) = am_ev d 280 461 [l0, l1, l2, l3, l4, l5, l6] (.long v.toInt64 :: st) I R (am_sQ Q 72 0 (am_uQ (Q 72 0) 0 v.toInt64)) := fun {d l0 l1 l2 l3 l4 l5 l6 st I R} => (s280_460 ⟨rfl, by decide⟩ ⟨by decide, by decide⟩).trans (by
      have e : am_sQ Q 72 0 (am_uQ (Q 72 0) 0 v.toInt64) 72 0 (nI 0).toNatClampNeg = v.toInt64 := by
        unfold am_sQ am_uQ
        rw [if_pos ⟨rfl, rfl⟩]
        exact if_pos rfl
      rw [e])
    have ew : ∀ {a b j}, ¬ (a = 12 ∧ b = 0 ∧ j = 0) → K a b j = I a b j := fun {a b j} w => f2 _ _ _ w
    have lJ : K 121 0 0 = nI L ∧ L ≤ 3072 := ⟨(ew (by decide)).trans lI.1, lI.2⟩
    refine ⟨s, u, K, R, am_sQ Q 72 0 (am_uQ (Q 72 0) 0 v.toInt64), .int (nI 0), .int v, ?_, h1, relc_fr h2 h1 (fr_mo f2 fun a b j w => Or.inl (Or.inl (Or.inl w.1))), relm_fr h3 h1 (fr_mo f2 fun a b j w => Or.inr (Or.inl ⟨w.1, Or.inl w.2.2⟩)), fun j => (ew (by omega)).trans (hI j), lJ, h6, Nat.le_succ_of_le h7⟩
    simp (disch := first | omega | assumption) only [s280_33, s280_34, r280_36 lI, s280_37, s280_39, e280_5, s280_405, s280_406, s280_407, s280_409, s280_410, r280_411 lI, s280_412, s280_413, s280_415, s280_416, r280_417 lI, s280_418, s280_419, s280_422, s280_424, s280_425, s280_426, s280_428, s280_429, r280_430 lI, s280_431, s280_432, s280_434, s280_435, r280_436 lI, s280_437, s280_440, s280_442, s280_443, s280_446, s280_448, s280_451, s280_452, s280_453, s280_455, s280_458, s280_459, s280_461, s280_463, s280_464, s280_465, s280_468, s280_469, s280_470, s280_1575, s280_1578, q460, cmp_eq, nI_le2, nI_lt2, nI_eq2, nI_lt0, nI_0le, nI_0lt, nI_le0, nI_eq0, nI_clamp, nI_add, bu_nI, bb_0, bb_1, rf_s, rf_n, tl_s, tl_n, am_th_some, if_true, if_false, eq_self, Nat.add_assoc, not_false_eq_true, not_true_eq_false, Nat.reduceEqDiff, Nat.reduceLeDiff, Nat.reduceLT, Nat.reduceAdd, Nat.reduceMul, Nat.reduceSub, Nat.zero_add, hI, hv, g1, g2, g3, n10]
  · have g1 := cal_950t (hc1 d u I R Q h2)
    have e : ∀ a b j, ¬ a = 126 → am_sR R 126 0 (fun _ => some (am_gx R + 1)) a b j = R a b j := fun a b j ha => by
      unfold am_sR
      rw [if_neg (fun w => ha w.1)]
    have hg : am_gx (am_sR R 126 0 (fun _ => some (am_gx R + 1))) = am_gx R + 1 := by
      show (am_sR R 126 0 (fun _ => some (am_gx R + 1)) 126 0 0).getD 0 = _
      unfold am_sR
      rw [if_pos ⟨rfl, rfl⟩]
      rfl
    generalize am_sR R 126 0 (fun _ => some (am_gx R + 1)) = R1 at g1 e hg
    have c1 := rel_c2 (R' := R1) h2 fun a b j ha => e a b j (by omega)
    obtain ⟨v, K, g2, f2, k0⟩ := hm1 d I R1 Q (rF_mm c1.1.1) h3
    have g3 := m_thrown (d := d + 90) (I := K) (R := R1) (Q := Q)
    rw [k0] at g3
    have ew : ∀ {a b j}, ¬ (a = 12 ∧ b = 0 ∧ j = 0) → K a b j = I a b j := fun {a b j} w => f2 _ _ _ w
    have lJ : K 121 0 0 = nI L ∧ L ≤ 3072 := ⟨(ew (by decide)).trans lI.1, lI.2⟩
    refine ⟨s, u, K, R1, Q, .int (nI 1), .int v, ?_, h1, relc_fr c1 h1 (fr_mo f2 fun a b j w => Or.inl (Or.inl (Or.inl w.1))), relm_fr h3 h1 (fr_mo f2 fun a b j w => Or.inr (Or.inl ⟨w.1, Or.inl w.2.2⟩)), fun j => (ew (by omega)).trans (hI j), lJ, (e _ _ _ (by decide)).trans h6, by rw [hg]; omega⟩
    simp (disch := first | omega | assumption) only [s280_33, s280_34, r280_36 lI, s280_37, s280_39, e280_5, s280_405, s280_406, s280_407, s280_409, s280_410, r280_411 lI, s280_412, s280_413, s280_415, s280_416, r280_417 lI, s280_418, s280_419, s280_422, s280_424, s280_425, s280_426, s280_428, s280_429, r280_430 lI, s280_431, s280_432, s280_434, s280_435, r280_436 lI, s280_437, s280_440, s280_442, s280_443, s280_446, s280_448, s280_451, s280_452, s280_453, s280_455, s280_458, s280_459, s280_461, s280_463, s280_464, s280_465, s280_468, s280_469, s280_470, s280_1575, s280_1578, nI_le2, nI_lt2, nI_eq2, nI_lt0, nI_0le, nI_0lt, nI_le0, nI_eq0, nI_clamp, nI_add, bu_nI, bb_0, bb_1, rf_s, rf_n, tl_s, tl_n, am_th_some, if_true, if_false, eq_self, Nat.add_assoc, not_false_eq_true, not_true_eq_false, Nat.reduceEqDiff, Nat.reduceLeDiff, Nat.reduceLT, Nat.reduceAdd, Nat.reduceMul, Nat.reduceSub, Nat.zero_add, hI, hv, g1, g2, g3, n10]
theorem lc_d (hS : lS L xs c s u I R) (hc : 6 * c + 6 ≤ L) (hv : (xs (6 * c) &&& nI 63).toInt < 0 ∨ 43 < (xs (6 * c) &&& nI 63).toInt) : lc_G d L xs c I R Q l5 l6 := by
  obtain ⟨h1, h2, h3, hI, lI, h6, h7⟩ := id hS
  refine ⟨s, u, I, R, Q, l5, l6, ?_, lS_up hS (Nat.le_succ c)⟩
  have h40 := fun {d l0 l1 l2 l3 l4 l5 l6 st I R Q} => @s280_40d d l0 l1 l2 l3 l4 l5 l6 st (xs (6 * c) &&& nI 63) I R Q hv
  simp (disch := first | omega | assumption) only [s280_33, s280_34, r280_36 lI, s280_37, s280_39, s280_1575, s280_1578, nI_le2, nI_lt2, nI_eq2, nI_lt0, nI_0le, nI_0lt, nI_le0, nI_eq0, nI_clamp, nI_add, bu_nI, bb_0, bb_1, rf_s, rf_n, tl_s, tl_n, am_th_some, if_true, if_false, eq_self, Nat.add_assoc, not_false_eq_true, not_true_eq_false, Nat.reduceEqDiff, Nat.reduceLeDiff, Nat.reduceLT, Nat.reduceAdd, Nat.reduceMul, Nat.reduceSub, Nat.zero_add, hI, h40]
theorem lc_all (hS : lS L xs c s u I R) (hc : 6 * c + 6 ≤ L) : lc_G d L xs c I R Q l5 l6 := by
  by_cases hx : ∃ k, k ≤ 43 ∧ xs (6 * c) &&& nI 63 = nI k
  · obtain ⟨k, hk, e⟩ := hx
    rcases (show k = 0 ∨ k = 1 ∨ k = 2 ∨ k = 3 ∨ k = 4 ∨ k = 5 ∨ k = 6 ∨ k = 7 ∨ k = 8 ∨ k = 9 ∨ k = 10 ∨ k = 11 ∨ k = 12 ∨ k = 13 ∨ k = 14 ∨ k = 15 ∨ k = 16 ∨ k = 17 ∨ k = 18 ∨ k = 19 ∨ k = 20 ∨ k = 21 ∨ k = 22 ∨ k = 23 ∨ k = 24 ∨ k = 25 ∨ k = 26 ∨ k = 27 ∨ k = 28 ∨ k = 29 ∨ k = 30 ∨ k = 31 ∨ k = 32 ∨ k = 33 ∨ k = 34 ∨ k = 35 ∨ k = 36 ∨ k = 37 ∨ k = 38 ∨ k = 39 ∨ k = 40 ∨ k = 41 ∨ k = 42 ∨ k = 43 by omega) with rfl | rfl | rfl | rfl | rfl | rfl | rfl | rfl | rfl | rfl | rfl | rfl | rfl | rfl | rfl | rfl | rfl | rfl | rfl | rfl | rfl | rfl | rfl | rfl | rfl | rfl | rfl | rfl | rfl | rfl | rfl | rfl | rfl | rfl | rfl | rfl | rfl | rfl | rfl | rfl | rfl | rfl | rfl | rfl
    · exact lc_0 hS hc e
    · exact lc_1 hS hc e
    · exact lc_2 hS hc e
    · exact lc_3 hS hc e
    · exact lc_4 hS hc e
    · exact lc_5 hS hc e
    · exact lc_6 hS hc e
    · exact lc_7 hS hc e
    · exact lc_8 hS hc e
    · exact lc_9 hS hc e
    · exact lc_10 hS hc e
    · exact lc_11 hS hc e
    · exact lc_12 hS hc e
    · exact lc_13 hS hc e
    · exact lc_14 hS hc e
    · exact lc_15 hS hc e
    · exact lc_16 hS hc e
    · exact lc_17 hS hc e
    · exact lc_18 hS hc e
    · exact lc_19 hS hc e
    · exact lc_20 hS hc e
    · exact lc_21 hS hc e
    · exact lc_22 hS hc e
    · exact lc_23 hS hc e
    · exact lc_24 hS hc e
    · exact lc_25 hS hc e
    · exact lc_26 hS hc e
    · exact lc_27 hS hc e
    · exact lc_28 hS hc e
    · exact lc_29 hS hc e
    · exact lc_30 hS hc e
    · exact lc_31 hS hc e
    · exact lc_32 hS hc e
    · exact lc_33 hS hc e
    · exact lc_34 hS hc e
    · exact lc_35 hS hc e
    · exact lc_36 hS hc e
    · exact lc_37 hS hc e
    · exact lc_38 hS hc e
    · exact lc_39 hS hc e
    · exact lc_40 hS hc e
    · exact lc_41 hS hc e
    · exact lc_42 hS hc e
    · exact lc_43 hS hc e
  · exact lc_d hS hc (tsw_out (n := 43) (by decide) fun k hk e => hx ⟨k, hk, e⟩)
/-- is the loop at its end? -/
theorem lc_cmp (hL : L ≤ 3072) (hc : 6 * c ≤ L) : (nI L - nI 6 < nI (6 * c)) = (L < 6 * c + 6) := by
  refine propext ?_
  have h6 : (nI 6).toInt = 6 := by decide
  rw [Int32.lt_iff_toInt_lt, nI_toInt (by omega), Int32.toInt_sub, nI_toInt (by omega), h6]
  have e : ((L : Int) - 6).bmod (2 ^ 32) = (L : Int) - 6 := by
    rw [Int.bmod_eq_of_le (by omega) (by omega)]
  rw [e]
  omega
theorem lc_loop (hS : lS L xs 0 s u I R) (l5 l6 : Value) : ∃ (I' : am_I) (R' : am_R) (Q' : am_Q), am_ev (d + 91) 280 23 [.ref (am_mk 120 0), .ref (am_mk 11 0), .ref (am_mk 12 0), .ref (am_mk 72 0), .int (nI (6 * 0)), l5, l6] [] I R Q = some (some (.int 1), I', R', Q') ∧ R' 127 0 0 = some 365 ∧ am_gx R' ≤ 3072 := by
  have hL := hS.2.2.2.2.1.2
  refine loop_inv (f := fun (a : zSt × Nat × am_I × am_R × am_Q × Value × Value) c => am_ev (d + 91) 280 23 [.ref (am_mk 120 0), .ref (am_mk 11 0), .ref (am_mk 12 0), .ref (am_mk 72 0), .int (nI (6 * c)), a.2.2.2.2.2.1, a.2.2.2.2.2.2] [] a.2.2.1 a.2.2.2.1 a.2.2.2.2.1) (Inv := fun c a => lS L xs c a.1 a.2.1 a.2.2.1 a.2.2.2.1) (Post := fun y => ∃ (I' : am_I) (R' : am_R) (Q' : am_Q), y = some (some (.int 1), I', R', Q') ∧ R' 127 0 0 = some 365 ∧ am_gx R' ≤ 3072) (n := L / 6) ?_ ?_ (Nat.zero_le _) (a := (s, u, I, R, Q, l5, l6)) hS
  · intro c ⟨s, u, I, R, Q, l5, l6⟩ hc hS
    left
    have hc6 : 6 * c + 6 ≤ L := by omega
    obtain ⟨s', u', K, R', Q', m5, m6, g, S'⟩ := lc_all (d := d) (Q := Q) (l5 := l5) (l6 := l6) hS hc6
    refine ⟨(s', u', K, R', Q', m5, m6), ?_, S'⟩
    have lI := hS.2.2.2.2.1
    have q := lc_cmp (c := c) hL (by omega)
    have q' : ¬ L < 6 * c + 6 := by omega
    show am_ev (d + 91) 280 23 [.ref (am_mk 120 0), .ref (am_mk 11 0), .ref (am_mk 12 0), .ref (am_mk 72 0), .int (nI (6 * c)), l5, l6] [] I R Q = am_ev (d + 91) 280 23 [.ref (am_mk 120 0), .ref (am_mk 11 0), .ref (am_mk 12 0), .ref (am_mk 72 0), .int (nI (6 * c + 6)), m5, m6] [] K R' Q'
    rw [← g, s280_23]
    simp (disch := first | omega | assumption) only [s280_25, r280_26 lI, s280_27, s280_29, s280_30, q, q', if_false]
  · intro ⟨s, u, I, R, Q, l5, l6⟩ hS
    have lI := hS.2.2.2.2.1
    have q := lc_cmp (c := L / 6) hL (by omega)
    have q' : L < 6 * (L / 6) + 6 := by omega
    refine ⟨I, R, Q, ?_, hS.2.2.2.2.2.1, Nat.le_trans hS.2.2.2.2.2.2 (by omega)⟩
    show am_ev (d + 91) 280 23 [.ref (am_mk 120 0), .ref (am_mk 11 0), .ref (am_mk 12 0), .ref (am_mk 72 0), .int (nI (6 * (L / 6))), l5, l6] [] I R Q = _
    have e1 : (nI 1 : Int32) = 1 := rfl
    simp (disch := first | omega | assumption) only [s280_23, s280_25, r280_26 lI, s280_27, s280_29, s280_30, s280_1581, s280_1582, q, q', if_true, bb_1]
    rfl
end
