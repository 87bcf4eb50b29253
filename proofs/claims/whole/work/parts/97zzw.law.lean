/-! The law: one call. -/
/-- where the law's loop stands: c calls behind it -/
def lS (L : Nat) (xs : Nat → Int32) (c : Nat) (s : zSt) (u : Nat) (I : am_I) (R : am_R) : Prop := rel_ok s ∧ rel_c s u I R ∧ rel_m s I ∧ (∀ j, I 120 0 j = xs j) ∧ (I 121 0 0 = nI L ∧ L ≤ 3072) ∧ R 127 0 0 = some 365 ∧ am_gx R ≤ c
/-- one turn of the loop -/
def lc_G (d L : Nat) (xs : Nat → Int32) (c : Nat) (I : am_I) (R : am_R) (Q : am_Q) (l5 l6 : Value) : Prop := ∃ (s' : zSt) (u' : Nat) (K : am_I) (R' : am_R) (Q' : am_Q) (l5' l6' : Value), am_ev (d + 91) 280 33 [.ref (am_mk 120 0), .ref (am_mk 11 0), .ref (am_mk 12 0), .ref (am_mk 72 0), .int (nI (6 * c)), l5, l6] [] I R Q = am_ev (d + 91) 280 23 [.ref (am_mk 120 0), .ref (am_mk 11 0), .ref (am_mk 12 0), .ref (am_mk 72 0), .int (nI (6 * c + 6)), l5', l6'] [] K R' Q' ∧ lS L xs (c + 1) s' u' K R'
section
variable {d L c u : Nat} {xs : Nat → Int32} {s : zSt} {I : am_I} {R : am_R} {Q : am_Q} {l5 l6 : Value}
theorem lS_up {c' : Nat} (h : lS L xs c s u I R) (hc : c ≤ c') : lS L xs c' s u I R := ⟨h.1, h.2.1, h.2.2.1, h.2.2.2.1, h.2.2.2.2.1, h.2.2.2.2.2.1, Nat.le_trans h.2.2.2.2.2.2 hc⟩
theorem md_f {u a b j : Nat} (h : mdS a b j) : fC u a b j := by
  unfold mdS at h
  exact Or.inl (Or.inl (by omega))
theorem cl_f {n a b j : Nat} (h : clS a b j) : fM n a b j := by
  unfold clS at h
  exact Or.inl (Or.inl (by omega))
theorem lS_op {Mc Mm : Nat} {as : List Value} (h : op1 Mc Mm as s) (hS : lS L xs c s u I R) (d : Nat) (Q : am_Q) : ∃ (v : Int32) (s' : zSt) (u' : Nat) (J : am_I) (R' : am_R) (K : am_I) (Q' : am_Q), am_cal (d + 90) Mc (.ref (am_mk 11 0) :: as) I R Q = some (some (.int v), J, R', Q) ∧ (∀ j, J 120 0 j = xs j) ∧ (J 121 0 0 = nI L ∧ L ≤ 3072) ∧ am_cal (d + 90) Mm (.ref (am_mk 12 0) :: as) J R' Q = some (some (.int v), K, R', Q') ∧ lS L xs c s' u' K R' := by
  obtain ⟨v, s', hc, hm, ok'⟩ := h
  obtain ⟨h1, h2, h3, h4, h5, h6, h7⟩ := hS
  obtain ⟨J, R', u', g1, f1, r1, k1⟩ := hc d u I R Q h2
  have m1 : rel_m s J := relm_fr h3 h1 (fr_mo f1 fun a b j w => cl_f w)
  have hr : mm_R R' := rF_mm r1.1.1
  obtain ⟨K, Q', g2, f2, r2, k2⟩ := hm d J R' Q hr m1
  have c2 : rel_c s' u' K R' := relc_fr r1 ok' (fr_mo f2 fun a b j w => md_f w)
  have eJ : ∀ a j, 120 ≤ a → J a 0 j = I a 0 j := fun a j ha => f1 _ _ _ (fun w => by unfold clS at w; omega)
  have eK : ∀ a j, 120 ≤ a → K a 0 j = J a 0 j := fun a j ha => f2 _ _ _ (fun w => by unfold mdS at w; omega)
  have hg : am_gx R' = am_gx R := by unfold am_gx; rw [k1 _ _ _ (by decide)]
  exact ⟨v, s', u', J, R', K, Q', g1, fun j => (eJ _ _ (by decide)).trans (h4 j), ⟨(eJ _ _ (by decide)).trans h5.1, h5.2⟩, g2, ok', c2, r2, fun j => (eK _ _ (by decide)).trans ((eJ _ _ (by decide)).trans (h4 j)), ⟨(eK _ _ (by decide)).trans ((eJ _ _ (by decide)).trans h5.1), h5.2⟩, (k1 _ _ _ (by decide)).trans h6, by rw [hg]; exact h7⟩
theorem lc_0 (hS : lS L xs c s u I R) (hc : 6 * c + 6 ≤ L) (hv : xs (6 * c) &&& nI 63 = nI 0) : lc_G d L xs c I R Q l5 l6 := by
  obtain ⟨v, s', u', J, R', K, Q', g1, hJ, lJ, g2, S'⟩ := lS_op (op_feed (X := fun i => xs (6 * c + (i + 1))) hS.1) hS d Q
  obtain ⟨-, -, -, hI, lI, -⟩ := id hS
  refine ⟨s', u', K, R', Q', l5, l6, ?_, lS_up S' (Nat.le_succ c)⟩
  replace g1 : am_cal (d + 90) 97 [.ref (am_mk 11 0), .int (xs (6 * c + 1)), .int (xs (6 * c + 2)), .int (xs (6 * c + 3)), .int (xs (6 * c + 4)), .int (xs (6 * c + 5))] I R Q = _ := g1
  replace g2 : am_cal (d + 90) 161 [.ref (am_mk 12 0), .int (xs (6 * c + 1)), .int (xs (6 * c + 2)), .int (xs (6 * c + 3)), .int (xs (6 * c + 4)), .int (xs (6 * c + 5))] J R' Q = _ := g2
  simp (disch := first | omega | assumption) only [s280_33, s280_34, r280_36 lI, s280_37, s280_39, e280_0, s280_232, s280_233, s280_234, s280_236, s280_237, r280_238 lI, s280_239, s280_240, s280_242, s280_243, r280_244 lI, s280_245, s280_246, s280_248, s280_249, r280_250 lI, s280_251, s280_252, s280_254, s280_255, r280_256 lI, s280_257, s280_258, s280_260, s280_261, r280_262 lI, s280_263, s280_266, s280_267, s280_268, s280_270, s280_271, r280_272 lJ, s280_273, s280_274, s280_276, s280_277, r280_278 lJ, s280_279, s280_280, s280_282, s280_283, r280_284 lJ, s280_285, s280_286, s280_288, s280_289, r280_290 lJ, s280_291, s280_292, s280_294, s280_295, r280_296 lJ, s280_297, s280_300, s280_303, s280_304, s280_1575, s280_1578, nI_le2, nI_lt2, nI_eq2, nI_lt0, nI_0le, nI_0lt, nI_le0, nI_eq0, nI_clamp, nI_add, bu_nI, bb_0, bb_1, rf_s, rf_n, tl_s, tl_n, am_th_some, if_true, if_false, eq_self, Nat.add_assoc, not_false_eq_true, not_true_eq_false, Nat.reduceEqDiff, Nat.reduceLeDiff, Nat.reduceLT, Nat.reduceAdd, Nat.reduceMul, Nat.reduceSub, Nat.zero_add, hI, hJ, hv, g1, g2]
theorem lc_1 (hS : lS L xs c s u I R) (hc : 6 * c + 6 ≤ L) (hv : xs (6 * c) &&& nI 63 = nI 1) : lc_G d L xs c I R Q l5 l6 := by
  obtain ⟨v, s', u', J, R', K, Q', g1, hJ, lJ, g2, S'⟩ := lS_op (op_end (y := xs (6 * c + 1)) hS.1) hS d Q
  obtain ⟨-, -, -, hI, lI, -⟩ := id hS
  refine ⟨s', u', K, R', Q', l5, l6, ?_, lS_up S' (Nat.le_succ c)⟩
  simp (disch := first | omega | assumption) only [s280_33, s280_34, r280_36 lI, s280_37, s280_39, e280_1, s280_305, s280_306, s280_307, s280_309, s280_310, r280_311 lI, s280_312, s280_315, s280_316, s280_317, s280_319, s280_320, r280_321 lJ, s280_322, s280_325, s280_328, s280_329, s280_1575, s280_1578, nI_le2, nI_lt2, nI_eq2, nI_lt0, nI_0le, nI_0lt, nI_le0, nI_eq0, nI_clamp, nI_add, bu_nI, bb_0, bb_1, rf_s, rf_n, tl_s, tl_n, am_th_some, if_true, if_false, eq_self, Nat.add_assoc, not_false_eq_true, not_true_eq_false, Nat.reduceEqDiff, Nat.reduceLeDiff, Nat.reduceLT, Nat.reduceAdd, Nat.reduceMul, Nat.reduceSub, Nat.zero_add, hI, hJ, hv, g1, g2]
theorem lc_2 (hS : lS L xs c s u I R) (hc : 6 * c + 6 ≤ L) (hv : xs (6 * c) &&& nI 63 = nI 2) : lc_G d L xs c I R Q l5 l6 := by
  obtain ⟨v, s', u', J, R', K, Q', g1, hJ, lJ, g2, S'⟩ := lS_op (op_fault (x := xs (6 * c + 1)) hS.1) hS d Q
  obtain ⟨-, -, -, hI, lI, -⟩ := id hS
  refine ⟨s', u', K, R', Q', l5, l6, ?_, lS_up S' (Nat.le_succ c)⟩
  simp (disch := first | omega | assumption) only [s280_33, s280_34, r280_36 lI, s280_37, s280_39, e280_2, s280_330, s280_331, s280_332, s280_334, s280_335, r280_336 lI, s280_337, s280_340, s280_341, s280_342, s280_344, s280_345, r280_346 lJ, s280_347, s280_350, s280_353, s280_354, s280_1575, s280_1578, nI_le2, nI_lt2, nI_eq2, nI_lt0, nI_0le, nI_0lt, nI_le0, nI_eq0, nI_clamp, nI_add, bu_nI, bb_0, bb_1, rf_s, rf_n, tl_s, tl_n, am_th_some, if_true, if_false, eq_self, Nat.add_assoc, not_false_eq_true, not_true_eq_false, Nat.reduceEqDiff, Nat.reduceLeDiff, Nat.reduceLT, Nat.reduceAdd, Nat.reduceMul, Nat.reduceSub, Nat.zero_add, hI, hJ, hv, g1, g2]
theorem lc_3 (hS : lS L xs c s u I R) (hc : 6 * c + 6 ≤ L) (hv : xs (6 * c) &&& nI 63 = nI 3) : lc_G d L xs c I R Q l5 l6 := by
  obtain ⟨v, s', u', J, R', K, Q', g1, hJ, lJ, g2, S'⟩ := lS_op (op_text (x := xs (6 * c + 1)) hS.1) hS d Q
  obtain ⟨-, -, -, hI, lI, -⟩ := id hS
  refine ⟨s', u', K, R', Q', l5, l6, ?_, lS_up S' (Nat.le_succ c)⟩
  simp (disch := first | omega | assumption) only [s280_33, s280_34, r280_36 lI, s280_37, s280_39, e280_3, s280_355, s280_356, s280_357, s280_359, s280_360, r280_361 lI, s280_362, s280_365, s280_366, s280_367, s280_369, s280_370, r280_371 lJ, s280_372, s280_375, s280_378, s280_379, s280_1575, s280_1578, nI_le2, nI_lt2, nI_eq2, nI_lt0, nI_0le, nI_0lt, nI_le0, nI_eq0, nI_clamp, nI_add, bu_nI, bb_0, bb_1, rf_s, rf_n, tl_s, tl_n, am_th_some, if_true, if_false, eq_self, Nat.add_assoc, not_false_eq_true, not_true_eq_false, Nat.reduceEqDiff, Nat.reduceLeDiff, Nat.reduceLT, Nat.reduceAdd, Nat.reduceMul, Nat.reduceSub, Nat.zero_add, hI, hJ, hv, g1, g2]
theorem lc_4 (hS : lS L xs c s u I R) (hc : 6 * c + 6 ≤ L) (hv : xs (6 * c) &&& nI 63 = nI 4) : lc_G d L xs c I R Q l5 l6 := by
  obtain ⟨v, s', u', J, R', K, Q', g1, hJ, lJ, g2, S'⟩ := lS_op (op_oven (x := xs (6 * c + 1)) hS.1) hS d Q
  obtain ⟨-, -, -, hI, lI, -⟩ := id hS
  refine ⟨s', u', K, R', Q', l5, l6, ?_, lS_up S' (Nat.le_succ c)⟩
  simp (disch := first | omega | assumption) only [s280_33, s280_34, r280_36 lI, s280_37, s280_39, e280_4, s280_380, s280_381, s280_382, s280_384, s280_385, r280_386 lI, s280_387, s280_390, s280_391, s280_392, s280_394, s280_395, r280_396 lJ, s280_397, s280_400, s280_403, s280_404, s280_1575, s280_1578, nI_le2, nI_lt2, nI_eq2, nI_lt0, nI_0le, nI_0lt, nI_le0, nI_eq0, nI_clamp, nI_add, bu_nI, bb_0, bb_1, rf_s, rf_n, tl_s, tl_n, am_th_some, if_true, if_false, eq_self, Nat.add_assoc, not_false_eq_true, not_true_eq_false, Nat.reduceEqDiff, Nat.reduceLeDiff, Nat.reduceLT, Nat.reduceAdd, Nat.reduceMul, Nat.reduceSub, Nat.zero_add, hI, hJ, hv, g1, g2]
theorem lc_6 (hS : lS L xs c s u I R) (hc : 6 * c + 6 ≤ L) (hv : xs (6 * c) &&& nI 63 = nI 6) : lc_G d L xs c I R Q l5 l6 := by
  obtain ⟨v, s', u', J, R', K, Q', g1, hJ, lJ, g2, S'⟩ := lS_op (op_dish (x := xs (6 * c + 1)) (y := xs (6 * c + 2)) hS.1) hS d Q
  obtain ⟨-, -, -, hI, lI, -⟩ := id hS
  refine ⟨s', u', K, R', Q', l5, l6, ?_, lS_up S' (Nat.le_succ c)⟩
  simp (disch := first | omega | assumption) only [s280_33, s280_34, r280_36 lI, s280_37, s280_39, e280_6, s280_473, s280_474, s280_475, s280_477, s280_478, r280_479 lI, s280_480, s280_481, s280_483, s280_484, r280_485 lI, s280_486, s280_489, s280_490, s280_491, s280_493, s280_494, r280_495 lJ, s280_496, s280_497, s280_499, s280_500, r280_501 lJ, s280_502, s280_505, s280_508, s280_509, s280_1575, s280_1578, nI_le2, nI_lt2, nI_eq2, nI_lt0, nI_0le, nI_0lt, nI_le0, nI_eq0, nI_clamp, nI_add, bu_nI, bb_0, bb_1, rf_s, rf_n, tl_s, tl_n, am_th_some, if_true, if_false, eq_self, Nat.add_assoc, not_false_eq_true, not_true_eq_false, Nat.reduceEqDiff, Nat.reduceLeDiff, Nat.reduceLT, Nat.reduceAdd, Nat.reduceMul, Nat.reduceSub, Nat.zero_add, hI, hJ, hv, g1, g2]
theorem lc_7 (hS : lS L xs c s u I R) (hc : 6 * c + 6 ≤ L) (hv : xs (6 * c) &&& nI 63 = nI 7) : lc_G d L xs c I R Q l5 l6 := by
  obtain ⟨v, s', u', J, R', K, Q', g1, hJ, lJ, g2, S'⟩ := lS_op (op_law (x := xs (6 * c + 1)) hS.1) hS d Q
  obtain ⟨-, -, -, hI, lI, -⟩ := id hS
  refine ⟨s', u', K, R', Q', l5, l6, ?_, lS_up S' (Nat.le_succ c)⟩
  simp (disch := first | omega | assumption) only [s280_33, s280_34, r280_36 lI, s280_37, s280_39, e280_7, s280_510, s280_511, s280_512, s280_514, s280_515, r280_516 lI, s280_517, s280_520, s280_521, s280_522, s280_524, s280_525, r280_526 lJ, s280_527, s280_530, s280_533, s280_534, s280_1575, s280_1578, nI_le2, nI_lt2, nI_eq2, nI_lt0, nI_0le, nI_0lt, nI_le0, nI_eq0, nI_clamp, nI_add, bu_nI, bb_0, bb_1, rf_s, rf_n, tl_s, tl_n, am_th_some, if_true, if_false, eq_self, Nat.add_assoc, not_false_eq_true, not_true_eq_false, Nat.reduceEqDiff, Nat.reduceLeDiff, Nat.reduceLT, Nat.reduceAdd, Nat.reduceMul, Nat.reduceSub, Nat.zero_add, hI, hJ, hv, g1, g2]
theorem lc_8 (hS : lS L xs c s u I R) (hc : 6 * c + 6 ≤ L) (hv : xs (6 * c) &&& nI 63 = nI 8) : lc_G d L xs c I R Q l5 l6 := by
  obtain ⟨v, s', u', J, R', K, Q', g1, hJ, lJ, g2, S'⟩ := lS_op (op_cook (x := xs (6 * c + 1)) (y := xs (6 * c + 2)) hS.1) hS d Q
  obtain ⟨-, -, -, hI, lI, -⟩ := id hS
  refine ⟨s', u', K, R', Q', l5, l6, ?_, lS_up S' (Nat.le_succ c)⟩
  simp (disch := first | omega | assumption) only [s280_33, s280_34, r280_36 lI, s280_37, s280_39, e280_8, s280_535, s280_536, s280_537, s280_539, s280_540, r280_541 lI, s280_542, s280_543, s280_545, s280_546, r280_547 lI, s280_548, s280_551, s280_552, s280_553, s280_555, s280_556, r280_557 lJ, s280_558, s280_559, s280_561, s280_562, r280_563 lJ, s280_564, s280_567, s280_570, s280_571, s280_1575, s280_1578, nI_le2, nI_lt2, nI_eq2, nI_lt0, nI_0le, nI_0lt, nI_le0, nI_eq0, nI_clamp, nI_add, bu_nI, bb_0, bb_1, rf_s, rf_n, tl_s, tl_n, am_th_some, if_true, if_false, eq_self, Nat.add_assoc, not_false_eq_true, not_true_eq_false, Nat.reduceEqDiff, Nat.reduceLeDiff, Nat.reduceLT, Nat.reduceAdd, Nat.reduceMul, Nat.reduceSub, Nat.zero_add, hI, hJ, hv, g1, g2]
theorem lc_9 (hS : lS L xs c s u I R) (hc : 6 * c + 6 ≤ L) (hv : xs (6 * c) &&& nI 63 = nI 9) : lc_G d L xs c I R Q l5 l6 := by
  obtain ⟨v, s', u', J, R', K, Q', g1, hJ, lJ, g2, S'⟩ := lS_op (op_stir hS.1) hS d Q
  obtain ⟨-, -, -, hI, lI, -⟩ := id hS
  refine ⟨s', u', K, R', Q', l5, l6, ?_, lS_up S' (Nat.le_succ c)⟩
  simp (disch := first | omega | assumption) only [s280_33, s280_34, r280_36 lI, s280_37, s280_39, e280_9, s280_572, s280_573, s280_576, s280_577, s280_580, s280_583, s280_584, s280_1575, s280_1578, nI_le2, nI_lt2, nI_eq2, nI_lt0, nI_0le, nI_0lt, nI_le0, nI_eq0, nI_clamp, nI_add, bu_nI, bb_0, bb_1, rf_s, rf_n, tl_s, tl_n, am_th_some, if_true, if_false, eq_self, Nat.add_assoc, not_false_eq_true, not_true_eq_false, Nat.reduceEqDiff, Nat.reduceLeDiff, Nat.reduceLT, Nat.reduceAdd, Nat.reduceMul, Nat.reduceSub, Nat.zero_add, hI, hJ, hv, g1, g2]
theorem lc_10 (hS : lS L xs c s u I R) (hc : 6 * c + 6 ≤ L) (hv : xs (6 * c) &&& nI 63 = nI 10) : lc_G d L xs c I R Q l5 l6 := by
  by_cases hb : xs (6 * c + 1) = 0
  · obtain ⟨v, s', u', J, R', K, Q', g1, hJ, lJ, g2, S'⟩ := lS_op (op_turn (q := 0) hS.1 (by decide)) hS d Q
    obtain ⟨-, -, -, hI, lI, -⟩ := id hS
    refine ⟨s', u', K, R', Q', l5, l6, ?_, lS_up S' (Nat.le_succ c)⟩
    simp (disch := first | omega | assumption) only [s280_33, s280_34, r280_36 lI, s280_37, s280_39, e280_10, s280_585, s280_586, s280_587, s280_589, s280_590, r280_591 lI, s280_592, s280_595, s280_596, s280_599, s280_600, s280_603, s280_604, s280_605, s280_607, s280_608, r280_609 lJ, s280_610, s280_613, s280_614, s280_617, s280_618, s280_621, s280_624, s280_625, s280_1575, s280_1578, nI_le2, nI_lt2, nI_eq2, nI_lt0, nI_0le, nI_0lt, nI_le0, nI_eq0, nI_clamp, nI_add, bu_nI, bb_0, bb_1, rf_s, rf_n, tl_s, tl_n, am_th_some, if_true, if_false, eq_self, Nat.add_assoc, not_false_eq_true, not_true_eq_false, Nat.reduceEqDiff, Nat.reduceLeDiff, Nat.reduceLT, Nat.reduceAdd, Nat.reduceMul, Nat.reduceSub, Nat.zero_add, hI, hJ, hv, g1, g2, hb]
  · obtain ⟨v, s', u', J, R', K, Q', g1, hJ, lJ, g2, S'⟩ := lS_op (op_turn (q := 1) hS.1 (by decide)) hS d Q
    obtain ⟨-, -, -, hI, lI, -⟩ := id hS
    refine ⟨s', u', K, R', Q', l5, l6, ?_, lS_up S' (Nat.le_succ c)⟩
    simp (disch := first | omega | assumption) only [s280_33, s280_34, r280_36 lI, s280_37, s280_39, e280_10, s280_585, s280_586, s280_587, s280_589, s280_590, r280_591 lI, s280_592, s280_595, s280_596, s280_599, s280_600, s280_603, s280_604, s280_605, s280_607, s280_608, r280_609 lJ, s280_610, s280_613, s280_614, s280_617, s280_618, s280_621, s280_624, s280_625, s280_1575, s280_1578, nI_le2, nI_lt2, nI_eq2, nI_lt0, nI_0le, nI_0lt, nI_le0, nI_eq0, nI_clamp, nI_add, bu_nI, bb_0, bb_1, rf_s, rf_n, tl_s, tl_n, am_th_some, if_true, if_false, eq_self, Nat.add_assoc, not_false_eq_true, not_true_eq_false, Nat.reduceEqDiff, Nat.reduceLeDiff, Nat.reduceLT, Nat.reduceAdd, Nat.reduceMul, Nat.reduceSub, Nat.zero_add, hI, hJ, hv, g1, g2, hb]
theorem lc_11 (hS : lS L xs c s u I R) (hc : 6 * c + 6 ≤ L) (hv : xs (6 * c) &&& nI 63 = nI 11) : lc_G d L xs c I R Q l5 l6 := by
  obtain ⟨v, s', u', J, R', K, Q', g1, hJ, lJ, g2, S'⟩ := lS_op (op_move (x := xs (6 * c + 1)) (y := xs (6 * c + 2)) hS.1) hS d Q
  obtain ⟨-, -, -, hI, lI, -⟩ := id hS
  refine ⟨s', u', K, R', Q', l5, l6, ?_, lS_up S' (Nat.le_succ c)⟩
  simp (disch := first | omega | assumption) only [s280_33, s280_34, r280_36 lI, s280_37, s280_39, e280_11, s280_626, s280_627, s280_628, s280_630, s280_631, r280_632 lI, s280_633, s280_634, s280_636, s280_637, r280_638 lI, s280_639, s280_642, s280_643, s280_644, s280_646, s280_647, r280_648 lJ, s280_649, s280_650, s280_652, s280_653, r280_654 lJ, s280_655, s280_658, s280_661, s280_662, s280_1575, s280_1578, nI_le2, nI_lt2, nI_eq2, nI_lt0, nI_0le, nI_0lt, nI_le0, nI_eq0, nI_clamp, nI_add, bu_nI, bb_0, bb_1, rf_s, rf_n, tl_s, tl_n, am_th_some, if_true, if_false, eq_self, Nat.add_assoc, not_false_eq_true, not_true_eq_false, Nat.reduceEqDiff, Nat.reduceLeDiff, Nat.reduceLT, Nat.reduceAdd, Nat.reduceMul, Nat.reduceSub, Nat.zero_add, hI, hJ, hv, g1, g2]
theorem lc_12 (hS : lS L xs c s u I R) (hc : 6 * c + 6 ≤ L) (hv : xs (6 * c) &&& nI 63 = nI 12) : lc_G d L xs c I R Q l5 l6 := by
  obtain ⟨v, s', u', J, R', K, Q', g1, hJ, lJ, g2, S'⟩ := lS_op (op_eat (x := xs (6 * c + 1)) hS.1) hS d Q
  obtain ⟨-, -, -, hI, lI, -⟩ := id hS
  refine ⟨s', u', K, R', Q', l5, l6, ?_, lS_up S' (Nat.le_succ c)⟩
  simp (disch := first | omega | assumption) only [s280_33, s280_34, r280_36 lI, s280_37, s280_39, e280_12, s280_663, s280_664, s280_665, s280_667, s280_668, r280_669 lI, s280_670, s280_673, s280_674, s280_675, s280_677, s280_678, r280_679 lJ, s280_680, s280_683, s280_686, s280_687, s280_1575, s280_1578, nI_le2, nI_lt2, nI_eq2, nI_lt0, nI_0le, nI_0lt, nI_le0, nI_eq0, nI_clamp, nI_add, bu_nI, bb_0, bb_1, rf_s, rf_n, tl_s, tl_n, am_th_some, if_true, if_false, eq_self, Nat.add_assoc, not_false_eq_true, not_true_eq_false, Nat.reduceEqDiff, Nat.reduceLeDiff, Nat.reduceLT, Nat.reduceAdd, Nat.reduceMul, Nat.reduceSub, Nat.zero_add, hI, hJ, hv, g1, g2]
theorem lc_13 (hS : lS L xs c s u I R) (hc : 6 * c + 6 ≤ L) (hv : xs (6 * c) &&& nI 63 = nI 13) : lc_G d L xs c I R Q l5 l6 := by
  obtain ⟨v, s', u', J, R', K, Q', g1, hJ, lJ, g2, S'⟩ := lS_op (op_stirs (x := xs (6 * c + 1)) hS.1) hS d Q
  obtain ⟨-, -, -, hI, lI, -⟩ := id hS
  refine ⟨s', u', K, R', Q', l5, l6, ?_, lS_up S' (Nat.le_succ c)⟩
  simp (disch := first | omega | assumption) only [s280_33, s280_34, r280_36 lI, s280_37, s280_39, e280_13, s280_688, s280_689, s280_690, s280_692, s280_693, r280_694 lI, s280_695, s280_698, s280_699, s280_700, s280_702, s280_703, r280_704 lJ, s280_705, s280_708, s280_711, s280_712, s280_1575, s280_1578, nI_le2, nI_lt2, nI_eq2, nI_lt0, nI_0le, nI_0lt, nI_le0, nI_eq0, nI_clamp, nI_add, bu_nI, bb_0, bb_1, rf_s, rf_n, tl_s, tl_n, am_th_some, if_true, if_false, eq_self, Nat.add_assoc, not_false_eq_true, not_true_eq_false, Nat.reduceEqDiff, Nat.reduceLeDiff, Nat.reduceLT, Nat.reduceAdd, Nat.reduceMul, Nat.reduceSub, Nat.zero_add, hI, hJ, hv, g1, g2]
theorem lc_14 (hS : lS L xs c s u I R) (hc : 6 * c + 6 ≤ L) (hv : xs (6 * c) &&& nI 63 = nI 14) : lc_G d L xs c I R Q l5 l6 := by
  obtain ⟨v, s', u', J, R', K, Q', g1, hJ, lJ, g2, S'⟩ := lS_op (op_habits (x := xs (6 * c + 1)) (X := ((xs (6 * c + 2)).toInt64 <<< ((nI 32).toInt64 &&& 63)) ||| ((xs (6 * c + 3)).toInt64 &&& 4294967295)) hS.1) hS d Q
  obtain ⟨-, -, -, hI, lI, -⟩ := id hS
  refine ⟨s', u', K, R', Q', l5, l6, ?_, lS_up S' (Nat.le_succ c)⟩
  simp (disch := first | omega | assumption) only [s280_33, s280_34, r280_36 lI, s280_37, s280_39, e280_14, s280_713, s280_714, s280_715, s280_717, s280_718, r280_719 lI, s280_720, s280_721, s280_723, s280_724, r280_725 lI, s280_726, s280_727, s280_729, s280_730, s280_731, s280_733, s280_734, r280_735 lI, s280_736, s280_737, s280_740, s280_741, s280_742, s280_745, s280_746, s280_747, s280_749, s280_750, r280_751 lJ, s280_752, s280_753, s280_755, s280_756, r280_757 lJ, s280_758, s280_759, s280_761, s280_762, s280_763, s280_765, s280_766, r280_767 lJ, s280_768, s280_769, s280_772, s280_773, s280_774, s280_777, s280_780, s280_781, s280_1575, s280_1578, nI_le2, nI_lt2, nI_eq2, nI_lt0, nI_0le, nI_0lt, nI_le0, nI_eq0, nI_clamp, nI_add, bu_nI, bb_0, bb_1, rf_s, rf_n, tl_s, tl_n, am_th_some, if_true, if_false, eq_self, Nat.add_assoc, not_false_eq_true, not_true_eq_false, Nat.reduceEqDiff, Nat.reduceLeDiff, Nat.reduceLT, Nat.reduceAdd, Nat.reduceMul, Nat.reduceSub, Nat.zero_add, hI, hJ, hv, g1, g2]
theorem lc_15 (hS : lS L xs c s u I R) (hc : 6 * c + 6 ≤ L) (hv : xs (6 * c) &&& nI 63 = nI 15) : lc_G d L xs c I R Q l5 l6 := by
  obtain ⟨v, s', u', J, R', K, Q', g1, hJ, lJ, g2, S'⟩ := lS_op (op_status (x := xs (6 * c + 1)) hS.1) hS d Q
  obtain ⟨-, -, -, hI, lI, -⟩ := id hS
  refine ⟨s', u', K, R', Q', l5, l6, ?_, lS_up S' (Nat.le_succ c)⟩
  simp (disch := first | omega | assumption) only [s280_33, s280_34, r280_36 lI, s280_37, s280_39, e280_15, s280_782, s280_783, s280_784, s280_786, s280_787, r280_788 lI, s280_789, s280_792, s280_793, s280_794, s280_796, s280_797, r280_798 lJ, s280_799, s280_802, s280_805, s280_806, s280_1575, s280_1578, nI_le2, nI_lt2, nI_eq2, nI_lt0, nI_0le, nI_0lt, nI_le0, nI_eq0, nI_clamp, nI_add, bu_nI, bb_0, bb_1, rf_s, rf_n, tl_s, tl_n, am_th_some, if_true, if_false, eq_self, Nat.add_assoc, not_false_eq_true, not_true_eq_false, Nat.reduceEqDiff, Nat.reduceLeDiff, Nat.reduceLT, Nat.reduceAdd, Nat.reduceMul, Nat.reduceSub, Nat.zero_add, hI, hJ, hv, g1, g2]
theorem lc_16 (hS : lS L xs c s u I R) (hc : 6 * c + 6 ≤ L) (hv : xs (6 * c) &&& nI 63 = nI 16) : lc_G d L xs c I R Q l5 l6 := by
  obtain ⟨v, s', u', J, R', K, Q', g1, hJ, lJ, g2, S'⟩ := lS_op (op_undo hS.1) hS d Q
  obtain ⟨-, -, -, hI, lI, -⟩ := id hS
  refine ⟨s', u', K, R', Q', l5, l6, ?_, lS_up S' (Nat.le_succ c)⟩
  simp (disch := first | omega | assumption) only [s280_33, s280_34, r280_36 lI, s280_37, s280_39, e280_16, s280_807, s280_808, s280_811, s280_812, s280_815, s280_818, s280_819, s280_1575, s280_1578, nI_le2, nI_lt2, nI_eq2, nI_lt0, nI_0le, nI_0lt, nI_le0, nI_eq0, nI_clamp, nI_add, bu_nI, bb_0, bb_1, rf_s, rf_n, tl_s, tl_n, am_th_some, if_true, if_false, eq_self, Nat.add_assoc, not_false_eq_true, not_true_eq_false, Nat.reduceEqDiff, Nat.reduceLeDiff, Nat.reduceLT, Nat.reduceAdd, Nat.reduceMul, Nat.reduceSub, Nat.zero_add, hI, hJ, hv, g1, g2]
theorem lc_17 (hS : lS L xs c s u I R) (hc : 6 * c + 6 ≤ L) (hv : xs (6 * c) &&& nI 63 = nI 17) : lc_G d L xs c I R Q l5 l6 := by
  obtain ⟨v, s', u', J, R', K, Q', g1, hJ, lJ, g2, S'⟩ := lS_op (op_log (x := xs (6 * c + 1)) (y := xs (6 * c + 2)) hS.1) hS d Q
  obtain ⟨-, -, -, hI, lI, -⟩ := id hS
  refine ⟨s', u', K, R', Q', l5, l6, ?_, lS_up S' (Nat.le_succ c)⟩
  simp (disch := first | omega | assumption) only [s280_33, s280_34, r280_36 lI, s280_37, s280_39, e280_17, s280_820, s280_821, s280_822, s280_824, s280_825, r280_826 lI, s280_827, s280_828, s280_830, s280_831, r280_832 lI, s280_833, s280_836, s280_837, s280_838, s280_840, s280_841, r280_842 lJ, s280_843, s280_844, s280_846, s280_847, r280_848 lJ, s280_849, s280_852, s280_855, s280_856, s280_1575, s280_1578, nI_le2, nI_lt2, nI_eq2, nI_lt0, nI_0le, nI_0lt, nI_le0, nI_eq0, nI_clamp, nI_add, bu_nI, bb_0, bb_1, rf_s, rf_n, tl_s, tl_n, am_th_some, if_true, if_false, eq_self, Nat.add_assoc, not_false_eq_true, not_true_eq_false, Nat.reduceEqDiff, Nat.reduceLeDiff, Nat.reduceLT, Nat.reduceAdd, Nat.reduceMul, Nat.reduceSub, Nat.zero_add, hI, hJ, hv, g1, g2]
theorem lc_18 (hS : lS L xs c s u I R) (hc : 6 * c + 6 ≤ L) (hv : xs (6 * c) &&& nI 63 = nI 18) : lc_G d L xs c I R Q l5 l6 := by
  obtain ⟨v, s', u', J, R', K, Q', g1, hJ, lJ, g2, S'⟩ := lS_op (op_span (x := xs (6 * c + 1)) hS.1) hS d Q
  obtain ⟨-, -, -, hI, lI, -⟩ := id hS
  refine ⟨s', u', K, R', Q', l5, l6, ?_, lS_up S' (Nat.le_succ c)⟩
  simp (disch := first | omega | assumption) only [s280_33, s280_34, r280_36 lI, s280_37, s280_39, e280_18, s280_857, s280_858, s280_859, s280_861, s280_862, r280_863 lI, s280_864, s280_867, s280_868, s280_869, s280_871, s280_872, r280_873 lJ, s280_874, s280_877, s280_880, s280_881, s280_1575, s280_1578, nI_le2, nI_lt2, nI_eq2, nI_lt0, nI_0le, nI_0lt, nI_le0, nI_eq0, nI_clamp, nI_add, bu_nI, bb_0, bb_1, rf_s, rf_n, tl_s, tl_n, am_th_some, if_true, if_false, eq_self, Nat.add_assoc, not_false_eq_true, not_true_eq_false, Nat.reduceEqDiff, Nat.reduceLeDiff, Nat.reduceLT, Nat.reduceAdd, Nat.reduceMul, Nat.reduceSub, Nat.zero_add, hI, hJ, hv, g1, g2]
theorem lc_19 (hS : lS L xs c s u I R) (hc : 6 * c + 6 ≤ L) (hv : xs (6 * c) &&& nI 63 = nI 19) : lc_G d L xs c I R Q l5 l6 := by
  obtain ⟨v, s', u', J, R', K, Q', g1, hJ, lJ, g2, S'⟩ := lS_op (op_soonest (x := xs (6 * c + 1)) hS.1) hS d Q
  obtain ⟨-, -, -, hI, lI, -⟩ := id hS
  refine ⟨s', u', K, R', Q', l5, l6, ?_, lS_up S' (Nat.le_succ c)⟩
  simp (disch := first | omega | assumption) only [s280_33, s280_34, r280_36 lI, s280_37, s280_39, e280_19, s280_882, s280_883, s280_884, s280_886, s280_887, r280_888 lI, s280_889, s280_892, s280_893, s280_894, s280_896, s280_897, r280_898 lJ, s280_899, s280_902, s280_905, s280_906, s280_1575, s280_1578, nI_le2, nI_lt2, nI_eq2, nI_lt0, nI_0le, nI_0lt, nI_le0, nI_eq0, nI_clamp, nI_add, bu_nI, bb_0, bb_1, rf_s, rf_n, tl_s, tl_n, am_th_some, if_true, if_false, eq_self, Nat.add_assoc, not_false_eq_true, not_true_eq_false, Nat.reduceEqDiff, Nat.reduceLeDiff, Nat.reduceLT, Nat.reduceAdd, Nat.reduceMul, Nat.reduceSub, Nat.zero_add, hI, hJ, hv, g1, g2]
theorem lc_20 (hS : lS L xs c s u I R) (hc : 6 * c + 6 ≤ L) (hv : xs (6 * c) &&& nI 63 = nI 20) : lc_G d L xs c I R Q l5 l6 := by
  obtain ⟨v, s', u', J, R', K, Q', g1, hJ, lJ, g2, S'⟩ := lS_op (op_without hS.1) hS d Q
  obtain ⟨-, -, -, hI, lI, -⟩ := id hS
  refine ⟨s', u', K, R', Q', l5, l6, ?_, lS_up S' (Nat.le_succ c)⟩
  simp (disch := first | omega | assumption) only [s280_33, s280_34, r280_36 lI, s280_37, s280_39, e280_20, s280_907, s280_908, s280_911, s280_912, s280_915, s280_918, s280_919, s280_1575, s280_1578, nI_le2, nI_lt2, nI_eq2, nI_lt0, nI_0le, nI_0lt, nI_le0, nI_eq0, nI_clamp, nI_add, bu_nI, bb_0, bb_1, rf_s, rf_n, tl_s, tl_n, am_th_some, if_true, if_false, eq_self, Nat.add_assoc, not_false_eq_true, not_true_eq_false, Nat.reduceEqDiff, Nat.reduceLeDiff, Nat.reduceLT, Nat.reduceAdd, Nat.reduceMul, Nat.reduceSub, Nat.zero_add, hI, hJ, hv, g1, g2]
theorem lc_21 (hS : lS L xs c s u I R) (hc : 6 * c + 6 ≤ L) (hv : xs (6 * c) &&& nI 63 = nI 21) : lc_G d L xs c I R Q l5 l6 := by
  obtain ⟨v, s', u', J, R', K, Q', g1, hJ, lJ, g2, S'⟩ := lS_op (op_heats (x := xs (6 * c + 1)) (y := xs (6 * c + 2)) (z := xs (6 * c + 3)) hS.1) hS d Q
  obtain ⟨-, -, -, hI, lI, -⟩ := id hS
  refine ⟨s', u', K, R', Q', l5, l6, ?_, lS_up S' (Nat.le_succ c)⟩
  simp (disch := first | omega | assumption) only [s280_33, s280_34, r280_36 lI, s280_37, s280_39, e280_21, s280_920, s280_921, s280_922, s280_924, s280_925, r280_926 lI, s280_927, s280_928, s280_930, s280_931, r280_932 lI, s280_933, s280_934, s280_936, s280_937, r280_938 lI, s280_939, s280_942, s280_943, s280_944, s280_946, s280_947, r280_948 lJ, s280_949, s280_950, s280_952, s280_953, r280_954 lJ, s280_955, s280_956, s280_958, s280_959, r280_960 lJ, s280_961, s280_964, s280_967, s280_968, s280_1575, s280_1578, nI_le2, nI_lt2, nI_eq2, nI_lt0, nI_0le, nI_0lt, nI_le0, nI_eq0, nI_clamp, nI_add, bu_nI, bb_0, bb_1, rf_s, rf_n, tl_s, tl_n, am_th_some, if_true, if_false, eq_self, Nat.add_assoc, not_false_eq_true, not_true_eq_false, Nat.reduceEqDiff, Nat.reduceLeDiff, Nat.reduceLT, Nat.reduceAdd, Nat.reduceMul, Nat.reduceSub, Nat.zero_add, hI, hJ, hv, g1, g2]
theorem lc_22 (hS : lS L xs c s u I R) (hc : 6 * c + 6 ≤ L) (hv : xs (6 * c) &&& nI 63 = nI 22) : lc_G d L xs c I R Q l5 l6 := by
  obtain ⟨v, s', u', J, R', K, Q', g1, hJ, lJ, g2, S'⟩ := lS_op (op_place (x := xs (6 * c + 1)) (y := xs (6 * c + 2)) hS.1) hS d Q
  obtain ⟨-, -, -, hI, lI, -⟩ := id hS
  refine ⟨s', u', K, R', Q', l5, l6, ?_, lS_up S' (Nat.le_succ c)⟩
  simp (disch := first | omega | assumption) only [s280_33, s280_34, r280_36 lI, s280_37, s280_39, e280_22, s280_969, s280_970, s280_971, s280_973, s280_974, r280_975 lI, s280_976, s280_977, s280_979, s280_980, r280_981 lI, s280_982, s280_985, s280_986, s280_987, s280_989, s280_990, r280_991 lJ, s280_992, s280_993, s280_995, s280_996, r280_997 lJ, s280_998, s280_1001, s280_1004, s280_1005, s280_1575, s280_1578, nI_le2, nI_lt2, nI_eq2, nI_lt0, nI_0le, nI_0lt, nI_le0, nI_eq0, nI_clamp, nI_add, bu_nI, bb_0, bb_1, rf_s, rf_n, tl_s, tl_n, am_th_some, if_true, if_false, eq_self, Nat.add_assoc, not_false_eq_true, not_true_eq_false, Nat.reduceEqDiff, Nat.reduceLeDiff, Nat.reduceLT, Nat.reduceAdd, Nat.reduceMul, Nat.reduceSub, Nat.zero_add, hI, hJ, hv, g1, g2]
theorem lc_23 (hS : lS L xs c s u I R) (hc : 6 * c + 6 ≤ L) (hv : xs (6 * c) &&& nI 63 = nI 23) : lc_G d L xs c I R Q l5 l6 := by
  obtain ⟨v, s', u', J, R', K, Q', g1, hJ, lJ, g2, S'⟩ := lS_op (op_turning (x := xs (6 * c + 1)) hS.1) hS d Q
  obtain ⟨-, -, -, hI, lI, -⟩ := id hS
  refine ⟨s', u', K, R', Q', l5, l6, ?_, lS_up S' (Nat.le_succ c)⟩
  simp (disch := first | omega | assumption) only [s280_33, s280_34, r280_36 lI, s280_37, s280_39, e280_23, s280_1006, s280_1007, s280_1008, s280_1010, s280_1011, r280_1012 lI, s280_1013, s280_1016, s280_1017, s280_1018, s280_1020, s280_1021, r280_1022 lJ, s280_1023, s280_1026, s280_1029, s280_1030, s280_1575, s280_1578, nI_le2, nI_lt2, nI_eq2, nI_lt0, nI_0le, nI_0lt, nI_le0, nI_eq0, nI_clamp, nI_add, bu_nI, bb_0, bb_1, rf_s, rf_n, tl_s, tl_n, am_th_some, if_true, if_false, eq_self, Nat.add_assoc, not_false_eq_true, not_true_eq_false, Nat.reduceEqDiff, Nat.reduceLeDiff, Nat.reduceLT, Nat.reduceAdd, Nat.reduceMul, Nat.reduceSub, Nat.zero_add, hI, hJ, hv, g1, g2]
theorem lc_24 (hS : lS L xs c s u I R) (hc : 6 * c + 6 ≤ L) (hv : xs (6 * c) &&& nI 63 = nI 24) : lc_G d L xs c I R Q l5 l6 := by
  obtain ⟨v, s', u', J, R', K, Q', g1, hJ, lJ, g2, S'⟩ := lS_op (op_runs (x := xs (6 * c + 1)) (z := xs (6 * c + 2)) hS.1) hS d Q
  obtain ⟨-, -, -, hI, lI, -⟩ := id hS
  refine ⟨s', u', K, R', Q', l5, l6, ?_, lS_up S' (Nat.le_succ c)⟩
  simp (disch := first | omega | assumption) only [s280_33, s280_34, r280_36 lI, s280_37, s280_39, e280_24, s280_1031, s280_1032, s280_1033, s280_1035, s280_1036, r280_1037 lI, s280_1038, s280_1039, s280_1041, s280_1042, r280_1043 lI, s280_1044, s280_1047, s280_1048, s280_1049, s280_1051, s280_1052, r280_1053 lJ, s280_1054, s280_1055, s280_1057, s280_1058, r280_1059 lJ, s280_1060, s280_1063, s280_1066, s280_1067, s280_1575, s280_1578, nI_le2, nI_lt2, nI_eq2, nI_lt0, nI_0le, nI_0lt, nI_le0, nI_eq0, nI_clamp, nI_add, bu_nI, bb_0, bb_1, rf_s, rf_n, tl_s, tl_n, am_th_some, if_true, if_false, eq_self, Nat.add_assoc, not_false_eq_true, not_true_eq_false, Nat.reduceEqDiff, Nat.reduceLeDiff, Nat.reduceLT, Nat.reduceAdd, Nat.reduceMul, Nat.reduceSub, Nat.zero_add, hI, hJ, hv, g1, g2]
theorem lc_25 (hS : lS L xs c s u I R) (hc : 6 * c + 6 ≤ L) (hv : xs (6 * c) &&& nI 63 = nI 25) : lc_G d L xs c I R Q l5 l6 := by
  by_cases hb : xs (6 * c + 2) = 0
  · obtain ⟨v, s', u', J, R', K, Q', g1, hJ, lJ, g2, S'⟩ := lS_op (op_tell (x := xs (6 * c + 1)) (q := 0) hS.1 (by decide)) hS d Q
    obtain ⟨-, -, -, hI, lI, -⟩ := id hS
    refine ⟨s', u', K, R', Q', l5, l6, ?_, lS_up S' (Nat.le_succ c)⟩
    simp (disch := first | omega | assumption) only [s280_33, s280_34, r280_36 lI, s280_37, s280_39, e280_25, s280_1068, s280_1069, s280_1070, s280_1072, s280_1073, r280_1074 lI, s280_1075, s280_1076, s280_1078, s280_1079, r280_1080 lI, s280_1081, s280_1084, s280_1085, s280_1088, s280_1089, s280_1092, s280_1093, s280_1094, s280_1096, s280_1097, r280_1098 lJ, s280_1099, s280_1100, s280_1102, s280_1103, r280_1104 lJ, s280_1105, s280_1108, s280_1109, s280_1112, s280_1113, s280_1116, s280_1119, s280_1120, s280_1575, s280_1578, nI_le2, nI_lt2, nI_eq2, nI_lt0, nI_0le, nI_0lt, nI_le0, nI_eq0, nI_clamp, nI_add, bu_nI, bb_0, bb_1, rf_s, rf_n, tl_s, tl_n, am_th_some, if_true, if_false, eq_self, Nat.add_assoc, not_false_eq_true, not_true_eq_false, Nat.reduceEqDiff, Nat.reduceLeDiff, Nat.reduceLT, Nat.reduceAdd, Nat.reduceMul, Nat.reduceSub, Nat.zero_add, hI, hJ, hv, g1, g2, hb]
  · obtain ⟨v, s', u', J, R', K, Q', g1, hJ, lJ, g2, S'⟩ := lS_op (op_tell (x := xs (6 * c + 1)) (q := 1) hS.1 (by decide)) hS d Q
    obtain ⟨-, -, -, hI, lI, -⟩ := id hS
    refine ⟨s', u', K, R', Q', l5, l6, ?_, lS_up S' (Nat.le_succ c)⟩
    simp (disch := first | omega | assumption) only [s280_33, s280_34, r280_36 lI, s280_37, s280_39, e280_25, s280_1068, s280_1069, s280_1070, s280_1072, s280_1073, r280_1074 lI, s280_1075, s280_1076, s280_1078, s280_1079, r280_1080 lI, s280_1081, s280_1084, s280_1085, s280_1088, s280_1089, s280_1092, s280_1093, s280_1094, s280_1096, s280_1097, r280_1098 lJ, s280_1099, s280_1100, s280_1102, s280_1103, r280_1104 lJ, s280_1105, s280_1108, s280_1109, s280_1112, s280_1113, s280_1116, s280_1119, s280_1120, s280_1575, s280_1578, nI_le2, nI_lt2, nI_eq2, nI_lt0, nI_0le, nI_0lt, nI_le0, nI_eq0, nI_clamp, nI_add, bu_nI, bb_0, bb_1, rf_s, rf_n, tl_s, tl_n, am_th_some, if_true, if_false, eq_self, Nat.add_assoc, not_false_eq_true, not_true_eq_false, Nat.reduceEqDiff, Nat.reduceLeDiff, Nat.reduceLT, Nat.reduceAdd, Nat.reduceMul, Nat.reduceSub, Nat.zero_add, hI, hJ, hv, g1, g2, hb]
theorem lc_26 (hS : lS L xs c s u I R) (hc : 6 * c + 6 ≤ L) (hv : xs (6 * c) &&& nI 63 = nI 26) : lc_G d L xs c I R Q l5 l6 := by
  obtain ⟨v, s', u', J, R', K, Q', g1, hJ, lJ, g2, S'⟩ := lS_op (op_weak (x := xs (6 * c + 1)) (y := xs (6 * c + 2)) hS.1) hS d Q
  obtain ⟨-, -, -, hI, lI, -⟩ := id hS
  refine ⟨s', u', K, R', Q', l5, l6, ?_, lS_up S' (Nat.le_succ c)⟩
  simp (disch := first | omega | assumption) only [s280_33, s280_34, r280_36 lI, s280_37, s280_39, e280_26, s280_1121, s280_1122, s280_1123, s280_1125, s280_1126, r280_1127 lI, s280_1128, s280_1129, s280_1131, s280_1132, r280_1133 lI, s280_1134, s280_1137, s280_1138, s280_1139, s280_1141, s280_1142, r280_1143 lJ, s280_1144, s280_1145, s280_1147, s280_1148, r280_1149 lJ, s280_1150, s280_1153, s280_1156, s280_1157, s280_1575, s280_1578, nI_le2, nI_lt2, nI_eq2, nI_lt0, nI_0le, nI_0lt, nI_le0, nI_eq0, nI_clamp, nI_add, bu_nI, bb_0, bb_1, rf_s, rf_n, tl_s, tl_n, am_th_some, if_true, if_false, eq_self, Nat.add_assoc, not_false_eq_true, not_true_eq_false, Nat.reduceEqDiff, Nat.reduceLeDiff, Nat.reduceLT, Nat.reduceAdd, Nat.reduceMul, Nat.reduceSub, Nat.zero_add, hI, hJ, hv, g1, g2]
theorem lc_27 (hS : lS L xs c s u I R) (hc : 6 * c + 6 ≤ L) (hv : xs (6 * c) &&& nI 63 = nI 27) : lc_G d L xs c I R Q l5 l6 := by
  obtain ⟨v, s', u', J, R', K, Q', g1, hJ, lJ, g2, S'⟩ := lS_op (op_best (x := xs (6 * c + 1)) hS.1) hS d Q
  obtain ⟨-, -, -, hI, lI, -⟩ := id hS
  refine ⟨s', u', K, R', Q', l5, l6, ?_, lS_up S' (Nat.le_succ c)⟩
  simp (disch := first | omega | assumption) only [s280_33, s280_34, r280_36 lI, s280_37, s280_39, e280_27, s280_1158, s280_1159, s280_1160, s280_1162, s280_1163, r280_1164 lI, s280_1165, s280_1168, s280_1169, s280_1170, s280_1172, s280_1173, r280_1174 lJ, s280_1175, s280_1178, s280_1181, s280_1182, s280_1575, s280_1578, nI_le2, nI_lt2, nI_eq2, nI_lt0, nI_0le, nI_0lt, nI_le0, nI_eq0, nI_clamp, nI_add, bu_nI, bb_0, bb_1, rf_s, rf_n, tl_s, tl_n, am_th_some, if_true, if_false, eq_self, Nat.add_assoc, not_false_eq_true, not_true_eq_false, Nat.reduceEqDiff, Nat.reduceLeDiff, Nat.reduceLT, Nat.reduceAdd, Nat.reduceMul, Nat.reduceSub, Nat.zero_add, hI, hJ, hv, g1, g2]
theorem lc_28 (hS : lS L xs c s u I R) (hc : 6 * c + 6 ≤ L) (hv : xs (6 * c) &&& nI 63 = nI 28) : lc_G d L xs c I R Q l5 l6 := by
  obtain ⟨v, s', u', J, R', K, Q', g1, hJ, lJ, g2, S'⟩ := lS_op (op_once (x := xs (6 * c + 1)) (y := xs (6 * c + 2)) hS.1) hS d Q
  obtain ⟨-, -, -, hI, lI, -⟩ := id hS
  refine ⟨s', u', K, R', Q', l5, l6, ?_, lS_up S' (Nat.le_succ c)⟩
  simp (disch := first | omega | assumption) only [s280_33, s280_34, r280_36 lI, s280_37, s280_39, e280_28, s280_1183, s280_1184, s280_1185, s280_1187, s280_1188, r280_1189 lI, s280_1190, s280_1191, s280_1193, s280_1194, r280_1195 lI, s280_1196, s280_1199, s280_1200, s280_1201, s280_1203, s280_1204, r280_1205 lJ, s280_1206, s280_1207, s280_1209, s280_1210, r280_1211 lJ, s280_1212, s280_1215, s280_1218, s280_1219, s280_1575, s280_1578, nI_le2, nI_lt2, nI_eq2, nI_lt0, nI_0le, nI_0lt, nI_le0, nI_eq0, nI_clamp, nI_add, bu_nI, bb_0, bb_1, rf_s, rf_n, tl_s, tl_n, am_th_some, if_true, if_false, eq_self, Nat.add_assoc, not_false_eq_true, not_true_eq_false, Nat.reduceEqDiff, Nat.reduceLeDiff, Nat.reduceLT, Nat.reduceAdd, Nat.reduceMul, Nat.reduceSub, Nat.zero_add, hI, hJ, hv, g1, g2]
theorem lc_29 (hS : lS L xs c s u I R) (hc : 6 * c + 6 ≤ L) (hv : xs (6 * c) &&& nI 63 = nI 29) : lc_G d L xs c I R Q l5 l6 := by
  obtain ⟨v, s', u', J, R', K, Q', g1, hJ, lJ, g2, S'⟩ := lS_op (op_order (x := xs (6 * c + 1)) hS.1) hS d Q
  obtain ⟨-, -, -, hI, lI, -⟩ := id hS
  refine ⟨s', u', K, R', Q', l5, l6, ?_, lS_up S' (Nat.le_succ c)⟩
  simp (disch := first | omega | assumption) only [s280_33, s280_34, r280_36 lI, s280_37, s280_39, e280_29, s280_1220, s280_1221, s280_1222, s280_1224, s280_1225, r280_1226 lI, s280_1227, s280_1230, s280_1231, s280_1232, s280_1234, s280_1235, r280_1236 lJ, s280_1237, s280_1240, s280_1243, s280_1244, s280_1575, s280_1578, nI_le2, nI_lt2, nI_eq2, nI_lt0, nI_0le, nI_0lt, nI_le0, nI_eq0, nI_clamp, nI_add, bu_nI, bb_0, bb_1, rf_s, rf_n, tl_s, tl_n, am_th_some, if_true, if_false, eq_self, Nat.add_assoc, not_false_eq_true, not_true_eq_false, Nat.reduceEqDiff, Nat.reduceLeDiff, Nat.reduceLT, Nat.reduceAdd, Nat.reduceMul, Nat.reduceSub, Nat.zero_add, hI, hJ, hv, g1, g2]
theorem lc_30 (hS : lS L xs c s u I R) (hc : 6 * c + 6 ≤ L) (hv : xs (6 * c) &&& nI 63 = nI 30) : lc_G d L xs c I R Q l5 l6 := by
  obtain ⟨v, s', u', J, R', K, Q', g1, hJ, lJ, g2, S'⟩ := lS_op (op_together (x := xs (6 * c + 1)) hS.1) hS d Q
  obtain ⟨-, -, -, hI, lI, -⟩ := id hS
  refine ⟨s', u', K, R', Q', l5, l6, ?_, lS_up S' (Nat.le_succ c)⟩
  simp (disch := first | omega | assumption) only [s280_33, s280_34, r280_36 lI, s280_37, s280_39, e280_30, s280_1245, s280_1246, s280_1247, s280_1249, s280_1250, r280_1251 lI, s280_1252, s280_1255, s280_1256, s280_1257, s280_1259, s280_1260, r280_1261 lJ, s280_1262, s280_1265, s280_1268, s280_1269, s280_1575, s280_1578, nI_le2, nI_lt2, nI_eq2, nI_lt0, nI_0le, nI_0lt, nI_le0, nI_eq0, nI_clamp, nI_add, bu_nI, bb_0, bb_1, rf_s, rf_n, tl_s, tl_n, am_th_some, if_true, if_false, eq_self, Nat.add_assoc, not_false_eq_true, not_true_eq_false, Nat.reduceEqDiff, Nat.reduceLeDiff, Nat.reduceLT, Nat.reduceAdd, Nat.reduceMul, Nat.reduceSub, Nat.zero_add, hI, hJ, hv, g1, g2]
theorem lc_31 (hS : lS L xs c s u I R) (hc : 6 * c + 6 ≤ L) (hv : xs (6 * c) &&& nI 63 = nI 31) : lc_G d L xs c I R Q l5 l6 := by
  obtain ⟨v, s', u', J, R', K, Q', g1, hJ, lJ, g2, S'⟩ := lS_op (op_bite hS.1) hS d Q
  obtain ⟨-, -, -, hI, lI, -⟩ := id hS
  refine ⟨s', u', K, R', Q', l5, l6, ?_, lS_up S' (Nat.le_succ c)⟩
  simp (disch := first | omega | assumption) only [s280_33, s280_34, r280_36 lI, s280_37, s280_39, e280_31, s280_1270, s280_1271, s280_1274, s280_1275, s280_1278, s280_1281, s280_1282, s280_1575, s280_1578, nI_le2, nI_lt2, nI_eq2, nI_lt0, nI_0le, nI_0lt, nI_le0, nI_eq0, nI_clamp, nI_add, bu_nI, bb_0, bb_1, rf_s, rf_n, tl_s, tl_n, am_th_some, if_true, if_false, eq_self, Nat.add_assoc, not_false_eq_true, not_true_eq_false, Nat.reduceEqDiff, Nat.reduceLeDiff, Nat.reduceLT, Nat.reduceAdd, Nat.reduceMul, Nat.reduceSub, Nat.zero_add, hI, hJ, hv, g1, g2]
theorem lc_32 (hS : lS L xs c s u I R) (hc : 6 * c + 6 ≤ L) (hv : xs (6 * c) &&& nI 63 = nI 32) : lc_G d L xs c I R Q l5 l6 := by
  obtain ⟨v, s', u', J, R', K, Q', g1, hJ, lJ, g2, S'⟩ := lS_op (op_odds (x := xs (6 * c + 1)) (y := xs (6 * c + 2)) hS.1) hS d Q
  obtain ⟨-, -, -, hI, lI, -⟩ := id hS
  refine ⟨s', u', K, R', Q', l5, l6, ?_, lS_up S' (Nat.le_succ c)⟩
  simp (disch := first | omega | assumption) only [s280_33, s280_34, r280_36 lI, s280_37, s280_39, e280_32, s280_1283, s280_1284, s280_1285, s280_1287, s280_1288, r280_1289 lI, s280_1290, s280_1291, s280_1293, s280_1294, r280_1295 lI, s280_1296, s280_1299, s280_1300, s280_1301, s280_1303, s280_1304, r280_1305 lJ, s280_1306, s280_1307, s280_1309, s280_1310, r280_1311 lJ, s280_1312, s280_1315, s280_1318, s280_1319, s280_1575, s280_1578, nI_le2, nI_lt2, nI_eq2, nI_lt0, nI_0le, nI_0lt, nI_le0, nI_eq0, nI_clamp, nI_add, bu_nI, bb_0, bb_1, rf_s, rf_n, tl_s, tl_n, am_th_some, if_true, if_false, eq_self, Nat.add_assoc, not_false_eq_true, not_true_eq_false, Nat.reduceEqDiff, Nat.reduceLeDiff, Nat.reduceLT, Nat.reduceAdd, Nat.reduceMul, Nat.reduceSub, Nat.zero_add, hI, hJ, hv, g1, g2]
theorem lc_33 (hS : lS L xs c s u I R) (hc : 6 * c + 6 ≤ L) (hv : xs (6 * c) &&& nI 63 = nI 33) : lc_G d L xs c I R Q l5 l6 := by
  by_cases hb : xs (6 * c + 3) = 0
  · obtain ⟨v, s', u', J, R', K, Q', g1, hJ, lJ, g2, S'⟩ := lS_op (op_set (x := xs (6 * c + 1)) (y := xs (6 * c + 2)) (q := 0) hS.1 (by decide)) hS d Q
    obtain ⟨-, -, -, hI, lI, -⟩ := id hS
    refine ⟨s', u', K, R', Q', l5, l6, ?_, lS_up S' (Nat.le_succ c)⟩
    simp (disch := first | omega | assumption) only [s280_33, s280_34, r280_36 lI, s280_37, s280_39, e280_33, s280_1320, s280_1321, s280_1322, s280_1324, s280_1325, r280_1326 lI, s280_1327, s280_1328, s280_1330, s280_1331, r280_1332 lI, s280_1333, s280_1334, s280_1336, s280_1337, r280_1338 lI, s280_1339, s280_1342, s280_1343, s280_1346, s280_1347, s280_1350, s280_1351, s280_1352, s280_1354, s280_1355, r280_1356 lJ, s280_1357, s280_1358, s280_1360, s280_1361, r280_1362 lJ, s280_1363, s280_1364, s280_1366, s280_1367, r280_1368 lJ, s280_1369, s280_1372, s280_1373, s280_1376, s280_1377, s280_1380, s280_1383, s280_1384, s280_1575, s280_1578, nI_le2, nI_lt2, nI_eq2, nI_lt0, nI_0le, nI_0lt, nI_le0, nI_eq0, nI_clamp, nI_add, bu_nI, bb_0, bb_1, rf_s, rf_n, tl_s, tl_n, am_th_some, if_true, if_false, eq_self, Nat.add_assoc, not_false_eq_true, not_true_eq_false, Nat.reduceEqDiff, Nat.reduceLeDiff, Nat.reduceLT, Nat.reduceAdd, Nat.reduceMul, Nat.reduceSub, Nat.zero_add, hI, hJ, hv, g1, g2, hb]
  · obtain ⟨v, s', u', J, R', K, Q', g1, hJ, lJ, g2, S'⟩ := lS_op (op_set (x := xs (6 * c + 1)) (y := xs (6 * c + 2)) (q := 1) hS.1 (by decide)) hS d Q
    obtain ⟨-, -, -, hI, lI, -⟩ := id hS
    refine ⟨s', u', K, R', Q', l5, l6, ?_, lS_up S' (Nat.le_succ c)⟩
    simp (disch := first | omega | assumption) only [s280_33, s280_34, r280_36 lI, s280_37, s280_39, e280_33, s280_1320, s280_1321, s280_1322, s280_1324, s280_1325, r280_1326 lI, s280_1327, s280_1328, s280_1330, s280_1331, r280_1332 lI, s280_1333, s280_1334, s280_1336, s280_1337, r280_1338 lI, s280_1339, s280_1342, s280_1343, s280_1346, s280_1347, s280_1350, s280_1351, s280_1352, s280_1354, s280_1355, r280_1356 lJ, s280_1357, s280_1358, s280_1360, s280_1361, r280_1362 lJ, s280_1363, s280_1364, s280_1366, s280_1367, r280_1368 lJ, s280_1369, s280_1372, s280_1373, s280_1376, s280_1377, s280_1380, s280_1383, s280_1384, s280_1575, s280_1578, nI_le2, nI_lt2, nI_eq2, nI_lt0, nI_0le, nI_0lt, nI_le0, nI_eq0, nI_clamp, nI_add, bu_nI, bb_0, bb_1, rf_s, rf_n, tl_s, tl_n, am_th_some, if_true, if_false, eq_self, Nat.add_assoc, not_false_eq_true, not_true_eq_false, Nat.reduceEqDiff, Nat.reduceLeDiff, Nat.reduceLT, Nat.reduceAdd, Nat.reduceMul, Nat.reduceSub, Nat.zero_add, hI, hJ, hv, g1, g2, hb]
theorem lc_34 (hS : lS L xs c s u I R) (hc : 6 * c + 6 ≤ L) (hv : xs (6 * c) &&& nI 63 = nI 34) : lc_G d L xs c I R Q l5 l6 := by
  obtain ⟨v, s', u', J, R', K, Q', g1, hJ, lJ, g2, S'⟩ := lS_op (op_how (x := xs (6 * c + 1)) hS.1) hS d Q
  obtain ⟨-, -, -, hI, lI, -⟩ := id hS
  refine ⟨s', u', K, R', Q', l5, l6, ?_, lS_up S' (Nat.le_succ c)⟩
  simp (disch := first | omega | assumption) only [s280_33, s280_34, r280_36 lI, s280_37, s280_39, e280_34, s280_1385, s280_1386, s280_1387, s280_1389, s280_1390, r280_1391 lI, s280_1392, s280_1395, s280_1396, s280_1397, s280_1399, s280_1400, r280_1401 lJ, s280_1402, s280_1405, s280_1408, s280_1409, s280_1575, s280_1578, nI_le2, nI_lt2, nI_eq2, nI_lt0, nI_0le, nI_0lt, nI_le0, nI_eq0, nI_clamp, nI_add, bu_nI, bb_0, bb_1, rf_s, rf_n, tl_s, tl_n, am_th_some, if_true, if_false, eq_self, Nat.add_assoc, not_false_eq_true, not_true_eq_false, Nat.reduceEqDiff, Nat.reduceLeDiff, Nat.reduceLT, Nat.reduceAdd, Nat.reduceMul, Nat.reduceSub, Nat.zero_add, hI, hJ, hv, g1, g2]
theorem lc_35 (hS : lS L xs c s u I R) (hc : 6 * c + 6 ≤ L) (hv : xs (6 * c) &&& nI 63 = nI 35) : lc_G d L xs c I R Q l5 l6 := by
  obtain ⟨v, s', u', J, R', K, Q', g1, hJ, lJ, g2, S'⟩ := lS_op (op_mean hS.1) hS d Q
  obtain ⟨-, -, -, hI, lI, -⟩ := id hS
  refine ⟨s', u', K, R', Q', l5, l6, ?_, lS_up S' (Nat.le_succ c)⟩
  simp (disch := first | omega | assumption) only [s280_33, s280_34, r280_36 lI, s280_37, s280_39, e280_35, s280_1410, s280_1411, s280_1414, s280_1415, s280_1418, s280_1421, s280_1422, s280_1575, s280_1578, nI_le2, nI_lt2, nI_eq2, nI_lt0, nI_0le, nI_0lt, nI_le0, nI_eq0, nI_clamp, nI_add, bu_nI, bb_0, bb_1, rf_s, rf_n, tl_s, tl_n, am_th_some, if_true, if_false, eq_self, Nat.add_assoc, not_false_eq_true, not_true_eq_false, Nat.reduceEqDiff, Nat.reduceLeDiff, Nat.reduceLT, Nat.reduceAdd, Nat.reduceMul, Nat.reduceSub, Nat.zero_add, hI, hJ, hv, g1, g2]
theorem lc_36 (hS : lS L xs c s u I R) (hc : 6 * c + 6 ≤ L) (hv : xs (6 * c) &&& nI 63 = nI 36) : lc_G d L xs c I R Q l5 l6 := by
  obtain ⟨v, s', u', J, R', K, Q', g1, hJ, lJ, g2, S'⟩ := lS_op (op_hottest hS.1) hS d Q
  obtain ⟨-, -, -, hI, lI, -⟩ := id hS
  refine ⟨s', u', K, R', Q', l5, l6, ?_, lS_up S' (Nat.le_succ c)⟩
  simp (disch := first | omega | assumption) only [s280_33, s280_34, r280_36 lI, s280_37, s280_39, e280_36, s280_1423, s280_1424, s280_1427, s280_1428, s280_1431, s280_1434, s280_1435, s280_1575, s280_1578, nI_le2, nI_lt2, nI_eq2, nI_lt0, nI_0le, nI_0lt, nI_le0, nI_eq0, nI_clamp, nI_add, bu_nI, bb_0, bb_1, rf_s, rf_n, tl_s, tl_n, am_th_some, if_true, if_false, eq_self, Nat.add_assoc, not_false_eq_true, not_true_eq_false, Nat.reduceEqDiff, Nat.reduceLeDiff, Nat.reduceLT, Nat.reduceAdd, Nat.reduceMul, Nat.reduceSub, Nat.zero_add, hI, hJ, hv, g1, g2]
theorem lc_37 (hS : lS L xs c s u I R) (hc : 6 * c + 6 ≤ L) (hv : xs (6 * c) &&& nI 63 = nI 37) : lc_G d L xs c I R Q l5 l6 := by
  obtain ⟨v, s', u', J, R', K, Q', g1, hJ, lJ, g2, S'⟩ := lS_op (op_rim hS.1) hS d Q
  obtain ⟨-, -, -, hI, lI, -⟩ := id hS
  refine ⟨s', u', K, R', Q', l5, l6, ?_, lS_up S' (Nat.le_succ c)⟩
  simp (disch := first | omega | assumption) only [s280_33, s280_34, r280_36 lI, s280_37, s280_39, e280_37, s280_1436, s280_1437, s280_1440, s280_1441, s280_1444, s280_1447, s280_1448, s280_1575, s280_1578, nI_le2, nI_lt2, nI_eq2, nI_lt0, nI_0le, nI_0lt, nI_le0, nI_eq0, nI_clamp, nI_add, bu_nI, bb_0, bb_1, rf_s, rf_n, tl_s, tl_n, am_th_some, if_true, if_false, eq_self, Nat.add_assoc, not_false_eq_true, not_true_eq_false, Nat.reduceEqDiff, Nat.reduceLeDiff, Nat.reduceLT, Nat.reduceAdd, Nat.reduceMul, Nat.reduceSub, Nat.zero_add, hI, hJ, hv, g1, g2]
theorem lc_38 (hS : lS L xs c s u I R) (hc : 6 * c + 6 ≤ L) (hv : xs (6 * c) &&& nI 63 = nI 38) : lc_G d L xs c I R Q l5 l6 := by
  obtain ⟨v, s', u', J, R', K, Q', g1, hJ, lJ, g2, S'⟩ := lS_op (op_lump hS.1) hS d Q
  obtain ⟨-, -, -, hI, lI, -⟩ := id hS
  refine ⟨s', u', K, R', Q', l5, l6, ?_, lS_up S' (Nat.le_succ c)⟩
  simp (disch := first | omega | assumption) only [s280_33, s280_34, r280_36 lI, s280_37, s280_39, e280_38, s280_1449, s280_1450, s280_1453, s280_1454, s280_1457, s280_1460, s280_1461, s280_1575, s280_1578, nI_le2, nI_lt2, nI_eq2, nI_lt0, nI_0le, nI_0lt, nI_le0, nI_eq0, nI_clamp, nI_add, bu_nI, bb_0, bb_1, rf_s, rf_n, tl_s, tl_n, am_th_some, if_true, if_false, eq_self, Nat.add_assoc, not_false_eq_true, not_true_eq_false, Nat.reduceEqDiff, Nat.reduceLeDiff, Nat.reduceLT, Nat.reduceAdd, Nat.reduceMul, Nat.reduceSub, Nat.zero_add, hI, hJ, hv, g1, g2]
theorem lc_39 (hS : lS L xs c s u I R) (hc : 6 * c + 6 ≤ L) (hv : xs (6 * c) &&& nI 63 = nI 39) : lc_G d L xs c I R Q l5 l6 := by
  obtain ⟨v, s', u', J, R', K, Q', g1, hJ, lJ, g2, S'⟩ := lS_op (op_joined (x := xs (6 * c + 1)) hS.1) hS d Q
  obtain ⟨-, -, -, hI, lI, -⟩ := id hS
  refine ⟨s', u', K, R', Q', l5, l6, ?_, lS_up S' (Nat.le_succ c)⟩
  simp (disch := first | omega | assumption) only [s280_33, s280_34, r280_36 lI, s280_37, s280_39, e280_39, s280_1462, s280_1463, s280_1464, s280_1466, s280_1467, r280_1468 lI, s280_1469, s280_1472, s280_1473, s280_1474, s280_1476, s280_1477, r280_1478 lJ, s280_1479, s280_1482, s280_1485, s280_1486, s280_1575, s280_1578, nI_le2, nI_lt2, nI_eq2, nI_lt0, nI_0le, nI_0lt, nI_le0, nI_eq0, nI_clamp, nI_add, bu_nI, bb_0, bb_1, rf_s, rf_n, tl_s, tl_n, am_th_some, if_true, if_false, eq_self, Nat.add_assoc, not_false_eq_true, not_true_eq_false, Nat.reduceEqDiff, Nat.reduceLeDiff, Nat.reduceLT, Nat.reduceAdd, Nat.reduceMul, Nat.reduceSub, Nat.zero_add, hI, hJ, hv, g1, g2]
theorem lc_40 (hS : lS L xs c s u I R) (hc : 6 * c + 6 ≤ L) (hv : xs (6 * c) &&& nI 63 = nI 40) : lc_G d L xs c I R Q l5 l6 := by
  obtain ⟨v, s', u', J, R', K, Q', g1, hJ, lJ, g2, S'⟩ := lS_op (op_next (x := xs (6 * c + 1)) (z := xs (6 * c + 2)) hS.1) hS d Q
  obtain ⟨-, -, -, hI, lI, -⟩ := id hS
  refine ⟨s', u', K, R', Q', l5, l6, ?_, lS_up S' (Nat.le_succ c)⟩
  simp (disch := first | omega | assumption) only [s280_33, s280_34, r280_36 lI, s280_37, s280_39, e280_40, s280_1487, s280_1488, s280_1489, s280_1491, s280_1492, r280_1493 lI, s280_1494, s280_1495, s280_1497, s280_1498, r280_1499 lI, s280_1500, s280_1503, s280_1504, s280_1505, s280_1507, s280_1508, r280_1509 lJ, s280_1510, s280_1511, s280_1513, s280_1514, r280_1515 lJ, s280_1516, s280_1519, s280_1522, s280_1523, s280_1575, s280_1578, nI_le2, nI_lt2, nI_eq2, nI_lt0, nI_0le, nI_0lt, nI_le0, nI_eq0, nI_clamp, nI_add, bu_nI, bb_0, bb_1, rf_s, rf_n, tl_s, tl_n, am_th_some, if_true, if_false, eq_self, Nat.add_assoc, not_false_eq_true, not_true_eq_false, Nat.reduceEqDiff, Nat.reduceLeDiff, Nat.reduceLT, Nat.reduceAdd, Nat.reduceMul, Nat.reduceSub, Nat.zero_add, hI, hJ, hv, g1, g2]
theorem lc_41 (hS : lS L xs c s u I R) (hc : 6 * c + 6 ≤ L) (hv : xs (6 * c) &&& nI 63 = nI 41) : lc_G d L xs c I R Q l5 l6 := by
  obtain ⟨v, s', u', J, R', K, Q', g1, hJ, lJ, g2, S'⟩ := lS_op (op_image hS.1) hS d Q
  obtain ⟨-, -, -, hI, lI, -⟩ := id hS
  refine ⟨s', u', K, R', Q', l5, l6, ?_, lS_up S' (Nat.le_succ c)⟩
  simp (disch := first | omega | assumption) only [s280_33, s280_34, r280_36 lI, s280_37, s280_39, e280_41, s280_1524, s280_1525, s280_1528, s280_1529, s280_1532, s280_1535, s280_1536, s280_1575, s280_1578, nI_le2, nI_lt2, nI_eq2, nI_lt0, nI_0le, nI_0lt, nI_le0, nI_eq0, nI_clamp, nI_add, bu_nI, bb_0, bb_1, rf_s, rf_n, tl_s, tl_n, am_th_some, if_true, if_false, eq_self, Nat.add_assoc, not_false_eq_true, not_true_eq_false, Nat.reduceEqDiff, Nat.reduceLeDiff, Nat.reduceLT, Nat.reduceAdd, Nat.reduceMul, Nat.reduceSub, Nat.zero_add, hI, hJ, hv, g1, g2]
theorem lc_42 (hS : lS L xs c s u I R) (hc : 6 * c + 6 ≤ L) (hv : xs (6 * c) &&& nI 63 = nI 42) : lc_G d L xs c I R Q l5 l6 := by
  obtain ⟨v, s', u', J, R', K, Q', g1, hJ, lJ, g2, S'⟩ := lS_op (op_back hS.1) hS d Q
  obtain ⟨-, -, -, hI, lI, -⟩ := id hS
  refine ⟨s', u', K, R', Q', l5, l6, ?_, lS_up S' (Nat.le_succ c)⟩
  simp (disch := first | omega | assumption) only [s280_33, s280_34, r280_36 lI, s280_37, s280_39, e280_42, s280_1537, s280_1538, s280_1541, s280_1542, s280_1545, s280_1548, s280_1549, s280_1575, s280_1578, nI_le2, nI_lt2, nI_eq2, nI_lt0, nI_0le, nI_0lt, nI_le0, nI_eq0, nI_clamp, nI_add, bu_nI, bb_0, bb_1, rf_s, rf_n, tl_s, tl_n, am_th_some, if_true, if_false, eq_self, Nat.add_assoc, not_false_eq_true, not_true_eq_false, Nat.reduceEqDiff, Nat.reduceLeDiff, Nat.reduceLT, Nat.reduceAdd, Nat.reduceMul, Nat.reduceSub, Nat.zero_add, hI, hJ, hv, g1, g2]
theorem lc_43 (hS : lS L xs c s u I R) (hc : 6 * c + 6 ≤ L) (hv : xs (6 * c) &&& nI 63 = nI 43) : lc_G d L xs c I R Q l5 l6 := by
  obtain ⟨v, s', u', J, R', K, Q', g1, hJ, lJ, g2, S'⟩ := lS_op (op_count (x := xs (6 * c + 1)) hS.1) hS d Q
  obtain ⟨-, -, -, hI, lI, -⟩ := id hS
  refine ⟨s', u', K, R', Q', l5, l6, ?_, lS_up S' (Nat.le_succ c)⟩
  simp (disch := first | omega | assumption) only [s280_33, s280_34, r280_36 lI, s280_37, s280_39, e280_43, s280_1550, s280_1551, s280_1552, s280_1554, s280_1555, r280_1556 lI, s280_1557, s280_1560, s280_1561, s280_1562, s280_1564, s280_1565, r280_1566 lJ, s280_1567, s280_1570, s280_1573, s280_1574, s280_1575, s280_1578, nI_le2, nI_lt2, nI_eq2, nI_lt0, nI_0le, nI_0lt, nI_le0, nI_eq0, nI_clamp, nI_add, bu_nI, bb_0, bb_1, rf_s, rf_n, tl_s, tl_n, am_th_some, if_true, if_false, eq_self, Nat.add_assoc, not_false_eq_true, not_true_eq_false, Nat.reduceEqDiff, Nat.reduceLeDiff, Nat.reduceLT, Nat.reduceAdd, Nat.reduceMul, Nat.reduceSub, Nat.zero_add, hI, hJ, hv, g1, g2]
end
