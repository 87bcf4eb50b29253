/-! The class Ahead: the rest, but for what was SET. -/
theorem bm_64 {n : Int} (h1 : -2 ^ 63 ≤ n) (h2 : n < 2 ^ 63) : n.bmod (2 ^ 64) = n := by
  rw [Int.bmod_def]; omega
theorem parts_l {p c : Nat} (hp : p ≤ 1000000000) (hc : c ≤ 100) : ((nI p).toInt64 * (nI c).toInt64 / 100).toInt32 = nI (p * c / 100) := by
  have h1 : p * c ≤ 1000000000 * 100 := Nat.mul_le_mul hp hc
  have h2 : p * c / 100 ≤ 1000000000 := by omega
  apply Int32.toInt_inj.mp
  rw [Int64.toInt_toInt32, Int64.toInt_div, Int64.toInt_mul, Int32.toInt_toInt64, Int32.toInt_toInt64, nI_toInt (by omega), nI_toInt (by omega), show (100 : Int64).toInt = ((100 : Nat) : Int) from rfl, nI_toInt (by omega), ← Int.natCast_mul]
  generalize p * c = x at h1 h2
  rw [bm_64 (n := (x : Int)) (by omega) (by omega), ← Int.ofNat_tdiv]
  generalize x / 100 = y at h2
  rw [bm_64 (by omega) (by omega), bm_32 (by omega) (by omega)]
section
variable {d n b m u q : Nat} {I : am_I} {R : am_R} {Q : am_Q} {P : Nat → Nat → Int32} {T : pl_T}
theorem c_findRow (hr : aa_R R u) (hk : kT T n b) (hb : 1 ≤ b ∧ b ≤ 99) (hn2 : n ≤ 25) (hq : q ≤ 9) {first : Nat} (hf : first ≤ 1) (hT : cT T n b R Q I) (hfu : I 14 u 2 = nI q) (hI : pt_I n b m P) (hm : m < 2 ^ 28) {p : Nat} (hp : p < 54) (hp2 : ¬ p = 3) (hP : pp_at I p P) : ∃ J, am_fr ah_S I J ∧ (((∀ k, k < 7 → sp_row T (nI q) (I 14 u 5) n first k P = none) ∧ am_cal (d + 16) 8 [.ref (am_mk 1 0), .ref (am_mk 9 p), .int (nI first)] I R Q = some (some (.int (nI 0)), J, R, Q)) ∨ ∃ k x, k < 7 ∧ (∀ j, j < k → sp_row T (nI q) (I 14 u 5) n first j P = none) ∧ sp_row T (nI q) (I 14 u 5) n first k P = some x ∧ am_cal (d + 16) 8 [.ref (am_mk 1 0), .ref (am_mk 9 p), .int (nI first)] I R Q = some (some (.int (nI 1)), J, R, Q) ∧ J 1 0 3 = nI k ∧ J 1 0 4 = nI x) := by
  have hr2 := hr
  obtain ⟨r0, r1, r2, r3, r4, r5⟩ := hr
  obtain ⟨J0, a1, a2, a3⟩ := c_become (d := d + 15) (Q := Q) (r4 p hp) (r4 3 (by decide)) hp2 hP (pt_bb hI)
  have e14 : ∀ {J} j, am_fr ah_S I J → J 14 u j = I 14 u j := fun {J} j hf => hf _ _ _ (fun w => by unfold ah_S at w; omega)
  have loop : ∀ l4 : Value, ∃ J, am_fr ah_S I J ∧ (((∀ k, k < 7 → sp_row T (nI q) (I 14 u 5) n first k P = none) ∧ am_ev (d + 16) 8 11 [.ref (am_mk 1 0), .ref (am_mk 9 p), .int (nI first), .int (nI 0), l4] [] J0 R Q = some (some (.int (nI 0)), J, R, Q)) ∨ ∃ k x, k < 7 ∧ (∀ j, j < k → sp_row T (nI q) (I 14 u 5) n first j P = none) ∧ sp_row T (nI q) (I 14 u 5) n first k P = some x ∧ am_ev (d + 16) 8 11 [.ref (am_mk 1 0), .ref (am_mk 9 p), .int (nI first), .int (nI 0), l4] [] J0 R Q = some (some (.int (nI 1)), J, R, Q) ∧ J 1 0 3 = nI k ∧ J 1 0 4 = nI x) := by
    intro l4
    refine loop_inv (f := fun (a : am_I × Value) c => am_ev (d + 16) 8 11 [.ref (am_mk 1 0), .ref (am_mk 9 p), .int (nI first), .int (nI c), a.2] [] a.1 R Q) (Inv := fun c a => am_fr ah_S I a.1 ∧ pp_at a.1 3 P ∧ ∀ k, k < c → sp_row T (nI q) (I 14 u 5) n first k P = none) (Post := fun y => ∃ J, am_fr ah_S I J ∧ (((∀ k, k < 7 → sp_row T (nI q) (I 14 u 5) n first k P = none) ∧ y = some (some (.int (nI 0)), J, R, Q)) ∨ ∃ k x, k < 7 ∧ (∀ j, j < k → sp_row T (nI q) (I 14 u 5) n first j P = none) ∧ sp_row T (nI q) (I 14 u 5) n first k P = some x ∧ y = some (some (.int (nI 1)), J, R, Q) ∧ J 1 0 3 = nI k ∧ J 1 0 4 = nI x)) (n := 7) ?_ ?_ (Nat.zero_le _) (a := (J0, l4)) ⟨fr_mo a2 (pS_ah (by decide) (by decide)), a3, fun k hk => absurd hk (Nat.not_lt_zero _)⟩
    · intro c ⟨J, l4⟩ hc ⟨f1, f2, f3⟩
      have f1 : am_fr ah_S I J := f1
      have h1 : (6 < c) = False := eq_false (by omega)
      obtain ⟨J1, g1, g2, g3⟩ := c_rowFrom (d := d + 6 - c) hr2 hk hb hn2 hq hf (show c ≤ 6 by omega) c J P m 0 (by omega) (cT_fr hT (fr_mo f1 ah_ev)) ((e14 2 f1).trans hfu) hI (by omega) f2
      rw [show d + 6 - c + 9 + c = d + 15 by omega, e14 5 f1] at g1
      have f2' : pp_at J1 3 P := pl_fr f2 g3 (fun a j ha v => v ⟨ha, by decide⟩)
      cases ho : sp_row T (nI q) (I 14 u 5) n first c P with
      | none =>
        left
        rw [ho] at g1
        have g1 : am_cal (d + 15) 9 [.ref (am_mk 1 0), .int (nI 0), .int (nI c), .int (nI first)] J R Q = some (some (.int (-nI 1)), J1, R, Q) := g1
        refine ⟨(J1, .int (-nI 1)), ?_, fr_tr f1 g2, f2', fun k hk => (Nat.lt_succ_iff_lt_or_eq.mp hk).elim (f3 k) (fun e => by rw [e]; exact ho)⟩
        rw [s8_11]
        simp (disch := first | omega | assumption) only [s8_0, s8_1, s8_2, s8_5, s8_6, s8_9, s8_10, s8_12, s8_14, s8_17, s8_18, s8_19, s8_20, s8_21, s8_24, s8_26, s8_28, s8_29, s8_32, s8_33, s8_34, s8_37, s8_38, s8_40, s8_43, s8_44, s8_45, s8_48, s8_51, s8_52, nI_le2, nI_lt2, nI_eq2, nI_lt0, nI_0le, nI_0lt, nI_le0, nI_eq0, nI_clamp, nI_add, bu_nI, bb_0, bb_1, rf_s, rf_n, tl_s, tl_n, am_th_some, if_true, if_false, sI_eq, uI_eq, and_self, true_and, and_true, not_false_eq_true, not_true_eq_false, Nat.reduceEqDiff, Nat.reduceLeDiff, Nat.reduceLT, Nat.reduceAdd, Nat.reduceMul, Nat.reduceSub, Nat.zero_add, h1, g1]
      | some x =>
        right
        rw [ho] at g1
        have g1 : am_cal (d + 15) 9 [.ref (am_mk 1 0), .int (nI 0), .int (nI c), .int (nI first)] J R Q = some (some (.int (nI x)), J1, R, Q) := g1
        have hx := row_lt _ _ _ ho
        have h10 : 10 ^ c ≤ 10 ^ 6 := Nat.pow_le_pow_right (by decide) (by omega)
        have hne : (nI x = -nI 1) = False := eq_false (m1_ne (by omega))
        refine ⟨_, fr_s (fr_s (fr_tr f1 g2) (a := 1) (b := 0) (k := 3) (x := nI c) (by unfold ah_S; omega)) (a := 1) (b := 0) (k := 4) (x := nI x) (by unfold ah_S; omega), Or.inr ⟨c, x, hc, f3, ho, ?_, ?_, ?_⟩⟩
        · rw [s8_11]
          simp (disch := first | omega | assumption) only [s8_0, s8_1, s8_2, s8_5, s8_6, s8_9, s8_10, s8_12, s8_14, s8_17, s8_18, s8_19, s8_20, s8_21, s8_24, s8_26, s8_28, s8_29, s8_32, s8_33, s8_34, s8_37, s8_38, s8_40, s8_43, s8_44, s8_45, s8_48, s8_51, s8_52, nI_le2, nI_lt2, nI_eq2, nI_lt0, nI_0le, nI_0lt, nI_le0, nI_eq0, nI_clamp, nI_add, bu_nI, bb_0, bb_1, rf_s, rf_n, tl_s, tl_n, am_th_some, if_true, if_false, sI_eq, uI_eq, and_self, true_and, and_true, not_false_eq_true, not_true_eq_false, Nat.reduceEqDiff, Nat.reduceLeDiff, Nat.reduceLT, Nat.reduceAdd, Nat.reduceMul, Nat.reduceSub, Nat.zero_add, h1, g1, hne]
        · rw [sI_eq, uI_ne (by decide), sI_eq, uI_eq]
        · rw [sI_eq, uI_eq]
    · intro ⟨J, l4⟩ ⟨f1, f2, f3⟩
      refine ⟨J, f1, Or.inl ⟨f3, ?_⟩⟩
      have h1 : (6 < 7) = True := eq_true (by omega)
      rw [s8_11]
      simp (disch := first | omega | assumption) only [s8_0, s8_1, s8_2, s8_5, s8_6, s8_9, s8_10, s8_12, s8_14, s8_17, s8_18, s8_19, s8_20, s8_21, s8_24, s8_26, s8_28, s8_29, s8_32, s8_33, s8_34, s8_37, s8_38, s8_40, s8_43, s8_44, s8_45, s8_48, s8_51, s8_52, nI_le2, nI_lt2, nI_eq2, nI_lt0, nI_0le, nI_0lt, nI_le0, nI_eq0, nI_clamp, nI_add, bu_nI, bb_0, bb_1, rf_s, rf_n, tl_s, tl_n, am_th_some, if_true, if_false, sI_eq, uI_eq, and_self, true_and, and_true, not_false_eq_true, not_true_eq_false, Nat.reduceEqDiff, Nat.reduceLeDiff, Nat.reduceLT, Nat.reduceAdd, Nat.reduceMul, Nat.reduceSub, Nat.zero_add, h1]
  obtain ⟨J, g1, g2⟩ := loop am_J
  have start : am_cal (d + 16) 8 [.ref (am_mk 1 0), .ref (am_mk 9 p), .int (nI first)] I R Q = am_ev (d + 16) 8 11 [.ref (am_mk 1 0), .ref (am_mk 9 p), .int (nI first), .int (nI 0), am_J] [] J0 R Q := by
    rw [s8]
    simp (disch := first | omega | assumption) only [s8_0, s8_1, s8_2, s8_5, s8_6, s8_9, s8_10, s8_12, s8_14, s8_17, s8_18, s8_19, s8_20, s8_21, s8_24, s8_26, s8_28, s8_29, s8_32, s8_33, s8_34, s8_37, s8_38, s8_40, s8_43, s8_44, s8_45, s8_48, s8_51, s8_52, nI_le2, nI_lt2, nI_eq2, nI_lt0, nI_0le, nI_0lt, nI_le0, nI_eq0, nI_clamp, nI_add, bu_nI, bb_0, bb_1, rf_s, rf_n, tl_s, tl_n, am_th_some, if_true, if_false, sI_eq, uI_eq, and_self, true_and, and_true, not_false_eq_true, not_true_eq_false, Nat.reduceEqDiff, Nat.reduceLeDiff, Nat.reduceLT, Nat.reduceAdd, Nat.reduceMul, Nat.reduceSub, Nat.zero_add, c_plateAt (d := d + 15) hr2 (show 0 < 9 by decide), Nat.add_zero, a1]
  rw [start]
  exact ⟨J, g1, g2⟩
theorem turn_I {t : Nat} (ht : t ≤ 1) (h : pt_I n b m P) : pt_I n b m (sp_up P 4 2 (nI t)) := by
  obtain ⟨h1, h2, h3, h4, c, hc, hf⟩ := h
  refine ⟨by rw [up_nc (by decide)]; exact h1, ?_, by rw [up_nc (by decide)]; exact h3, fun c hc => ?_, c, hc, by rw [up_na (by decide)]; exact hf⟩
  · rw [up_eq]
    rcases (show t = 0 ∨ t = 1 by omega) with e | e <;> subst e
    · exact Or.inl rfl
    · exact Or.inr rfl
  · obtain ⟨t, i, g, u, q0, q1, q2, q3, qr⟩ := h4 c hc
    exact ⟨t, i, g, u, by rw [up_na (by decide)]; exact q0, by rw [up_na (by decide)]; exact q1, by rw [up_na (by decide)]; exact q2, by rw [up_na (by decide)]; exact q3, qr⟩
def sp_lli (P : Nat → Nat → Int32) : Int32 := am_fold (fun a c => if P 0 c ≤ 0 then a else if P 2 c - P 1 c < a then P 2 c - P 1 c else a) (nI 1000000000) 25
theorem pl_lli {p : Nat} (hP : pp_at I p P) : am_fold (fun a c => if I 19 p c ≤ 0 then a else if I 21 p c - I 20 p c < a then I 21 p c - I 20 p c else a) (nI 1000000000) 25 = sp_lli P := fold_congr fun x c hc => by
  obtain ⟨a0, a1, a2, a3⟩ := hP.1 c hc
  rw [a0, a1, a2]
theorem c_leastBehind (hr : aa_R R u) (hk : kT T n b) (hq : q ≤ 9) (hT : cT T n b R Q I) (hfu : I 14 u 2 = nI q) (hI : pt_I n b m P) (hm : m < 2 ^ 27) {p c t : Nat} (hp : p < 54) (hp2 : ¬ p = 3) (hP : pp_at I p P) (hc : c ≤ 60) (ht : t ≤ 1) : ∃ J, am_cal (d + 10) 11 [.ref (am_mk 1 0), .ref (am_mk 9 p), .int (nI c), .int (nI t)] I R Q = some (some (.int (sp_lli (sp_it T (nI q) (sp_up P 4 2 (nI t)) c))), J, R, Q) ∧ am_fr ah_S I J := by
  have hr2 := hr
  obtain ⟨r0, r1, r2, r3, r4, r5⟩ := hr
  obtain ⟨J0, a1, a2, a3⟩ := c_become (d := d + 9) (Q := Q) (r4 p hp) (r4 3 (by decide)) hp2 hP (pt_bb hI)
  have hb1 : am_bb (nI t) = True := by
    rcases (show t = 0 ∨ t = 1 by omega) with e | e <;> subst e
    · exact bb_0
    · exact bb_1
  have f1 : am_fr ah_S I J0 := fr_mo a2 (pS_ah (by decide) (by decide))
  have f2 : am_fr ah_S I (am_sI J0 9 3 (am_uI (J0 9 3) 6 (nI t))) := fr_s f1 (by unfold ah_S; omega)
  have a4 := pl_u4 a3 2 (nI t) (by decide)
  have e14 : ∀ {J} j, am_fr ah_S I J → J 14 u j = I 14 u j := fun {J} j hf => hf _ _ _ (fun w => by unfold ah_S at w; omega)
  obtain ⟨J1, g1, g2, g3⟩ := c_behind (d := d) (q := q) hr2 (cT_fr hT (fr_mo f2 ah_ev)) hk (turn_I ht hI) (by omega) hq (by decide) (by decide) a4 hc
  obtain ⟨p0, p1, p2, p3⟩ := r4 2 (by decide)
  have hl := c_leastLessIce (d := d + 9) (I := J1) (Q := Q) p0 p1 p2
  rw [pl_lli g3] at hl
  refine ⟨J1, ?_, fr_tr f2 g2⟩
  obtain ⟨k0, k1', k2', k3, k4, k5⟩ := r5
  have e2 := (e14 2 f2).trans hfu
  have bu2 : am_bu (nI 2) 6 = True := bu_nI (by decide)
  rw [s11]
  simp (disch := first | omega | assumption) only [s11_0, s11_1, s11_2, s11_5, s11_7, s11_9, s11_10, s11_13, s11_15, s11_16, s11_19, s11_20, s11_22, s11_23, s11_24, s11_27, s11_30, s11_33, s11_34, s11_35, s11_38, s11_41, nI_le2, nI_lt2, nI_eq2, nI_lt0, nI_0le, nI_0lt, nI_le0, nI_eq0, nI_clamp, nI_add, bu_nI, bb_0, bb_1, rf_s, rf_n, tl_s, tl_n, am_th_some, if_true, if_false, sI_eq, uI_eq, and_self, true_and, and_true, not_false_eq_true, not_true_eq_false, Nat.reduceEqDiff, Nat.reduceLeDiff, Nat.reduceLT, Nat.reduceAdd, Nat.reduceMul, Nat.reduceSub, Nat.zero_add, c_plateAt (d := d + 9) hr2 (show 0 < 9 by decide), Nat.add_zero, a1, hb1, r0, k0, k3, e2, bu2, g1, hl]
theorem shift_I {k c : Nat} (hb : 1 ≤ b) (hkn : k < n) (hk : ¬ P 0 k ≤ 0) (hc : c < n) (hn2 : n ≤ 25) (h : pt_I n b m P) : pt_I n b m (sp_shift P k c) := by
  unfold sp_shift
  by_cases hc0 : P 0 c ≤ 0
  · rw [if_pos hc0]
    have hne : ¬ k = c := fun e => hk (by rw [e]; exact hc0)
    obtain ⟨h1, h2, h3, h4, -⟩ := h
    have e4 : ∀ j, sp_clear (sp_up (sp_up (sp_up (sp_up P 0 c (P 0 k)) 1 c (P 1 k)) 2 c (P 2 k)) 3 c (P 3 k)) k 4 j = P 4 j := fun j => by
      unfold sp_clear
      rw [up_na (by decide), up_na (by decide), up_na (by decide), up_na (by decide), up_na (by decide), up_na (by decide), up_na (by decide), up_na (by decide)]
    have ek : ∀ a, a < 4 → sp_clear (sp_up (sp_up (sp_up (sp_up P 0 c (P 0 k)) 1 c (P 1 k)) 2 c (P 2 k)) 3 c (P 3 k)) k a k = nI 0 := fun a ha => by
      unfold sp_clear
      rcases (show a = 0 ∨ a = 1 ∨ a = 2 ∨ a = 3 by omega) with e | e | e | e <;> subst e
      · rw [up_na (by decide), up_na (by decide), up_na (by decide), up_eq]
      · rw [up_na (by decide), up_na (by decide), up_eq]
      · rw [up_na (by decide), up_eq]
      · rw [up_eq]
    have ec : ∀ a, a < 4 → sp_clear (sp_up (sp_up (sp_up (sp_up P 0 c (P 0 k)) 1 c (P 1 k)) 2 c (P 2 k)) 3 c (P 3 k)) k a c = P a k := fun a ha => by
      unfold sp_clear
      have hne' : ¬ c = k := fun e => hne e.symm
      rw [up_nc hne', up_nc hne', up_nc hne', up_nc hne']
      rcases (show a = 0 ∨ a = 1 ∨ a = 2 ∨ a = 3 by omega) with e | e | e | e <;> subst e
      · rw [up_na (by decide), up_na (by decide), up_na (by decide), up_eq]
      · rw [up_na (by decide), up_na (by decide), up_eq]
      · rw [up_na (by decide), up_eq]
      · rw [up_eq]
    have eo : ∀ a j, ¬ j = k → ¬ j = c → sp_clear (sp_up (sp_up (sp_up (sp_up P 0 c (P 0 k)) 1 c (P 1 k)) 2 c (P 2 k)) 3 c (P 3 k)) k a j = P a j := fun a j h1 h2 => by
      unfold sp_clear
      rw [up_nc h1, up_nc h1, up_nc h1, up_nc h1, up_nc h2, up_nc h2, up_nc h2, up_nc h2]
    refine ⟨by rw [e4]; exact h1, by rw [e4]; exact h2, by rw [e4]; exact h3, fun j hj => ?_, c, by omega, by rw [ec 0 (by decide)]; exact hk⟩
    by_cases q1 : j = k
    · subst q1
      exact ⟨0, 0, 0, 0, ek 0 (by decide), ek 1 (by decide), ek 2 (by decide), ek 3 (by decide), by omega, by omega, by omega, by omega, fun _ => ⟨rfl, rfl, rfl⟩, fun _ => rfl⟩
    · by_cases q2 : j = c
      · subst q2
        obtain ⟨t, i, g, u, q0, q1, q2, q3, a1, a2, a3, a4, a5, a6⟩ := h4 k (by omega)
        exact ⟨t, i, g, u, by rw [ec 0 (by decide)]; exact q0, by rw [ec 1 (by decide)]; exact q1, by rw [ec 2 (by decide)]; exact q2, by rw [ec 3 (by decide)]; exact q3, a1, a2, a3, a4, a5, fun w => by omega⟩
      · obtain ⟨t, i, g, u, p0, p1, p2, p3, qr⟩ := h4 j hj
        exact ⟨t, i, g, u, by rw [eo 0 j q1 q2]; exact p0, by rw [eo 1 j q1 q2]; exact p1, by rw [eo 2 j q1 q2]; exact p2, by rw [eo 3 j q1 q2]; exact p3, qr⟩
  · rw [if_neg hc0]; exact h
end
