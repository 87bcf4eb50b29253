/-! The constructors: those with loops. -/
theorem lw_cm {R R' : am_R} {p : Nat} (c : cm R R') (h : lw_R R p) : lw_R R' p := ⟨c _ _ _ _ (by decide) h.1, c _ _ _ _ (by decide) h.2⟩
theorem lp_1_o : ∀ c, c < 9 → am_ord (46 + 5 * c) = am_mk 9 (3 + c) ∧ am_ord (46 + 5 * c + 1) = am_mk 19 (3 + c) ∧ am_ord (46 + 5 * c + 2) = am_mk 20 (3 + c) ∧ am_ord (46 + 5 * c + 3) = am_mk 21 (3 + c) ∧ am_ord (46 + 5 * c + 4) = am_mk 22 (3 + c) := by decide +kernel
theorem lp_1 {d T : Nat} {I : am_I} {R : am_R} {Q : am_Q} (hz : zI I) (hq : zQ Q) (h0 : cr 46 R) (uA : un 33 0 (fun _ => False) R) (rA : R 1 0 2 = some (am_mk 33 0)) : ∃ R', am_ev (d + 1) 4 31 [.ref (am_mk 1 0), .ref T, .int (nI 0)] [] I R Q = some (none, I, R', Q) ∧ cr 91 R' ∧ od 45 R R' ∧ cm R R' ∧ fx 46 45 R R' ∧ ∀ k, k < 9 → R' 33 0 k = some (am_mk 9 (3 + k)) ∧ pp_R R' (3 + k) := by
  have oA : am_ord 45 = am_mk 33 0 := rfl
  refine loop_inv (f := fun R1 c => am_ev (d + 1) 4 31 [.ref (am_mk 1 0), .ref T, .int (nI c)] [] I R1 Q) (Inv := fun c R1 => cr (46 + 5 * c) R1 ∧ od 45 R R1 ∧ cm R R1 ∧ un 33 0 (fun j => j < c) R1 ∧ fx 46 45 R R1 ∧ ∀ k, k < c → R1 33 0 k = some (am_mk 9 (3 + k)) ∧ pp_R R1 (3 + k)) (Post := fun y => ∃ R', y = some (none, I, R', Q) ∧ cr 91 R' ∧ od 45 R R' ∧ cm R R' ∧ fx 46 45 R R' ∧ ∀ k, k < 9 → R' 33 0 k = some (am_mk 9 (3 + k)) ∧ pp_R R' (3 + k)) (n := 9) ?_ ?_ (Nat.zero_le _) ⟨h0, od_rf, cm_rf, fun j _ => uA j (fun w => w), fun _ _ _ _ => rfl, fun k hk => absurd hk (Nat.not_lt_zero _)⟩
  · intro c R1 hc ⟨h1, d1, m1, u1, b1, v1⟩
    left
    obtain ⟨o0, o1, o2, o3, o4⟩ := lp_1_o c hc
    have n1 : ¬ 9 ≤ c := by omega
    have bd : am_bd (nI c) 9 := ⟨nI_pos' (by omega), by rw [nI_clamp (by omega)]; exact hc⟩
    have r1 := m1 _ _ _ _ (by decide) rA
    obtain ⟨R2, e2, h2, f2⟩ := st_new h1 (by omega)
    obtain ⟨d2, m2⟩ := of_127 (p := 45) f2 (by omega)
    have q2 : ∀ {d : Nat} {l0 l1 l2 : Value} {st : List Value}, am_ev d 4 45 [l0, l1, l2] st I R1 Q = am_ev d 4 48 [l0, l1, l2] (.ref (am_mk 9 (3 + c)) :: st) I R2 Q := fun {d l0 l1 l2 st} => (s4_45 h1.2.1 ⟨by omega, o0⟩ (n0 h1 (by omega) o0 (by decide) (fun j => hz _ _ j (by decide) (by decide) (by decide)) hq _)).trans (by rw [e2])
    have w2 := un_new h1 (by omega) o0 (by decide) f2
    have u2 := un_od u1 (of_127 (p := 45 + 1) f2 (by omega)).1 oA (by decide) (by omega)
    obtain ⟨R3, g3, h3, d3, m3, t0, t1, t2, t3⟩ := i_9 (d := d) (p := 46 + 5 * c) (k := 3 + c) (I := I) (Q := Q) hz hq o0 o1 o2 o3 o4 (by omega) h2 w2
    have u3 := un_od u2 d3 oA (by decide) (by omega)
    obtain ⟨R4, e4, h4, d4, m4, u4, v4, x4⟩ := st_put h3 oA (by decide) (by omega) u3 c (am_mk 9 (3 + c)) (Nat.lt_irrefl c)
    have c2 := cm_tr m2 (cm_tr m3 m4)
    refine ⟨R4, ?_, ?_, od_tr (od_tr (od_tr d1 d2) (od_mo d3 (by omega))) d4, cm_tr m1 c2, fun j hj => u4 j (fun w => hj (by show j < c + 1; rcases w with w | w; omega; exact Nat.lt_succ_of_lt w)), fx_tr (fx_tr (fx_tr b1 (fx_od (of_127 (p := 365) f2 (by omega)).1 (by omega))) (fx_od d3 (by omega))) (fx_put oA (by decide) (by decide) (by decide) x4), fun k hk => ?_⟩
    · simp (disch := first | omega | assumption) only [s4_31, s4_32, s4_33, s4_36, s4_37, s4_40, s4_41, s4_44, s4_48, s4_49, s4_52, s4_53, s4_56, r1, n1, hc, q2, g3, e4, nI_le2, nI_clamp, nI_add, bu_nI, am_th_some, if_false, tl_n, rf_s]
    · have : cr (46 + 5 * (c + 1)) R4 := by rw [show 46 + 5 * (c + 1) = 46 + 5 * c + 5 by omega]; exact h4
      exact this
    · by_cases q : k = c
      · subst q
        exact ⟨v4, pp_cm m4 ⟨t0, t1, t2, t3⟩⟩
      · exact ⟨c2 _ _ _ _ (by decide) (v1 k (by omega)).1, pp_cm c2 (v1 k (by omega)).2⟩
  · intro R1 ⟨h1, d1, m1, u1, b1, v1⟩
    have n1 : 9 ≤ 9 := Nat.le_refl _
    have r1 := m1 _ _ _ _ (by decide) rA
    refine ⟨R1, ?_, h1, d1, m1, b1, v1⟩
    simp (disch := first | omega | assumption) only [s4_31, s4_32, s4_33, s4_36, s4_37, s4_40, s4_41, s4_44, s4_48, s4_49, s4_52, s4_53, s4_56, s4_59, r1, n1, nI_le2, if_true, rf_s]
theorem lp_0_o : ∀ c, c < 40 → am_ord (98 + 5 * c) = am_mk 9 (13 + c) ∧ am_ord (98 + 5 * c + 1) = am_mk 19 (13 + c) ∧ am_ord (98 + 5 * c + 2) = am_mk 20 (13 + c) ∧ am_ord (98 + 5 * c + 3) = am_mk 21 (13 + c) ∧ am_ord (98 + 5 * c + 4) = am_mk 22 (13 + c) := by decide +kernel
theorem lp_0 {d : Nat} {I : am_I} {R : am_R} {Q : am_Q} (hz : zI I) (hq : zQ Q) (h0 : cr 98 R) (uA : un 34 0 (fun _ => False) R) (rA : R 0 0 0 = some (am_mk 34 0)) : ∃ R', am_ev (d + 1) 0 15 [.ref (am_mk 0 0), .int (nI 0)] [] I R Q = some (none, I, R', Q) ∧ cr 298 R' ∧ od 97 R R' ∧ cm R R' ∧ fx 98 97 R R' ∧ ∀ k, k < 40 → R' 34 0 k = some (am_mk 9 (13 + k)) ∧ pp_R R' (13 + k) := by
  have oA : am_ord 97 = am_mk 34 0 := rfl
  refine loop_inv (f := fun R1 c => am_ev (d + 1) 0 15 [.ref (am_mk 0 0), .int (nI c)] [] I R1 Q) (Inv := fun c R1 => cr (98 + 5 * c) R1 ∧ od 97 R R1 ∧ cm R R1 ∧ un 34 0 (fun j => j < c) R1 ∧ fx 98 97 R R1 ∧ ∀ k, k < c → R1 34 0 k = some (am_mk 9 (13 + k)) ∧ pp_R R1 (13 + k)) (Post := fun y => ∃ R', y = some (none, I, R', Q) ∧ cr 298 R' ∧ od 97 R R' ∧ cm R R' ∧ fx 98 97 R R' ∧ ∀ k, k < 40 → R' 34 0 k = some (am_mk 9 (13 + k)) ∧ pp_R R' (13 + k)) (n := 40) ?_ ?_ (Nat.zero_le _) ⟨h0, od_rf, cm_rf, fun j _ => uA j (fun w => w), fun _ _ _ _ => rfl, fun k hk => absurd hk (Nat.not_lt_zero _)⟩
  · intro c R1 hc ⟨h1, d1, m1, u1, b1, v1⟩
    left
    obtain ⟨o0, o1, o2, o3, o4⟩ := lp_0_o c hc
    have n1 : ¬ 40 ≤ c := by omega
    have bd : am_bd (nI c) 40 := ⟨nI_pos' (by omega), by rw [nI_clamp (by omega)]; exact hc⟩
    have r1 := m1 _ _ _ _ (by decide) rA
    obtain ⟨R2, e2, h2, f2⟩ := st_new h1 (by omega)
    obtain ⟨d2, m2⟩ := of_127 (p := 97) f2 (by omega)
    have q2 : ∀ {d : Nat} {l0 l1 : Value} {st : List Value}, am_ev d 0 29 [l0, l1] st I R1 Q = am_ev d 0 32 [l0, l1] (.ref (am_mk 9 (13 + c)) :: st) I R2 Q := fun {d l0 l1 st} => (s0_29 h1.2.1 ⟨by omega, o0⟩ (n0 h1 (by omega) o0 (by decide) (fun j => hz _ _ j (by decide) (by decide) (by decide)) hq _)).trans (by rw [e2])
    have w2 := un_new h1 (by omega) o0 (by decide) f2
    have u2 := un_od u1 (of_127 (p := 97 + 1) f2 (by omega)).1 oA (by decide) (by omega)
    obtain ⟨R3, g3, h3, d3, m3, t0, t1, t2, t3⟩ := i_9 (d := d) (p := 98 + 5 * c) (k := 13 + c) (I := I) (Q := Q) hz hq o0 o1 o2 o3 o4 (by omega) h2 w2
    have u3 := un_od u2 d3 oA (by decide) (by omega)
    obtain ⟨R4, e4, h4, d4, m4, u4, v4, x4⟩ := st_put h3 oA (by decide) (by omega) u3 c (am_mk 9 (13 + c)) (Nat.lt_irrefl c)
    have c2 := cm_tr m2 (cm_tr m3 m4)
    refine ⟨R4, ?_, ?_, od_tr (od_tr (od_tr d1 d2) (od_mo d3 (by omega))) d4, cm_tr m1 c2, fun j hj => u4 j (fun w => hj (by show j < c + 1; rcases w with w | w; omega; exact Nat.lt_succ_of_lt w)), fx_tr (fx_tr (fx_tr b1 (fx_od (of_127 (p := 365) f2 (by omega)).1 (by omega))) (fx_od d3 (by omega))) (fx_put oA (by decide) (by decide) (by decide) x4), fun k hk => ?_⟩
    · simp (disch := first | omega | assumption) only [s0_15, s0_16, s0_17, s0_20, s0_21, s0_24, s0_25, s0_28, s0_32, s0_33, s0_36, s0_37, s0_40, r1, n1, hc, q2, g3, e4, nI_le2, nI_clamp, nI_add, bu_nI, am_th_some, if_false, tl_n, rf_s]
    · have : cr (98 + 5 * (c + 1)) R4 := by rw [show 98 + 5 * (c + 1) = 98 + 5 * c + 5 by omega]; exact h4
      exact this
    · by_cases q : k = c
      · subst q
        exact ⟨v4, pp_cm m4 ⟨t0, t1, t2, t3⟩⟩
      · exact ⟨c2 _ _ _ _ (by decide) (v1 k (by omega)).1, pp_cm c2 (v1 k (by omega)).2⟩
  · intro R1 ⟨h1, d1, m1, u1, b1, v1⟩
    have n1 : 40 ≤ 40 := Nat.le_refl _
    have r1 := m1 _ _ _ _ (by decide) rA
    refine ⟨R1, ?_, h1, d1, m1, b1, v1⟩
    simp (disch := first | omega | assumption) only [s0_15, s0_16, s0_17, s0_20, s0_21, s0_24, s0_25, s0_28, s0_32, s0_33, s0_36, s0_37, s0_40, s0_43, r1, n1, nI_le2, if_true, rf_s]
theorem lp_11_o : ∀ c, c < 4 → am_ord (321 + 3 * c) = am_mk 3 (1 + c) ∧ am_ord (321 + 3 * c + 1) = am_mk 27 (1 + c) ∧ am_ord (321 + 3 * c + 2) = am_mk 28 (1 + c) := by decide +kernel
theorem lp_11 {d : Nat} {I : am_I} {R : am_R} {Q : am_Q} (hz : zI I) (hq : zQ Q) (h0 : cr 321 R) (uA : un 29 0 (fun _ => False) R) (rA : R 11 0 3 = some (am_mk 29 0)) : ∃ R', am_ev (d + 1) 96 170 [.ref (am_mk 11 0), .int (nI 0)] [] I R Q = some (none, I, R', Q) ∧ cr 333 R' ∧ od 23 R R' ∧ cm R R' ∧ fx 321 23 R R' ∧ ∀ k, k < 4 → R' 29 0 k = some (am_mk 3 (1 + k)) ∧ lw_R R' (1 + k) := by
  have oA : am_ord 23 = am_mk 29 0 := rfl
  refine loop_inv (f := fun R1 c => am_ev (d + 1) 96 170 [.ref (am_mk 11 0), .int (nI c)] [] I R1 Q) (Inv := fun c R1 => cr (321 + 3 * c) R1 ∧ od 23 R R1 ∧ cm R R1 ∧ un 29 0 (fun j => j < c) R1 ∧ fx 321 23 R R1 ∧ ∀ k, k < c → R1 29 0 k = some (am_mk 3 (1 + k)) ∧ lw_R R1 (1 + k)) (Post := fun y => ∃ R', y = some (none, I, R', Q) ∧ cr 333 R' ∧ od 23 R R' ∧ cm R R' ∧ fx 321 23 R R' ∧ ∀ k, k < 4 → R' 29 0 k = some (am_mk 3 (1 + k)) ∧ lw_R R' (1 + k)) (n := 4) ?_ ?_ (Nat.zero_le _) ⟨h0, od_rf, cm_rf, fun j _ => uA j (fun w => w), fun _ _ _ _ => rfl, fun k hk => absurd hk (Nat.not_lt_zero _)⟩
  · intro c R1 hc ⟨h1, d1, m1, u1, b1, v1⟩
    left
    obtain ⟨o0, o1, o2⟩ := lp_11_o c hc
    have n1 : ¬ 4 ≤ c := by omega
    have bd : am_bd (nI c) 4 := ⟨nI_pos' (by omega), by rw [nI_clamp (by omega)]; exact hc⟩
    have r1 := m1 _ _ _ _ (by decide) rA
    obtain ⟨R2, e2, h2, f2⟩ := st_new h1 (by omega)
    obtain ⟨d2, m2⟩ := of_127 (p := 23) f2 (by omega)
    have q2 : ∀ {d : Nat} {l0 l1 : Value} {st : List Value}, am_ev d 96 184 [l0, l1] st I R1 Q = am_ev d 96 187 [l0, l1] (.ref (am_mk 3 (1 + c)) :: st) I R2 Q := fun {d l0 l1 st} => (s96_184 h1.2.1 ⟨by omega, o0⟩ (n0 h1 (by omega) o0 (by decide) (fun j => hz _ _ j (by decide) (by decide) (by decide)) hq _)).trans (by rw [e2])
    have w2 := un_new h1 (by omega) o0 (by decide) f2
    have u2 := un_od u1 (of_127 (p := 23 + 1) f2 (by omega)).1 oA (by decide) (by omega)
    obtain ⟨R3, g3, h3, d3, m3, t0, t1⟩ := i_3 (d := d) (p := 321 + 3 * c) (k := 1 + c) (I := I) (Q := Q) hz hq o0 o1 o2 (by omega) h2 w2
    have u3 := un_od u2 d3 oA (by decide) (by omega)
    obtain ⟨R4, e4, h4, d4, m4, u4, v4, x4⟩ := st_put h3 oA (by decide) (by omega) u3 c (am_mk 3 (1 + c)) (Nat.lt_irrefl c)
    have c2 := cm_tr m2 (cm_tr m3 m4)
    refine ⟨R4, ?_, ?_, od_tr (od_tr (od_tr d1 d2) (od_mo d3 (by omega))) d4, cm_tr m1 c2, fun j hj => u4 j (fun w => hj (by show j < c + 1; rcases w with w | w; omega; exact Nat.lt_succ_of_lt w)), fx_tr (fx_tr (fx_tr b1 (fx_od (of_127 (p := 365) f2 (by omega)).1 (by omega))) (fx_od d3 (by omega))) (fx_put oA (by decide) (by decide) (by decide) x4), fun k hk => ?_⟩
    · simp (disch := first | omega | assumption) only [s96_170, s96_171, s96_172, s96_175, s96_176, s96_179, s96_180, s96_183, s96_187, s96_188, s96_191, s96_192, s96_195, r1, n1, hc, q2, g3, e4, nI_le2, nI_clamp, nI_add, bu_nI, am_th_some, if_false, tl_n, rf_s]
    · have : cr (321 + 3 * (c + 1)) R4 := by rw [show 321 + 3 * (c + 1) = 321 + 3 * c + 3 by omega]; exact h4
      exact this
    · by_cases q : k = c
      · subst q
        exact ⟨v4, lw_cm m4 ⟨t0, t1⟩⟩
      · exact ⟨c2 _ _ _ _ (by decide) (v1 k (by omega)).1, lw_cm c2 (v1 k (by omega)).2⟩
  · intro R1 ⟨h1, d1, m1, u1, b1, v1⟩
    have n1 : 4 ≤ 4 := Nat.le_refl _
    have r1 := m1 _ _ _ _ (by decide) rA
    refine ⟨R1, ?_, h1, d1, m1, b1, v1⟩
    simp (disch := first | omega | assumption) only [s96_170, s96_171, s96_172, s96_175, s96_176, s96_179, s96_180, s96_183, s96_187, s96_188, s96_191, s96_192, s96_195, s96_198, r1, n1, nI_le2, if_true, rf_s]
theorem i_1 {d : Nat} {I : am_I} {R : am_R} {Q : am_Q} {T : Nat} (hz : zI I) (hq : zQ Q) (h0 : cr (40) R) (u0 : un 1 0 (fun _ => False) R) : ∃ R', am_cal (d + 1) 4 [.ref (am_mk 1 0), .ref T] I R Q = some (none, I, R', Q) ∧ cr (91) R' ∧ od (39) R R' ∧ cm R R' ∧ R' 9 2 0 = some (am_mk 19 2) ∧ R' 9 2 1 = some (am_mk 20 2) ∧ R' 9 2 2 = some (am_mk 21 2) ∧ R' 9 2 3 = some (am_mk 22 2) ∧ R' 1 0 1 = some (am_mk 9 2) ∧ R' 1 0 2 = some (am_mk 33 0) ∧ R' 1 0 0 = some (T) ∧ (∀ k, k < 9 → R' 33 0 k = some (am_mk 9 (3 + k)) ∧ pp_R R' (3 + k)) := by
  have op : am_ord 39 = am_mk 1 0 := rfl
  have o1 : am_ord 40 = am_mk 9 2 := rfl
  have o2 : am_ord 41 = am_mk 19 2 := rfl
  have o3 : am_ord 42 = am_mk 20 2 := rfl
  have o4 : am_ord 43 = am_mk 21 2 := rfl
  have o5 : am_ord 44 = am_mk 22 2 := rfl
  have o6 : am_ord 45 = am_mk 33 0 := rfl
  obtain ⟨R1, e1, h1, f1⟩ := st_new h0 (by decide)
  obtain ⟨d1, m1⟩ := of_127 (p := 39) f1 (by omega)
  have q1 : ∀ {d : Nat} {l0 l1 l2 : Value} {st : List Value}, am_ev d 4 5 [l0, l1, l2] st I R Q = am_ev d 4 8 [l0, l1, l2] (.ref (am_mk 9 2) :: st) I R1 Q := fun {d l0 l1 l2 st} => (s4_5 h0.2.1 ⟨by omega, o1⟩ (n0 h0 (by omega) o1 (by decide) (fun j => hz _ _ j (by decide) (by decide) (by decide)) hq _)).trans (by rw [e1])
  have w1 := un_new h0 (by omega) o1 (by decide) f1
  have u1 := un_od u0 (of_127 (p := 39 + 1) f1 (by omega)).1 op (by decide) (by omega)
  replace h1 : cr 41 R1 := h1
  obtain ⟨R2, g2, h2, d2, m2, w2_0, w2_1, w2_2, w2_3⟩ := i_9 (d := d) (p := 40) (k := 2) (I := I) (Q := Q) hz hq o1 o2 o3 o4 o5 (by omega) h1 w1
  replace d2 := od_mo (q := 39 + 1) d2 (by omega)
  have u2 := un_od u1 d2 op (by decide) (by omega)
  replace d2 := od_mo (q := 39) d2 (by omega)
  replace h2 : cr 45 R2 := h2
  obtain ⟨R3, e3, h3, d3, m3, u3, v3, x3⟩ := st_put h2 op (by decide) (by omega) u2 1 (am_mk 9 2) (by decide)
  replace h3 : cr 45 R3 := h3
  obtain ⟨R4, e4, h4, f4⟩ := st_new h3 (by decide)
  obtain ⟨d4, m4⟩ := of_127 (p := 39) f4 (by omega)
  have q4 : ∀ {d : Nat} {l0 l1 l2 : Value} {st : List Value}, am_ev d 4 18 [l0, l1, l2] (.int (nI 9) :: st) I R3 Q = am_ev d 4 21 [l0, l1, l2] (.ref (am_mk 33 0) :: st) I R4 Q := fun {d l0 l1 l2 st} => (s4_18 h3.2.1 ⟨by omega, o6⟩ ⟨rfl, by decide⟩ rfl (n0 h3 (by omega) o6 (by decide) (fun j => hz _ _ j (by decide) (by decide) (by decide)) hq _)).trans (by rw [e4])
  have u4 := un_od u3 (of_127 (p := 39 + 1) f4 (by omega)).1 op (by decide) (by omega)
  have z4 := un_new h3 (by omega) o6 (by decide) f4
  replace h4 : cr 46 R4 := h4
  obtain ⟨R5, e5, h5, d5, m5, u5, v5, x5⟩ := st_put h4 op (by decide) (by omega) u4 2 (am_mk 33 0) (by decide)
  have y545 := un_fr z4 x5 (by decide)
  replace h5 : cr 46 R5 := h5
  obtain ⟨R6, e6, h6, d6, m6, u6, v6, x6⟩ := st_put h5 op (by decide) (by omega) u5 0 (T) (by decide)
  have y645 := un_fr y545 x6 (by decide)
  replace h6 : cr 46 R6 := h6
  obtain ⟨R7, g7, h7, d7, m7, b7, w7⟩ := lp_1 (d := d) (I := I) (T := T) (Q := Q) hz hq h6 y645 (m6 _ _ _ _ (by decide) (v5))
  replace d7 := od_mo (q := 39) d7 (by omega)
  replace h7 : cr 91 R7 := h7
  have c7 : cm R7 R7 := cm_rf
  have c6 := cm_tr m7 c7
  have c5 := cm_tr m6 c6
  have c4 := cm_tr m5 c5
  have c3 := cm_tr m4 c4
  have c2 := cm_tr m3 c3
  have c1 := cm_tr m2 c2
  have c0 := cm_tr m1 c1
  refine ⟨R7, ?_, h7, od_tr (od_tr (od_tr (od_tr (od_tr (od_tr (d1) d2) d3) d4) d5) d6) d7, c0, c2 _ _ _ _ (by decide) w2_0, c2 _ _ _ _ (by decide) w2_1, c2 _ _ _ _ (by decide) w2_2, c2 _ _ _ _ (by decide) w2_3, c3 _ _ _ _ (by decide) v3, c5 _ _ _ _ (by decide) v5, c6 _ _ _ _ (by decide) v6, fun k hk => ⟨c7 _ _ _ _ (by decide) (w7 k hk).1, pp_cm c7 (w7 k hk).2⟩⟩
  rw [s4]
  simp only [s4_0, s4_1, s4_4, s4_8, s4_9, s4_12, s4_15, s4_16, s4_21, s4_24, s4_25, s4_26, s4_29, s4_30, q1, g2, e3, q4, e5, e6, g7, am_th_some, tl_n, tl_s, rf_s]
theorem i_0 {d : Nat} {I : am_I} {R : am_R} {Q : am_Q} (hz : zI I) (hq : zQ Q) (h0 : cr (97) R) (u0 : un 0 0 (fun _ => False) R) : ∃ R', am_cal (d + 1) 0 [.ref (am_mk 0 0)] I R Q = some (none, I, R', Q) ∧ cr (298) R' ∧ od (96) R R' ∧ cm R R' ∧ R' 0 0 0 = some (am_mk 34 0) ∧ (∀ k, k < 40 → R' 34 0 k = some (am_mk 9 (13 + k)) ∧ pp_R R' (13 + k)) := by
  have op : am_ord 96 = am_mk 0 0 := rfl
  have o1 : am_ord 97 = am_mk 34 0 := rfl
  obtain ⟨R1, e1, h1, f1⟩ := st_new h0 (by decide)
  obtain ⟨d1, m1⟩ := of_127 (p := 96) f1 (by omega)
  have q1 : ∀ {d : Nat} {l0 l1 : Value} {st : List Value}, am_ev d 0 7 [l0, l1] (.int (nI 40) :: st) I R Q = am_ev d 0 10 [l0, l1] (.ref (am_mk 34 0) :: st) I R1 Q := fun {d l0 l1 st} => (s0_7 h0.2.1 ⟨by omega, o1⟩ ⟨rfl, by decide⟩ rfl (n0 h0 (by omega) o1 (by decide) (fun j => hz _ _ j (by decide) (by decide) (by decide)) hq _)).trans (by rw [e1])
  have u1 := un_od u0 (of_127 (p := 96 + 1) f1 (by omega)).1 op (by decide) (by omega)
  have z1 := un_new h0 (by omega) o1 (by decide) f1
  replace h1 : cr 98 R1 := h1
  obtain ⟨R2, e2, h2, d2, m2, u2, v2, x2⟩ := st_put h1 op (by decide) (by omega) u1 0 (am_mk 34 0) (by decide)
  have y297 := un_fr z1 x2 (by decide)
  replace h2 : cr 98 R2 := h2
  obtain ⟨R3, g3, h3, d3, m3, b3, w3⟩ := lp_0 (d := d) (I := I) (Q := Q) hz hq h2 y297 (v2)
  replace d3 := od_mo (q := 96) d3 (by omega)
  replace h3 : cr 298 R3 := h3
  have c3 : cm R3 R3 := cm_rf
  have c2 := cm_tr m3 c3
  have c1 := cm_tr m2 c2
  have c0 := cm_tr m1 c1
  refine ⟨R3, ?_, h3, od_tr (od_tr (d1) d2) d3, c0, c2 _ _ _ _ (by decide) v2, fun k hk => ⟨c3 _ _ _ _ (by decide) (w3 k hk).1, pp_cm c3 (w3 k hk).2⟩⟩
  rw [s0]
  simp only [s0_0, s0_1, s0_4, s0_5, s0_10, s0_13, s0_14, q1, e2, g3, am_th_some, tl_n, tl_s, rf_s]
