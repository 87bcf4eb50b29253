/-! The start. -/
theorem rF_new {R R' : am_R} (a0 : R 10 0 0 = some (am_mk 13 0)) (a1 : R 11 0 0 = some (am_mk 10 0)) (a2 : R 6 0 0 = some (am_mk 14 0)) (a3 : R 6 0 1 = some (am_mk 15 0)) (a4 : R 6 0 2 = some (am_mk 16 0)) (a5 : R 6 0 3 = some (am_mk 17 0)) (a6 : R 6 0 4 = some (am_mk 18 0)) (a7 : R 9 0 0 = some (am_mk 19 0)) (a8 : R 9 0 1 = some (am_mk 20 0)) (a9 : R 9 0 2 = some (am_mk 21 0)) (a10 : R 9 0 3 = some (am_mk 22 0)) (a11 : R 6 0 6 = some (am_mk 9 0)) (a12 : R 7 0 1 = some (am_mk 6 0)) (a13 : R 7 0 2 = some (am_mk 23 0)) (a14 : R 7 0 3 = some (am_mk 24 0)) (a15 : R 7 0 4 = some (am_mk 25 0)) (a16 : R 7 0 5 = some (am_mk 26 0)) (a17 : R 7 0 0 = some (am_mk 10 0)) (a18 : R 11 0 1 = some (am_mk 7 0)) (a19 : R 3 0 0 = some (am_mk 27 0)) (a20 : R 3 0 2 = some (am_mk 28 0)) (a21 : R 4 0 1 = some (am_mk 3 0)) (a22 : R 4 0 0 = some (am_mk 10 0)) (a23 : R 11 0 2 = some (am_mk 4 0)) (a24 : R 11 0 3 = some (am_mk 29 0)) (a25 : R 11 0 7 = some (am_mk 30 0)) (a26 : R 6 1 0 = some (am_mk 14 1)) (a27 : R 6 1 1 = some (am_mk 15 1)) (a28 : R 6 1 2 = some (am_mk 16 1)) (a29 : R 6 1 3 = some (am_mk 17 1)) (a30 : R 6 1 4 = some (am_mk 18 1)) (a31 : R 9 1 0 = some (am_mk 19 1)) (a32 : R 9 1 1 = some (am_mk 20 1)) (a33 : R 9 1 2 = some (am_mk 21 1)) (a34 : R 9 1 3 = some (am_mk 22 1)) (a35 : R 6 1 6 = some (am_mk 9 1)) (a36 : R 2 0 0 = some (am_mk 6 1)) (a37 : R 2 0 2 = some (am_mk 31 0)) (a38 : R 2 0 3 = some (am_mk 32 0)) (a39 : R 11 0 8 = some (am_mk 2 0)) (a40 : R 9 2 0 = some (am_mk 19 2)) (a41 : R 9 2 1 = some (am_mk 20 2)) (a42 : R 9 2 2 = some (am_mk 21 2)) (a43 : R 9 2 3 = some (am_mk 22 2)) (a44 : R 1 0 1 = some (am_mk 9 2)) (a45 : R 1 0 2 = some (am_mk 33 0)) (a46 : R 1 0 0 = some (am_mk 2 0)) (a47 : (∀ k, k < 9 → R 33 0 k = some (am_mk 9 (3 + k)) ∧ pp_R R (3 + k))) (a48 : R 11 0 9 = some (am_mk 1 0)) (a49 : R 9 12 0 = some (am_mk 19 12)) (a50 : R 9 12 1 = some (am_mk 20 12)) (a51 : R 9 12 2 = some (am_mk 21 12)) (a52 : R 9 12 3 = some (am_mk 22 12)) (a53 : R 11 0 10 = some (am_mk 9 12)) (a54 : R 0 0 0 = some (am_mk 34 0)) (a55 : (∀ k, k < 40 → R 34 0 k = some (am_mk 9 (13 + k)) ∧ pp_R R (13 + k))) (a56 : R 11 0 11 = some (am_mk 0 0)) (a57 : R 5 0 0 = some (am_mk 35 0)) (a58 : R 5 0 1 = some (am_mk 36 0)) (a59 : R 5 0 2 = some (am_mk 37 0)) (a60 : R 11 0 12 = some (am_mk 5 0)) (a61 : R 9 53 0 = some (am_mk 19 53)) (a62 : R 9 53 1 = some (am_mk 20 53)) (a63 : R 9 53 2 = some (am_mk 21 53)) (a64 : R 9 53 3 = some (am_mk 22 53)) (a65 : R 11 0 13 = some (am_mk 9 53)) (a66 : R 5 1 0 = some (am_mk 35 1)) (a67 : R 5 1 1 = some (am_mk 36 1)) (a68 : R 5 1 2 = some (am_mk 37 1)) (a69 : R 11 0 14 = some (am_mk 5 1)) (a70 : R 8 0 0 = some (am_mk 38 0)) (a71 : R 8 0 1 = some (am_mk 39 0)) (a72 : R 8 0 2 = some (am_mk 40 0)) (a73 : R 8 0 3 = some (am_mk 41 0)) (a74 : R 11 0 16 = some (am_mk 8 0)) (a75 : R 8 1 0 = some (am_mk 38 1)) (a76 : R 8 1 1 = some (am_mk 39 1)) (a77 : R 8 1 2 = some (am_mk 40 1)) (a78 : R 8 1 3 = some (am_mk 41 1)) (a79 : R 11 0 17 = some (am_mk 8 1)) (a80 : (∀ k, k < 4 → R 29 0 k = some (am_mk 3 (1 + k)) ∧ lw_R R (1 + k))) (a81 : R 2 0 1 = none) (c : cm R R') (b0 : R' 12 0 1 = some (am_mk 42 0)) (b1 : R' 12 0 6 = some (am_mk 43 0)) (b2 : R' 12 0 7 = some (am_mk 44 0)) (b3 : R' 12 0 8 = some (am_mk 45 0)) (b4 : R' 12 0 9 = some (am_mk 46 0)) (b5 : R' 12 0 10 = some (am_mk 47 0)) (b6 : R' 12 0 11 = some (am_mk 48 0)) (b7 : R' 12 0 12 = some (am_mk 49 0)) (b8 : R' 12 0 15 = some (am_mk 50 0)) (b9 : R' 12 0 16 = some (am_mk 51 0)) (b10 : R' 12 0 17 = some (am_mk 52 0)) (b11 : R' 12 0 18 = some (am_mk 53 0)) (b12 : R' 12 0 19 = some (am_mk 54 0)) (b13 : R' 12 0 20 = some (am_mk 55 0)) (b14 : R' 12 0 24 = some (am_mk 56 0)) (b15 : R' 12 0 25 = some (am_mk 57 0)) (b16 : R' 12 0 26 = some (am_mk 58 0)) (b17 : R' 12 0 27 = some (am_mk 59 0)) (b18 : R' 12 0 31 = some (am_mk 60 0)) (b19 : R' 12 0 32 = some (am_mk 61 0)) (b20 : R' 12 0 35 = some (am_mk 62 0)) (b21 : R' 12 0 36 = some (am_mk 63 0)) (b22 : R' 12 0 39 = some (am_mk 64 0)) (b23 : R' 12 0 41 = some (am_mk 65 0)) (b24 : R' 12 0 42 = some (am_mk 66 0)) (b25 : R' 12 0 46 = some (am_mk 67 0)) (b26 : R' 12 0 47 = some (am_mk 68 0)) (b27 : R' 12 0 48 = some (am_mk 69 0)) (b28 : R' 12 0 50 = some (am_mk 70 0)) (b29 : R' 12 0 51 = some (am_mk 71 0)) : rF R' := by
  have hpp : ∀ p, p < 54 → pp_R R' p := fun p hp => by
    by_cases h0 : p = 0
    · subst h0; exact ⟨c _ _ _ _ (by decide) a7, c _ _ _ _ (by decide) a8, c _ _ _ _ (by decide) a9, c _ _ _ _ (by decide) a10⟩
    by_cases h1 : p = 1
    · subst h1; exact ⟨c _ _ _ _ (by decide) a31, c _ _ _ _ (by decide) a32, c _ _ _ _ (by decide) a33, c _ _ _ _ (by decide) a34⟩
    by_cases h2 : p = 2
    · subst h2; exact ⟨c _ _ _ _ (by decide) a40, c _ _ _ _ (by decide) a41, c _ _ _ _ (by decide) a42, c _ _ _ _ (by decide) a43⟩
    by_cases h3 : p < 12
    · have := (a47 (p - 3) (by omega)).2
      rw [show 3 + (p - 3) = p by omega] at this
      exact pp_cm c this
    by_cases h4 : p = 12
    · subst h4; exact ⟨c _ _ _ _ (by decide) a49, c _ _ _ _ (by decide) a50, c _ _ _ _ (by decide) a51, c _ _ _ _ (by decide) a52⟩
    by_cases h5 : p < 53
    · have := (a55 (p - 13) (by omega)).2
      rw [show 13 + (p - 13) = p by omega] at this
      exact pp_cm c this
    obtain rfl : p = 53 := by omega
    exact ⟨c _ _ _ _ (by decide) a61, c _ _ _ _ (by decide) a62, c _ _ _ _ (by decide) a63, c _ _ _ _ (by decide) a64⟩
  have h6 : ∀ v, v < 2 → R' 6 v 0 = some (am_mk 14 v) ∧ R' 6 v 1 = some (am_mk 15 v) ∧ R' 6 v 2 = some (am_mk 16 v) ∧ R' 6 v 3 = some (am_mk 17 v) ∧ R' 6 v 4 = some (am_mk 18 v) ∧ R' 6 v 6 = some (am_mk 9 v) := fun v hv => by
    rcases (show v = 0 ∨ v = 1 by omega) with rfl | rfl
    · exact ⟨c _ _ _ _ (by decide) a2, c _ _ _ _ (by decide) a3, c _ _ _ _ (by decide) a4, c _ _ _ _ (by decide) a5, c _ _ _ _ (by decide) a6, c _ _ _ _ (by decide) a11⟩
    · exact ⟨c _ _ _ _ (by decide) a26, c _ _ _ _ (by decide) a27, c _ _ _ _ (by decide) a28, c _ _ _ _ (by decide) a29, c _ _ _ _ (by decide) a30, c _ _ _ _ (by decide) a35⟩
  have h29 : ∀ i, i < 4 → R' 29 0 i = some (am_mk 3 (i + 1)) := fun i hi => by
    rw [Nat.add_comm i 1]
    exact c _ _ _ _ (by decide) (a80 i hi).1
  have hlw : ∀ v, v < 5 → lw_R R' v := fun v hv => by
    by_cases h0 : v = 0
    · subst h0; exact ⟨c _ _ _ _ (by decide) a19, c _ _ _ _ (by decide) a20⟩
    have := (a80 (v - 1) (by omega)).2
    rw [show 1 + (v - 1) = v by omega] at this
    exact lw_cm c this
  have hmm : mm_R R' := fun q hq => by
    simp only [List.mem_cons, List.not_mem_nil, or_false] at hq
    rcases hq with rfl | rfl | rfl | rfl | rfl | rfl | rfl | rfl | rfl | rfl | rfl | rfl | rfl | rfl | rfl | rfl | rfl | rfl | rfl | rfl | rfl | rfl | rfl | rfl | rfl | rfl | rfl | rfl | rfl | rfl
    · exact b0
    · exact b1
    · exact b2
    · exact b3
    · exact b4
    · exact b5
    · exact b6
    · exact b7
    · exact b8
    · exact b9
    · exact b10
    · exact b11
    · exact b12
    · exact b13
    · exact b14
    · exact b15
    · exact b16
    · exact b17
    · exact b18
    · exact b19
    · exact b20
    · exact b21
    · exact b22
    · exact b23
    · exact b24
    · exact b25
    · exact b26
    · exact b27
    · exact b28
    · exact b29
  exact ⟨⟨c _ _ _ _ (by decide) a39, c _ _ _ _ (by decide) a53, c _ _ _ _ (by decide) a60, c _ _ _ _ (by decide) a56, c _ _ _ _ (by decide) a65, c _ _ _ _ (by decide) a69, hpp, ⟨c _ _ _ _ (by decide) a57, c _ _ _ _ (by decide) a58, c _ _ _ _ (by decide) a59⟩, ⟨c _ _ _ _ (by decide) a66, c _ _ _ _ (by decide) a67, c _ _ _ _ (by decide) a68⟩, ⟨c _ _ _ _ (by decide) a54, fun i hi => c _ _ _ _ (by decide) (a55 i hi).1, hpp⟩⟩, ⟨c _ _ _ _ (by decide) a46, c _ _ _ _ (by decide) a44, c _ _ _ _ (by decide) a45, fun k hk => c _ _ _ _ (by decide) (a47 k hk).1⟩, ⟨c _ _ _ _ (by decide) a37, c _ _ _ _ (by decide) a38⟩, h6, ⟨c _ _ _ _ (by decide) a48, c _ _ _ _ (by decide) a1, c _ _ _ _ (by decide) a18, c _ _ _ _ (by decide) a23, c _ _ _ _ (by decide) a24, c _ _ _ _ (by decide) a25, c _ _ _ _ (by decide) a74, c _ _ _ _ (by decide) a79⟩, h29, ⟨c _ _ _ _ (by decide) a70, c _ _ _ _ (by decide) a71, c _ _ _ _ (by decide) a72, c _ _ _ _ (by decide) a73⟩, ⟨c _ _ _ _ (by decide) a75, c _ _ _ _ (by decide) a76, c _ _ _ _ (by decide) a77, c _ _ _ _ (by decide) a78⟩, ⟨c _ _ _ _ (by decide) a0, ⟨c _ _ _ _ (by decide) a19, c _ _ _ _ (by decide) a20⟩, c _ _ _ _ (by decide) a22, c _ _ _ _ (by decide) a21⟩, hlw, ⟨c _ _ _ _ (by decide) a17, c _ _ _ _ (by decide) a13, c _ _ _ _ (by decide) a14, c _ _ _ _ (by decide) a15, c _ _ _ _ (by decide) a16⟩, hmm⟩
theorem zQ0 : zQ am_Q0 := fun _ _ _ => rfl
theorem zI0 {L : Nat} {xs : Nat → Int32} {a b j : Nat} (ha : a < 100) : am_I0 L xs a b j = 0 := by
  unfold am_I0
  rw [if_neg (by omega), if_neg (by omega), if_neg (by omega), if_neg (by omega)]
theorem cr0 : cr 0 am_R0 := ⟨Nat.zero_le _, rfl, fun m _ hm j => by
  unfold am_R0
  rw [if_neg (by have := ord_127 m hm; omega)], rfl⟩
/-- both are made -/
theorem law_made {L : Nat} {xs : Nat → Int32} (hL : L ≤ 3072) (d : Nat) : ∃ (I : am_I) (R : am_R), am_ev (d + 91) 280 0 (am_lo am_lst [.ref (am_mk 120 0)]) [] (am_I0 L xs) am_R0 am_Q0 = am_ev (d + 91) 280 23 [.ref (am_mk 120 0), .ref (am_mk 11 0), .ref (am_mk 12 0), .ref (am_mk 72 0), .int (nI (6 * 0)), am_J, am_J] [] I R am_Q0 ∧ rF R ∧ R 2 0 0 = some (am_mk 6 1) ∧ R 7 0 1 = some (am_mk 6 0) ∧ R 2 0 1 = none ∧ R 127 0 0 = some 365 ∧ I 11 0 5 = -nI 1 ∧ I 12 0 33 = -nI 1 ∧ (∀ a b j, ¬ (a = 11 ∧ b = 0 ∧ j = 5) → ¬ (a = 12 ∧ b = 0 ∧ j = 33) → I a b j = am_I0 L xs a b j) ∧ R 126 0 0 = none := by
  have o0 : am_ord 0 = am_mk 11 0 := rfl
  have o1 : am_ord 333 = am_mk 12 0 := rfl
  have o2 : am_ord 364 = am_mk 72 0 := rfl
  have hz : zI (am_I0 L xs) := fun a b j ha _ _ => zI0 ha
  obtain ⟨R1, e1, h1, f1⟩ := st_new cr0 (by decide)
  have q1 : ∀ {d : Nat} {l0 l1 l2 l3 l4 l5 l6 : Value} {st : List Value}, am_ev d 280 0 [l0, l1, l2, l3, l4, l5, l6] st (am_I0 L xs) am_R0 am_Q0 = am_ev d 280 3 [l0, l1, l2, l3, l4, l5, l6] (.ref (am_mk 11 0) :: st) (am_I0 L xs) R1 am_Q0 := fun {d l0 l1 l2 l3 l4 l5 l6 st} => (s280_0 cr0.2.1 ⟨by decide, o0⟩ (n0 cr0 (by decide) o0 (by decide) (fun j => zI0 (by decide)) zQ0 _)).trans (by rw [e1])
  have u1 := un_new cr0 (by decide) o0 (by decide) f1
  replace h1 : cr 1 R1 := h1
  obtain ⟨J1, R2, g2, h2, d2, m2, a0, a1, a2, a3, a4, a5, a6, a7, a8, a9, a10, a11, a12, a13, a14, a15, a16, a17, a18, a19, a20, a21, a22, a23, a24, a25, a26, a27, a28, a29, a30, a31, a32, a33, a34, a35, a36, a37, a38, a39, a40, a41, a42, a43, a44, a45, a46, a47, a48, a49, a50, a51, a52, a53, a54, a55, a56, a57, a58, a59, a60, a61, a62, a63, a64, a65, a66, a67, a68, a69, a70, a71, a72, a73, a74, a75, a76, a77, a78, a79, a80, a81, v5, x5⟩ := i_11 (d := d + 87) (I := am_I0 L xs) (Q := am_Q0) hz zQ0 h1 u1
  replace g2 : am_cal (d + 90) 96 [.ref (am_mk 11 0)] (am_I0 L xs) R1 am_Q0 = some (none, J1, R2, am_Q0) := g2
  have hz1 : zI J1 := fun a b j ha h11 _ => (x5 _ _ _ (fun w => h11 w.1)).trans (zI0 ha)
  obtain ⟨R3, e3, h3, f3⟩ := st_new h2 (by decide)
  have q3 : ∀ {d : Nat} {l0 l1 l2 l3 l4 l5 l6 : Value} {st : List Value}, am_ev d 280 8 [l0, l1, l2, l3, l4, l5, l6] st J1 R2 am_Q0 = am_ev d 280 11 [l0, l1, l2, l3, l4, l5, l6] (.ref (am_mk 12 0) :: st) J1 R3 am_Q0 := fun {d l0 l1 l2 l3 l4 l5 l6 st} => (s280_8 h2.2.1 ⟨by decide, o1⟩ (n0 h2 (by decide) o1 (by decide) (fun j => (x5 _ _ _ (by omega)).trans (zI0 (by decide))) zQ0 _)).trans (by rw [e3])
  have u3 := un_new h2 (by decide) o1 (by decide) f3
  replace h3 : cr 334 R3 := h3
  obtain ⟨J2, R4, g4, h4, d4, m4, b0, b1, b2, b3, b4, b5, b6, b7, b8, b9, b10, b11, b12, b13, b14, b15, b16, b17, b18, b19, b20, b21, b22, b23, b24, b25, b26, b27, b28, b29, v33, x33⟩ := i_12 (d := d + 90) (I := J1) (Q := am_Q0) hz1 zQ0 h3 u3
  obtain ⟨R5, e5, h5, f5⟩ := st_new h4 (by decide)
  have q5 : ∀ {d : Nat} {l0 l1 l2 l3 l4 l5 l6 : Value} {st : List Value}, am_ev d 280 17 [l0, l1, l2, l3, l4, l5, l6] (.int (nI 1) :: st) J2 R4 am_Q0 = am_ev d 280 19 [l0, l1, l2, l3, l4, l5, l6] (.ref (am_mk 72 0) :: st) J2 R5 am_Q0 := fun {d l0 l1 l2 l3 l4 l5 l6 st} => (s280_17 h4.2.1 ⟨by decide, o2⟩ ⟨rfl, by decide⟩ rfl (n0 h4 (by decide) o2 (by decide) (fun j => (x33 _ _ _ (by omega)).trans ((x5 _ _ _ (by omega)).trans (zI0 (by decide)))) zQ0 _)).trans (by rw [e5])
  have c5 : cm R4 R5 := (of_127 (p := 0) f5 (by decide)).2
  have c3 : cm R2 R4 := cm_tr (of_127 (p := 0) f3 (by decide)).2 m4
  have c := cm_tr c3 c5
  have nn : R5 2 0 1 = none := by
    have z : un 2 0 (fun j => ¬ j = 1) R2 := fun j hj => by rw [Classical.not_not.mp hj]; exact a81
    have o25 : am_ord 25 = am_mk 2 0 := rfl
    have z3 := un_od z (of_127 (p := 333) f3 (by decide)).1 o25 (by decide) (by decide)
    have z4 := un_od z3 d4 o25 (by decide) (by decide)
    exact un_od z4 (of_127 (p := 333) f5 (by decide)).1 o25 (by decide) (by decide) 1 (by decide)
  refine ⟨J2, R5, ?_, rF_new a0 a1 a2 a3 a4 a5 a6 a7 a8 a9 a10 a11 a12 a13 a14 a15 a16 a17 a18 a19 a20 a21 a22 a23 a24 a25 a26 a27 a28 a29 a30 a31 a32 a33 a34 a35 a36 a37 a38 a39 a40 a41 a42 a43 a44 a45 a46 a47 a48 a49 a50 a51 a52 a53 a54 a55 a56 a57 a58 a59 a60 a61 a62 a63 a64 a65 a66 a67 a68 a69 a70 a71 a72 a73 a74 a75 a76 a77 a78 a79 a80 a81 c (c5 _ _ _ _ (by decide) b0) (c5 _ _ _ _ (by decide) b1) (c5 _ _ _ _ (by decide) b2) (c5 _ _ _ _ (by decide) b3) (c5 _ _ _ _ (by decide) b4) (c5 _ _ _ _ (by decide) b5) (c5 _ _ _ _ (by decide) b6) (c5 _ _ _ _ (by decide) b7) (c5 _ _ _ _ (by decide) b8) (c5 _ _ _ _ (by decide) b9) (c5 _ _ _ _ (by decide) b10) (c5 _ _ _ _ (by decide) b11) (c5 _ _ _ _ (by decide) b12) (c5 _ _ _ _ (by decide) b13) (c5 _ _ _ _ (by decide) b14) (c5 _ _ _ _ (by decide) b15) (c5 _ _ _ _ (by decide) b16) (c5 _ _ _ _ (by decide) b17) (c5 _ _ _ _ (by decide) b18) (c5 _ _ _ _ (by decide) b19) (c5 _ _ _ _ (by decide) b20) (c5 _ _ _ _ (by decide) b21) (c5 _ _ _ _ (by decide) b22) (c5 _ _ _ _ (by decide) b23) (c5 _ _ _ _ (by decide) b24) (c5 _ _ _ _ (by decide) b25) (c5 _ _ _ _ (by decide) b26) (c5 _ _ _ _ (by decide) b27) (c5 _ _ _ _ (by decide) b28) (c5 _ _ _ _ (by decide) b29), c _ _ _ _ (by decide) a36, c _ _ _ _ (by decide) a12, nn, h5.2.1, (x33 _ _ _ (by decide)).trans v5, v33, fun a b j n1 n2 => (x33 _ _ _ n2).trans (x5 _ _ _ n1), ?_⟩
  · show am_ev (d + 91) 280 0 [.ref (am_mk 120 0), am_J, am_J, am_J, am_J, am_J, am_J] [] (am_I0 L xs) am_R0 am_Q0 = _
    simp only [s280_3, s280_4, s280_7, s280_11, s280_12, s280_15, s280_16, s280_19, s280_20, s280_21, q1, g2, q3, g4, q5, am_th_some, tl_n, tl_s, Nat.mul_zero]
  · exact h5.2.2.2
