/-! The constructors: the class and the model. -/
theorem i_11 {d : Nat} {I : am_I} {R : am_R} {Q : am_Q} (hz : zI I) (hq : zQ Q) (h0 : cr (1) R) (u0 : un 11 0 (fun _ => False) R) : ∃ J R', am_cal (d + 3) 96 [.ref (am_mk 11 0)] I R Q = some (none, J, R', Q) ∧ cr (333) R' ∧ od (0) R R' ∧ cm R R' ∧ R' 10 0 0 = some (am_mk 13 0) ∧ R' 11 0 0 = some (am_mk 10 0) ∧ R' 6 0 0 = some (am_mk 14 0) ∧ R' 6 0 1 = some (am_mk 15 0) ∧ R' 6 0 2 = some (am_mk 16 0) ∧ R' 6 0 3 = some (am_mk 17 0) ∧ R' 6 0 4 = some (am_mk 18 0) ∧ R' 9 0 0 = some (am_mk 19 0) ∧ R' 9 0 1 = some (am_mk 20 0) ∧ R' 9 0 2 = some (am_mk 21 0) ∧ R' 9 0 3 = some (am_mk 22 0) ∧ R' 6 0 6 = some (am_mk 9 0) ∧ R' 7 0 1 = some (am_mk 6 0) ∧ R' 7 0 2 = some (am_mk 23 0) ∧ R' 7 0 3 = some (am_mk 24 0) ∧ R' 7 0 4 = some (am_mk 25 0) ∧ R' 7 0 5 = some (am_mk 26 0) ∧ R' 7 0 0 = some (am_mk 10 0) ∧ R' 11 0 1 = some (am_mk 7 0) ∧ R' 3 0 0 = some (am_mk 27 0) ∧ R' 3 0 2 = some (am_mk 28 0) ∧ R' 4 0 1 = some (am_mk 3 0) ∧ R' 4 0 0 = some (am_mk 10 0) ∧ R' 11 0 2 = some (am_mk 4 0) ∧ R' 11 0 3 = some (am_mk 29 0) ∧ R' 11 0 7 = some (am_mk 30 0) ∧ R' 6 1 0 = some (am_mk 14 1) ∧ R' 6 1 1 = some (am_mk 15 1) ∧ R' 6 1 2 = some (am_mk 16 1) ∧ R' 6 1 3 = some (am_mk 17 1) ∧ R' 6 1 4 = some (am_mk 18 1) ∧ R' 9 1 0 = some (am_mk 19 1) ∧ R' 9 1 1 = some (am_mk 20 1) ∧ R' 9 1 2 = some (am_mk 21 1) ∧ R' 9 1 3 = some (am_mk 22 1) ∧ R' 6 1 6 = some (am_mk 9 1) ∧ R' 2 0 0 = some (am_mk 6 1) ∧ R' 2 0 2 = some (am_mk 31 0) ∧ R' 2 0 3 = some (am_mk 32 0) ∧ R' 11 0 8 = some (am_mk 2 0) ∧ R' 9 2 0 = some (am_mk 19 2) ∧ R' 9 2 1 = some (am_mk 20 2) ∧ R' 9 2 2 = some (am_mk 21 2) ∧ R' 9 2 3 = some (am_mk 22 2) ∧ R' 1 0 1 = some (am_mk 9 2) ∧ R' 1 0 2 = some (am_mk 33 0) ∧ R' 1 0 0 = some (am_mk 2 0) ∧ (∀ k, k < 9 → R' 33 0 k = some (am_mk 9 (3 + k)) ∧ pp_R R' (3 + k)) ∧ R' 11 0 9 = some (am_mk 1 0) ∧ R' 9 12 0 = some (am_mk 19 12) ∧ R' 9 12 1 = some (am_mk 20 12) ∧ R' 9 12 2 = some (am_mk 21 12) ∧ R' 9 12 3 = some (am_mk 22 12) ∧ R' 11 0 10 = some (am_mk 9 12) ∧ R' 0 0 0 = some (am_mk 34 0) ∧ (∀ k, k < 40 → R' 34 0 k = some (am_mk 9 (13 + k)) ∧ pp_R R' (13 + k)) ∧ R' 11 0 11 = some (am_mk 0 0) ∧ R' 5 0 0 = some (am_mk 35 0) ∧ R' 5 0 1 = some (am_mk 36 0) ∧ R' 5 0 2 = some (am_mk 37 0) ∧ R' 11 0 12 = some (am_mk 5 0) ∧ R' 9 53 0 = some (am_mk 19 53) ∧ R' 9 53 1 = some (am_mk 20 53) ∧ R' 9 53 2 = some (am_mk 21 53) ∧ R' 9 53 3 = some (am_mk 22 53) ∧ R' 11 0 13 = some (am_mk 9 53) ∧ R' 5 1 0 = some (am_mk 35 1) ∧ R' 5 1 1 = some (am_mk 36 1) ∧ R' 5 1 2 = some (am_mk 37 1) ∧ R' 11 0 14 = some (am_mk 5 1) ∧ R' 8 0 0 = some (am_mk 38 0) ∧ R' 8 0 1 = some (am_mk 39 0) ∧ R' 8 0 2 = some (am_mk 40 0) ∧ R' 8 0 3 = some (am_mk 41 0) ∧ R' 11 0 16 = some (am_mk 8 0) ∧ R' 8 1 0 = some (am_mk 38 1) ∧ R' 8 1 1 = some (am_mk 39 1) ∧ R' 8 1 2 = some (am_mk 40 1) ∧ R' 8 1 3 = some (am_mk 41 1) ∧ R' 11 0 17 = some (am_mk 8 1) ∧ (∀ k, k < 4 → R' 29 0 k = some (am_mk 3 (1 + k)) ∧ lw_R R' (1 + k)) ∧ R' 2 0 1 = none ∧ J 11 0 5 = -nI 1 ∧ am_fr (fun a b j => a = 11 ∧ b = 0 ∧ j = 5) I J := by
  have op : am_ord 0 = am_mk 11 0 := rfl
  have o1 : am_ord 1 = am_mk 10 0 := rfl
  have o3 : am_ord 3 = am_mk 7 0 := rfl
  have o19 : am_ord 19 = am_mk 4 0 := rfl
  have o23 : am_ord 23 = am_mk 29 0 := rfl
  have o24 : am_ord 24 = am_mk 30 0 := rfl
  have o25 : am_ord 25 = am_mk 2 0 := rfl
  have o39 : am_ord 39 = am_mk 1 0 := rfl
  have o91 : am_ord 91 = am_mk 9 12 := rfl
  have o92 : am_ord 92 = am_mk 19 12 := rfl
  have o93 : am_ord 93 = am_mk 20 12 := rfl
  have o94 : am_ord 94 = am_mk 21 12 := rfl
  have o95 : am_ord 95 = am_mk 22 12 := rfl
  have o96 : am_ord 96 = am_mk 0 0 := rfl
  have o298 : am_ord 298 = am_mk 5 0 := rfl
  have o299 : am_ord 299 = am_mk 35 0 := rfl
  have o300 : am_ord 300 = am_mk 36 0 := rfl
  have o301 : am_ord 301 = am_mk 37 0 := rfl
  have o302 : am_ord 302 = am_mk 9 53 := rfl
  have o303 : am_ord 303 = am_mk 19 53 := rfl
  have o304 : am_ord 304 = am_mk 20 53 := rfl
  have o305 : am_ord 305 = am_mk 21 53 := rfl
  have o306 : am_ord 306 = am_mk 22 53 := rfl
  have o307 : am_ord 307 = am_mk 5 1 := rfl
  have o308 : am_ord 308 = am_mk 35 1 := rfl
  have o309 : am_ord 309 = am_mk 36 1 := rfl
  have o310 : am_ord 310 = am_mk 37 1 := rfl
  have o311 : am_ord 311 = am_mk 8 0 := rfl
  have o312 : am_ord 312 = am_mk 38 0 := rfl
  have o313 : am_ord 313 = am_mk 39 0 := rfl
  have o314 : am_ord 314 = am_mk 40 0 := rfl
  have o315 : am_ord 315 = am_mk 41 0 := rfl
  have o316 : am_ord 316 = am_mk 8 1 := rfl
  have o317 : am_ord 317 = am_mk 38 1 := rfl
  have o318 : am_ord 318 = am_mk 39 1 := rfl
  have o319 : am_ord 319 = am_mk 40 1 := rfl
  have o320 : am_ord 320 = am_mk 41 1 := rfl
  obtain ⟨R1, e1, h1, f1⟩ := st_new h0 (by decide)
  obtain ⟨d1, m1⟩ := of_127 (p := 0) f1 (by omega)
  have q1 : ∀ {d : Nat} {l0 l1 : Value} {st : List Value}, am_ev d 96 5 [l0, l1] st I R Q = am_ev d 96 8 [l0, l1] (.ref (am_mk 10 0) :: st) I R1 Q := fun {d l0 l1 st} => (s96_5 h0.2.1 ⟨by omega, o1⟩ (n0 h0 (by omega) o1 (by decide) (fun j => hz _ _ j (by decide) (by decide) (by decide)) hq _)).trans (by rw [e1])
  have w1 := un_new h0 (by omega) o1 (by decide) f1
  have u1 := un_od u0 (of_127 (p := 0 + 1) f1 (by omega)).1 op (by decide) (by omega)
  replace h1 : cr 2 R1 := h1
  obtain ⟨R2, g2, h2, d2, m2, w2_0⟩ := i_10 (d := d + 2) (I := I) (Q := Q) hz hq h1 w1
  replace d2 := od_mo (q := 0 + 1) d2 (by omega)
  have u2 := un_od u1 d2 op (by decide) (by omega)
  replace d2 := od_mo (q := 0) d2 (by omega)
  replace h2 : cr 3 R2 := h2
  obtain ⟨R3, e3, h3, d3, m3, u3, v3, x3⟩ := st_put h2 op (by decide) (by omega) u2 0 (am_mk 10 0) (by decide)
  replace h3 : cr 3 R3 := h3
  obtain ⟨R4, e4, h4, f4⟩ := st_new h3 (by decide)
  obtain ⟨d4, m4⟩ := of_127 (p := 0) f4 (by omega)
  have q4 : ∀ {d : Nat} {l0 l1 : Value} {st : List Value}, am_ev d 96 16 [l0, l1] st I R3 Q = am_ev d 96 19 [l0, l1] (.ref (am_mk 7 0) :: st) I R4 Q := fun {d l0 l1 st} => (s96_16 h3.2.1 ⟨by omega, o3⟩ (n0 h3 (by omega) o3 (by decide) (fun j => hz _ _ j (by decide) (by decide) (by decide)) hq _)).trans (by rw [e4])
  have w4 := un_new h3 (by omega) o3 (by decide) f4
  have u4 := un_od u3 (of_127 (p := 0 + 1) f4 (by omega)).1 op (by decide) (by omega)
  replace h4 : cr 4 R4 := h4
  have r4 : R4 11 0 0 = some (am_mk 10 0) := m4 _ _ _ _ (by decide) (v3)
  obtain ⟨R5, g5, h5, d5, m5, w5_0, w5_1, w5_2, w5_3, w5_4, w5_5, w5_6, w5_7, w5_8, w5_9, w5_10, w5_11, w5_12, w5_13, w5_14, w5_15⟩ := i_7 (d := d) (I := I) (Q := Q) (T := am_mk 10 0) hz hq h4 w4
  replace d5 := od_mo (q := 0 + 1) d5 (by omega)
  have u5 := un_od u4 d5 op (by decide) (by omega)
  replace d5 := od_mo (q := 0) d5 (by omega)
  replace h5 : cr 19 R5 := h5
  obtain ⟨R6, e6, h6, d6, m6, u6, v6, x6⟩ := st_put h5 op (by decide) (by omega) u5 1 (am_mk 7 0) (by decide)
  replace h6 : cr 19 R6 := h6
  obtain ⟨R7, e7, h7, f7⟩ := st_new h6 (by decide)
  obtain ⟨d7, m7⟩ := of_127 (p := 0) f7 (by omega)
  have q7 : ∀ {d : Nat} {l0 l1 : Value} {st : List Value}, am_ev d 96 31 [l0, l1] st I R6 Q = am_ev d 96 34 [l0, l1] (.ref (am_mk 4 0) :: st) I R7 Q := fun {d l0 l1 st} => (s96_31 h6.2.1 ⟨by omega, o19⟩ (n0 h6 (by omega) o19 (by decide) (fun j => hz _ _ j (by decide) (by decide) (by decide)) hq _)).trans (by rw [e7])
  have w7 := un_new h6 (by omega) o19 (by decide) f7
  have u7 := un_od u6 (of_127 (p := 0 + 1) f7 (by omega)).1 op (by decide) (by omega)
  replace h7 : cr 20 R7 := h7
  have r7 : R7 11 0 0 = some (am_mk 10 0) := m7 _ _ _ _ (by decide) (m6 _ _ _ _ (by decide) (m5 _ _ _ _ (by decide) (m4 _ _ _ _ (by decide) (v3))))
  obtain ⟨R8, g8, h8, d8, m8, w8_0, w8_1, w8_2, w8_3⟩ := i_4 (d := d + 1) (I := I) (Q := Q) (T := am_mk 10 0) hz hq h7 w7
  replace d8 := od_mo (q := 0 + 1) d8 (by omega)
  have u8 := un_od u7 d8 op (by decide) (by omega)
  replace d8 := od_mo (q := 0) d8 (by omega)
  replace h8 : cr 23 R8 := h8
  obtain ⟨R9, e9, h9, d9, m9, u9, v9, x9⟩ := st_put h8 op (by decide) (by omega) u8 2 (am_mk 4 0) (by decide)
  replace h9 : cr 23 R9 := h9
  obtain ⟨R10, e10, h10, f10⟩ := st_new h9 (by decide)
  obtain ⟨d10, m10⟩ := of_127 (p := 0) f10 (by omega)
  have q10 : ∀ {d : Nat} {l0 l1 : Value} {st : List Value}, am_ev d 96 47 [l0, l1] (.int (nI 4) :: st) I R9 Q = am_ev d 96 50 [l0, l1] (.ref (am_mk 29 0) :: st) I R10 Q := fun {d l0 l1 st} => (s96_47 h9.2.1 ⟨by omega, o23⟩ ⟨rfl, by decide⟩ rfl (n0 h9 (by omega) o23 (by decide) (fun j => hz _ _ j (by decide) (by decide) (by decide)) hq _)).trans (by rw [e10])
  have u10 := un_od u9 (of_127 (p := 0 + 1) f10 (by omega)).1 op (by decide) (by omega)
  have z10 := un_new h9 (by omega) o23 (by decide) f10
  replace h10 : cr 24 R10 := h10
  obtain ⟨R11, e11, h11, d11, m11, u11, v11, x11⟩ := st_put h10 op (by decide) (by omega) u10 3 (am_mk 29 0) (by decide)
  have y1123 := un_fr z10 x11 (by decide)
  replace h11 : cr 24 R11 := h11
  obtain ⟨I1, eI, vI, xI⟩ := wr I 11 0 5 (-nI 1)
  have hz1 : zI I1 := fun a b j h1 h2 h3 => (xI _ _ _ (by omega)).trans (hz a b j h1 h2 h3)
  obtain ⟨R12, e12, h12, f12⟩ := st_new h11 (by decide)
  obtain ⟨d12, m12⟩ := of_127 (p := 0) f12 (by omega)
  have q12 : ∀ {d : Nat} {l0 l1 : Value} {st : List Value}, am_ev d 96 60 [l0, l1] (.int (nI 4) :: st) I1 R11 Q = am_ev d 96 62 [l0, l1] (.ref (am_mk 30 0) :: st) I1 R12 Q := fun {d l0 l1 st} => (s96_60 h11.2.1 ⟨by omega, o24⟩ ⟨rfl, by decide⟩ rfl (n0 h11 (by omega) o24 (by decide) (fun j => hz1 _ _ j (by decide) (by decide) (by decide)) hq _)).trans (by rw [e12])
  have u12 := un_od u11 (of_127 (p := 0 + 1) f12 (by omega)).1 op (by decide) (by omega)
  have y1223 := un_od y1123 (of_127 (p := 23 + 1) f12 (by omega)).1 o23 (by decide) (by omega)
  replace h12 : cr 25 R12 := h12
  obtain ⟨R13, e13, h13, d13, m13, u13, v13, x13⟩ := st_put h12 op (by decide) (by omega) u12 7 (am_mk 30 0) (by decide)
  have y1323 := un_fr y1223 x13 (by decide)
  replace h13 : cr 25 R13 := h13
  obtain ⟨R14, e14, h14, f14⟩ := st_new h13 (by decide)
  obtain ⟨d14, m14⟩ := of_127 (p := 0) f14 (by omega)
  have q14 : ∀ {d : Nat} {l0 l1 : Value} {st : List Value}, am_ev d 96 66 [l0, l1] st I1 R13 Q = am_ev d 96 69 [l0, l1] (.ref (am_mk 2 0) :: st) I1 R14 Q := fun {d l0 l1 st} => (s96_66 h13.2.1 ⟨by omega, o25⟩ (n0 h13 (by omega) o25 (by decide) (fun j => hz1 _ _ j (by decide) (by decide) (by decide)) hq _)).trans (by rw [e14])
  have w14 := un_new h13 (by omega) o25 (by decide) f14
  have u14 := un_od u13 (of_127 (p := 0 + 1) f14 (by omega)).1 op (by decide) (by omega)
  have y1423 := un_od y1323 (of_127 (p := 23 + 1) f14 (by omega)).1 o23 (by decide) (by omega)
  replace h14 : cr 26 R14 := h14
  obtain ⟨R15, g15, h15, d15, m15, w15_0, w15_1, w15_2, w15_3, w15_4, w15_5, w15_6, w15_7, w15_8, w15_9, w15_10, w15_11, w15_12, w15_13⟩ := i_2 (d := d) (I := I1) (Q := Q) hz1 hq h14 w14
  have y1523 := un_od y1423 d15 o23 (by decide) (by omega)
  replace d15 := od_mo (q := 0 + 1) d15 (by omega)
  have u15 := un_od u14 d15 op (by decide) (by omega)
  replace d15 := od_mo (q := 0) d15 (by omega)
  replace h15 : cr 39 R15 := h15
  have zz : un 2 0 (fun j => ¬ j = 1) R15 := fun j hj => by rw [Classical.not_not.mp hj]; exact w15_13
  obtain ⟨R16, e16, h16, d16, m16, u16, v16, x16⟩ := st_put h15 op (by decide) (by omega) u15 8 (am_mk 2 0) (by decide)
  have y1623 := un_fr y1523 x16 (by decide)
  have y1625 := un_fr zz x16 (by decide)
  replace h16 : cr 39 R16 := h16
  obtain ⟨R17, e17, h17, f17⟩ := st_new h16 (by decide)
  obtain ⟨d17, m17⟩ := of_127 (p := 0) f17 (by omega)
  have q17 : ∀ {d : Nat} {l0 l1 : Value} {st : List Value}, am_ev d 96 77 [l0, l1] st I1 R16 Q = am_ev d 96 80 [l0, l1] (.ref (am_mk 1 0) :: st) I1 R17 Q := fun {d l0 l1 st} => (s96_77 h16.2.1 ⟨by omega, o39⟩ (n0 h16 (by omega) o39 (by decide) (fun j => hz1 _ _ j (by decide) (by decide) (by decide)) hq _)).trans (by rw [e17])
  have w17 := un_new h16 (by omega) o39 (by decide) f17
  have u17 := un_od u16 (of_127 (p := 0 + 1) f17 (by omega)).1 op (by decide) (by omega)
  have y1723 := un_od y1623 (of_127 (p := 23 + 1) f17 (by omega)).1 o23 (by decide) (by omega)
  have y1725 := un_od y1625 (of_127 (p := 25 + 1) f17 (by omega)).1 o25 (by decide) (by omega)
  replace h17 : cr 40 R17 := h17
  have r17 : R17 11 0 8 = some (am_mk 2 0) := m17 _ _ _ _ (by decide) (v16)
  obtain ⟨R18, g18, h18, d18, m18, w18_0, w18_1, w18_2, w18_3, w18_4, w18_5, w18_6, w18_7⟩ := i_1 (d := d + 1) (I := I1) (Q := Q) (T := am_mk 2 0) hz1 hq h17 w17
  have y1823 := un_od y1723 d18 o23 (by decide) (by omega)
  have y1825 := un_od y1725 d18 o25 (by decide) (by omega)
  replace d18 := od_mo (q := 0 + 1) d18 (by omega)
  have u18 := un_od u17 d18 op (by decide) (by omega)
  replace d18 := od_mo (q := 0) d18 (by omega)
  replace h18 : cr 91 R18 := h18
  obtain ⟨R19, e19, h19, d19, m19, u19, v19, x19⟩ := st_put h18 op (by decide) (by omega) u18 9 (am_mk 1 0) (by decide)
  have y1923 := un_fr y1823 x19 (by decide)
  have y1925 := un_fr y1825 x19 (by decide)
  replace h19 : cr 91 R19 := h19
  obtain ⟨R20, e20, h20, f20⟩ := st_new h19 (by decide)
  obtain ⟨d20, m20⟩ := of_127 (p := 0) f20 (by omega)
  have q20 : ∀ {d : Nat} {l0 l1 : Value} {st : List Value}, am_ev d 96 92 [l0, l1] st I1 R19 Q = am_ev d 96 95 [l0, l1] (.ref (am_mk 9 12) :: st) I1 R20 Q := fun {d l0 l1 st} => (s96_92 h19.2.1 ⟨by omega, o91⟩ (n0 h19 (by omega) o91 (by decide) (fun j => hz1 _ _ j (by decide) (by decide) (by decide)) hq _)).trans (by rw [e20])
  have w20 := un_new h19 (by omega) o91 (by decide) f20
  have u20 := un_od u19 (of_127 (p := 0 + 1) f20 (by omega)).1 op (by decide) (by omega)
  have y2023 := un_od y1923 (of_127 (p := 23 + 1) f20 (by omega)).1 o23 (by decide) (by omega)
  have y2025 := un_od y1925 (of_127 (p := 25 + 1) f20 (by omega)).1 o25 (by decide) (by omega)
  replace h20 : cr 92 R20 := h20
  obtain ⟨R21, g21, h21, d21, m21, w21_0, w21_1, w21_2, w21_3⟩ := i_9 (d := d + 2) (p := 91) (k := 12) (I := I1) (Q := Q) hz1 hq o91 o92 o93 o94 o95 (by omega) h20 w20
  have y2123 := un_od y2023 d21 o23 (by decide) (by omega)
  have y2125 := un_od y2025 d21 o25 (by decide) (by omega)
  replace d21 := od_mo (q := 0 + 1) d21 (by omega)
  have u21 := un_od u20 d21 op (by decide) (by omega)
  replace d21 := od_mo (q := 0) d21 (by omega)
  replace h21 : cr 96 R21 := h21
  obtain ⟨R22, e22, h22, d22, m22, u22, v22, x22⟩ := st_put h21 op (by decide) (by omega) u21 10 (am_mk 9 12) (by decide)
  have y2223 := un_fr y2123 x22 (by decide)
  have y2225 := un_fr y2125 x22 (by decide)
  replace h22 : cr 96 R22 := h22
  obtain ⟨R23, e23, h23, f23⟩ := st_new h22 (by decide)
  obtain ⟨d23, m23⟩ := of_127 (p := 0) f23 (by omega)
  have q23 : ∀ {d : Nat} {l0 l1 : Value} {st : List Value}, am_ev d 96 103 [l0, l1] st I1 R22 Q = am_ev d 96 106 [l0, l1] (.ref (am_mk 0 0) :: st) I1 R23 Q := fun {d l0 l1 st} => (s96_103 h22.2.1 ⟨by omega, o96⟩ (n0 h22 (by omega) o96 (by decide) (fun j => hz1 _ _ j (by decide) (by decide) (by decide)) hq _)).trans (by rw [e23])
  have w23 := un_new h22 (by omega) o96 (by decide) f23
  have u23 := un_od u22 (of_127 (p := 0 + 1) f23 (by omega)).1 op (by decide) (by omega)
  have y2323 := un_od y2223 (of_127 (p := 23 + 1) f23 (by omega)).1 o23 (by decide) (by omega)
  have y2325 := un_od y2225 (of_127 (p := 25 + 1) f23 (by omega)).1 o25 (by decide) (by omega)
  replace h23 : cr 97 R23 := h23
  obtain ⟨R24, g24, h24, d24, m24, w24_0, w24_1⟩ := i_0 (d := d + 1) (I := I1) (Q := Q) hz1 hq h23 w23
  have y2423 := un_od y2323 d24 o23 (by decide) (by omega)
  have y2425 := un_od y2325 d24 o25 (by decide) (by omega)
  replace d24 := od_mo (q := 0 + 1) d24 (by omega)
  have u24 := un_od u23 d24 op (by decide) (by omega)
  replace d24 := od_mo (q := 0) d24 (by omega)
  replace h24 : cr 298 R24 := h24
  obtain ⟨R25, e25, h25, d25, m25, u25, v25, x25⟩ := st_put h24 op (by decide) (by omega) u24 11 (am_mk 0 0) (by decide)
  have y2523 := un_fr y2423 x25 (by decide)
  have y2525 := un_fr y2425 x25 (by decide)
  replace h25 : cr 298 R25 := h25
  obtain ⟨R26, e26, h26, f26⟩ := st_new h25 (by decide)
  obtain ⟨d26, m26⟩ := of_127 (p := 0) f26 (by omega)
  have q26 : ∀ {d : Nat} {l0 l1 : Value} {st : List Value}, am_ev d 96 114 [l0, l1] st I1 R25 Q = am_ev d 96 117 [l0, l1] (.ref (am_mk 5 0) :: st) I1 R26 Q := fun {d l0 l1 st} => (s96_114 h25.2.1 ⟨by omega, o298⟩ (n0 h25 (by omega) o298 (by decide) (fun j => hz1 _ _ j (by decide) (by decide) (by decide)) hq _)).trans (by rw [e26])
  have w26 := un_new h25 (by omega) o298 (by decide) f26
  have u26 := un_od u25 (of_127 (p := 0 + 1) f26 (by omega)).1 op (by decide) (by omega)
  have y2623 := un_od y2523 (of_127 (p := 23 + 1) f26 (by omega)).1 o23 (by decide) (by omega)
  have y2625 := un_od y2525 (of_127 (p := 25 + 1) f26 (by omega)).1 o25 (by decide) (by omega)
  replace h26 : cr 299 R26 := h26
  obtain ⟨R27, g27, h27, d27, m27, w27_0, w27_1, w27_2⟩ := i_5 (d := d + 2) (p := 298) (k := 0) (I := I1) (Q := Q) hz1 hq o298 o299 o300 o301 (by omega) h26 w26
  have y2723 := un_od y2623 d27 o23 (by decide) (by omega)
  have y2725 := un_od y2625 d27 o25 (by decide) (by omega)
  replace d27 := od_mo (q := 0 + 1) d27 (by omega)
  have u27 := un_od u26 d27 op (by decide) (by omega)
  replace d27 := od_mo (q := 0) d27 (by omega)
  replace h27 : cr 302 R27 := h27
  obtain ⟨R28, e28, h28, d28, m28, u28, v28, x28⟩ := st_put h27 op (by decide) (by omega) u27 12 (am_mk 5 0) (by decide)
  have y2823 := un_fr y2723 x28 (by decide)
  have y2825 := un_fr y2725 x28 (by decide)
  replace h28 : cr 302 R28 := h28
  obtain ⟨R29, e29, h29, f29⟩ := st_new h28 (by decide)
  obtain ⟨d29, m29⟩ := of_127 (p := 0) f29 (by omega)
  have q29 : ∀ {d : Nat} {l0 l1 : Value} {st : List Value}, am_ev d 96 125 [l0, l1] st I1 R28 Q = am_ev d 96 128 [l0, l1] (.ref (am_mk 9 53) :: st) I1 R29 Q := fun {d l0 l1 st} => (s96_125 h28.2.1 ⟨by omega, o302⟩ (n0 h28 (by omega) o302 (by decide) (fun j => hz1 _ _ j (by decide) (by decide) (by decide)) hq _)).trans (by rw [e29])
  have w29 := un_new h28 (by omega) o302 (by decide) f29
  have u29 := un_od u28 (of_127 (p := 0 + 1) f29 (by omega)).1 op (by decide) (by omega)
  have y2923 := un_od y2823 (of_127 (p := 23 + 1) f29 (by omega)).1 o23 (by decide) (by omega)
  have y2925 := un_od y2825 (of_127 (p := 25 + 1) f29 (by omega)).1 o25 (by decide) (by omega)
  replace h29 : cr 303 R29 := h29
  obtain ⟨R30, g30, h30, d30, m30, w30_0, w30_1, w30_2, w30_3⟩ := i_9 (d := d + 2) (p := 302) (k := 53) (I := I1) (Q := Q) hz1 hq o302 o303 o304 o305 o306 (by omega) h29 w29
  have y3023 := un_od y2923 d30 o23 (by decide) (by omega)
  have y3025 := un_od y2925 d30 o25 (by decide) (by omega)
  replace d30 := od_mo (q := 0 + 1) d30 (by omega)
  have u30 := un_od u29 d30 op (by decide) (by omega)
  replace d30 := od_mo (q := 0) d30 (by omega)
  replace h30 : cr 307 R30 := h30
  obtain ⟨R31, e31, h31, d31, m31, u31, v31, x31⟩ := st_put h30 op (by decide) (by omega) u30 13 (am_mk 9 53) (by decide)
  have y3123 := un_fr y3023 x31 (by decide)
  have y3125 := un_fr y3025 x31 (by decide)
  replace h31 : cr 307 R31 := h31
  obtain ⟨R32, e32, h32, f32⟩ := st_new h31 (by decide)
  obtain ⟨d32, m32⟩ := of_127 (p := 0) f32 (by omega)
  have q32 : ∀ {d : Nat} {l0 l1 : Value} {st : List Value}, am_ev d 96 136 [l0, l1] st I1 R31 Q = am_ev d 96 139 [l0, l1] (.ref (am_mk 5 1) :: st) I1 R32 Q := fun {d l0 l1 st} => (s96_136 h31.2.1 ⟨by omega, o307⟩ (n0 h31 (by omega) o307 (by decide) (fun j => hz1 _ _ j (by decide) (by decide) (by decide)) hq _)).trans (by rw [e32])
  have w32 := un_new h31 (by omega) o307 (by decide) f32
  have u32 := un_od u31 (of_127 (p := 0 + 1) f32 (by omega)).1 op (by decide) (by omega)
  have y3223 := un_od y3123 (of_127 (p := 23 + 1) f32 (by omega)).1 o23 (by decide) (by omega)
  have y3225 := un_od y3125 (of_127 (p := 25 + 1) f32 (by omega)).1 o25 (by decide) (by omega)
  replace h32 : cr 308 R32 := h32
  obtain ⟨R33, g33, h33, d33, m33, w33_0, w33_1, w33_2⟩ := i_5 (d := d + 2) (p := 307) (k := 1) (I := I1) (Q := Q) hz1 hq o307 o308 o309 o310 (by omega) h32 w32
  have y3323 := un_od y3223 d33 o23 (by decide) (by omega)
  have y3325 := un_od y3225 d33 o25 (by decide) (by omega)
  replace d33 := od_mo (q := 0 + 1) d33 (by omega)
  have u33 := un_od u32 d33 op (by decide) (by omega)
  replace d33 := od_mo (q := 0) d33 (by omega)
  replace h33 : cr 311 R33 := h33
  obtain ⟨R34, e34, h34, d34, m34, u34, v34, x34⟩ := st_put h33 op (by decide) (by omega) u33 14 (am_mk 5 1) (by decide)
  have y3423 := un_fr y3323 x34 (by decide)
  have y3425 := un_fr y3325 x34 (by decide)
  replace h34 : cr 311 R34 := h34
  obtain ⟨R35, e35, h35, f35⟩ := st_new h34 (by decide)
  obtain ⟨d35, m35⟩ := of_127 (p := 0) f35 (by omega)
  have q35 : ∀ {d : Nat} {l0 l1 : Value} {st : List Value}, am_ev d 96 147 [l0, l1] st I1 R34 Q = am_ev d 96 150 [l0, l1] (.ref (am_mk 8 0) :: st) I1 R35 Q := fun {d l0 l1 st} => (s96_147 h34.2.1 ⟨by omega, o311⟩ (n0 h34 (by omega) o311 (by decide) (fun j => hz1 _ _ j (by decide) (by decide) (by decide)) hq _)).trans (by rw [e35])
  have w35 := un_new h34 (by omega) o311 (by decide) f35
  have u35 := un_od u34 (of_127 (p := 0 + 1) f35 (by omega)).1 op (by decide) (by omega)
  have y3523 := un_od y3423 (of_127 (p := 23 + 1) f35 (by omega)).1 o23 (by decide) (by omega)
  have y3525 := un_od y3425 (of_127 (p := 25 + 1) f35 (by omega)).1 o25 (by decide) (by omega)
  replace h35 : cr 312 R35 := h35
  obtain ⟨R36, g36, h36, d36, m36, w36_0, w36_1, w36_2, w36_3⟩ := i_8 (d := d + 2) (p := 311) (k := 0) (I := I1) (Q := Q) hz1 hq o311 o312 o313 o314 o315 (by omega) h35 w35
  have y3623 := un_od y3523 d36 o23 (by decide) (by omega)
  have y3625 := un_od y3525 d36 o25 (by decide) (by omega)
  replace d36 := od_mo (q := 0 + 1) d36 (by omega)
  have u36 := un_od u35 d36 op (by decide) (by omega)
  replace d36 := od_mo (q := 0) d36 (by omega)
  replace h36 : cr 316 R36 := h36
  obtain ⟨R37, e37, h37, d37, m37, u37, v37, x37⟩ := st_put h36 op (by decide) (by omega) u36 16 (am_mk 8 0) (by decide)
  have y3723 := un_fr y3623 x37 (by decide)
  have y3725 := un_fr y3625 x37 (by decide)
  replace h37 : cr 316 R37 := h37
  obtain ⟨R38, e38, h38, f38⟩ := st_new h37 (by decide)
  obtain ⟨d38, m38⟩ := of_127 (p := 0) f38 (by omega)
  have q38 : ∀ {d : Nat} {l0 l1 : Value} {st : List Value}, am_ev d 96 158 [l0, l1] st I1 R37 Q = am_ev d 96 161 [l0, l1] (.ref (am_mk 8 1) :: st) I1 R38 Q := fun {d l0 l1 st} => (s96_158 h37.2.1 ⟨by omega, o316⟩ (n0 h37 (by omega) o316 (by decide) (fun j => hz1 _ _ j (by decide) (by decide) (by decide)) hq _)).trans (by rw [e38])
  have w38 := un_new h37 (by omega) o316 (by decide) f38
  have u38 := un_od u37 (of_127 (p := 0 + 1) f38 (by omega)).1 op (by decide) (by omega)
  have y3823 := un_od y3723 (of_127 (p := 23 + 1) f38 (by omega)).1 o23 (by decide) (by omega)
  have y3825 := un_od y3725 (of_127 (p := 25 + 1) f38 (by omega)).1 o25 (by decide) (by omega)
  replace h38 : cr 317 R38 := h38
  obtain ⟨R39, g39, h39, d39, m39, w39_0, w39_1, w39_2, w39_3⟩ := i_8 (d := d + 2) (p := 316) (k := 1) (I := I1) (Q := Q) hz1 hq o316 o317 o318 o319 o320 (by omega) h38 w38
  have y3923 := un_od y3823 d39 o23 (by decide) (by omega)
  have y3925 := un_od y3825 d39 o25 (by decide) (by omega)
  replace d39 := od_mo (q := 0 + 1) d39 (by omega)
  have u39 := un_od u38 d39 op (by decide) (by omega)
  replace d39 := od_mo (q := 0) d39 (by omega)
  replace h39 : cr 321 R39 := h39
  obtain ⟨R40, e40, h40, d40, m40, u40, v40, x40⟩ := st_put h39 op (by decide) (by omega) u39 17 (am_mk 8 1) (by decide)
  have y4023 := un_fr y3923 x40 (by decide)
  have y4025 := un_fr y3925 x40 (by decide)
  replace h40 : cr 321 R40 := h40
  obtain ⟨R41, g41, h41, d41, m41, b41, w41⟩ := lp_11 (d := d + 2) (I := I1) (Q := Q) hz1 hq h40 y4023 (m40 _ _ _ _ (by decide) (m39 _ _ _ _ (by decide) (m38 _ _ _ _ (by decide) (m37 _ _ _ _ (by decide) (m36 _ _ _ _ (by decide) (m35 _ _ _ _ (by decide) (m34 _ _ _ _ (by decide) (m33 _ _ _ _ (by decide) (m32 _ _ _ _ (by decide) (m31 _ _ _ _ (by decide) (m30 _ _ _ _ (by decide) (m29 _ _ _ _ (by decide) (m28 _ _ _ _ (by decide) (m27 _ _ _ _ (by decide) (m26 _ _ _ _ (by decide) (m25 _ _ _ _ (by decide) (m24 _ _ _ _ (by decide) (m23 _ _ _ _ (by decide) (m22 _ _ _ _ (by decide) (m21 _ _ _ _ (by decide) (m20 _ _ _ _ (by decide) (m19 _ _ _ _ (by decide) (m18 _ _ _ _ (by decide) (m17 _ _ _ _ (by decide) (m16 _ _ _ _ (by decide) (m15 _ _ _ _ (by decide) (m14 _ _ _ _ (by decide) (m13 _ _ _ _ (by decide) (m12 _ _ _ _ (by decide) (v11))))))))))))))))))))))))))))))
  have y4125 := un_fx y4025 b41 o25 (by decide) (by decide) (by decide)
  replace d41 := od_mo (q := 0) d41 (by omega)
  replace h41 : cr 333 R41 := h41
  have c41 : cm R41 R41 := cm_rf
  have c40 := cm_tr m41 c41
  have c39 := cm_tr m40 c40
  have c38 := cm_tr m39 c39
  have c37 := cm_tr m38 c38
  have c36 := cm_tr m37 c37
  have c35 := cm_tr m36 c36
  have c34 := cm_tr m35 c35
  have c33 := cm_tr m34 c34
  have c32 := cm_tr m33 c33
  have c31 := cm_tr m32 c32
  have c30 := cm_tr m31 c31
  have c29 := cm_tr m30 c30
  have c28 := cm_tr m29 c29
  have c27 := cm_tr m28 c28
  have c26 := cm_tr m27 c27
  have c25 := cm_tr m26 c26
  have c24 := cm_tr m25 c25
  have c23 := cm_tr m24 c24
  have c22 := cm_tr m23 c23
  have c21 := cm_tr m22 c22
  have c20 := cm_tr m21 c21
  have c19 := cm_tr m20 c20
  have c18 := cm_tr m19 c19
  have c17 := cm_tr m18 c18
  have c16 := cm_tr m17 c17
  have c15 := cm_tr m16 c16
  have c14 := cm_tr m15 c15
  have c13 := cm_tr m14 c14
  have c12 := cm_tr m13 c13
  have c11 := cm_tr m12 c12
  have c10 := cm_tr m11 c11
  have c9 := cm_tr m10 c10
  have c8 := cm_tr m9 c9
  have c7 := cm_tr m8 c8
  have c6 := cm_tr m7 c7
  have c5 := cm_tr m6 c6
  have c4 := cm_tr m5 c5
  have c3 := cm_tr m4 c4
  have c2 := cm_tr m3 c3
  have c1 := cm_tr m2 c2
  have c0 := cm_tr m1 c1
  refine ⟨I1, R41, ?_, h41, od_tr (od_tr (od_tr (od_tr (od_tr (od_tr (od_tr (od_tr (od_tr (od_tr (od_tr (od_tr (od_tr (od_tr (od_tr (od_tr (od_tr (od_tr (od_tr (od_tr (od_tr (od_tr (od_tr (od_tr (od_tr (od_tr (od_tr (od_tr (od_tr (od_tr (od_tr (od_tr (od_tr (od_tr (od_tr (od_tr (od_tr (od_tr (od_tr (od_tr (d1) d2) d3) d4) d5) d6) d7) d8) d9) d10) d11) d12) d13) d14) d15) d16) d17) d18) d19) d20) d21) d22) d23) d24) d25) d26) d27) d28) d29) d30) d31) d32) d33) d34) d35) d36) d37) d38) d39) d40) d41, c0, c2 _ _ _ _ (by decide) w2_0, c3 _ _ _ _ (by decide) v3, c5 _ _ _ _ (by decide) w5_0, c5 _ _ _ _ (by decide) w5_1, c5 _ _ _ _ (by decide) w5_2, c5 _ _ _ _ (by decide) w5_3, c5 _ _ _ _ (by decide) w5_4, c5 _ _ _ _ (by decide) w5_5, c5 _ _ _ _ (by decide) w5_6, c5 _ _ _ _ (by decide) w5_7, c5 _ _ _ _ (by decide) w5_8, c5 _ _ _ _ (by decide) w5_9, c5 _ _ _ _ (by decide) w5_10, c5 _ _ _ _ (by decide) w5_11, c5 _ _ _ _ (by decide) w5_12, c5 _ _ _ _ (by decide) w5_13, c5 _ _ _ _ (by decide) w5_14, c5 _ _ _ _ (by decide) w5_15, c6 _ _ _ _ (by decide) v6, c8 _ _ _ _ (by decide) w8_0, c8 _ _ _ _ (by decide) w8_1, c8 _ _ _ _ (by decide) w8_2, c8 _ _ _ _ (by decide) w8_3, c9 _ _ _ _ (by decide) v9, c11 _ _ _ _ (by decide) v11, c13 _ _ _ _ (by decide) v13, c15 _ _ _ _ (by decide) w15_0, c15 _ _ _ _ (by decide) w15_1, c15 _ _ _ _ (by decide) w15_2, c15 _ _ _ _ (by decide) w15_3, c15 _ _ _ _ (by decide) w15_4, c15 _ _ _ _ (by decide) w15_5, c15 _ _ _ _ (by decide) w15_6, c15 _ _ _ _ (by decide) w15_7, c15 _ _ _ _ (by decide) w15_8, c15 _ _ _ _ (by decide) w15_9, c15 _ _ _ _ (by decide) w15_10, c15 _ _ _ _ (by decide) w15_11, c15 _ _ _ _ (by decide) w15_12, c16 _ _ _ _ (by decide) v16, c18 _ _ _ _ (by decide) w18_0, c18 _ _ _ _ (by decide) w18_1, c18 _ _ _ _ (by decide) w18_2, c18 _ _ _ _ (by decide) w18_3, c18 _ _ _ _ (by decide) w18_4, c18 _ _ _ _ (by decide) w18_5, c18 _ _ _ _ (by decide) w18_6, fun k hk => ⟨c18 _ _ _ _ (by decide) (w18_7 k hk).1, pp_cm c18 (w18_7 k hk).2⟩, c19 _ _ _ _ (by decide) v19, c21 _ _ _ _ (by decide) w21_0, c21 _ _ _ _ (by decide) w21_1, c21 _ _ _ _ (by decide) w21_2, c21 _ _ _ _ (by decide) w21_3, c22 _ _ _ _ (by decide) v22, c24 _ _ _ _ (by decide) w24_0, fun k hk => ⟨c24 _ _ _ _ (by decide) (w24_1 k hk).1, pp_cm c24 (w24_1 k hk).2⟩, c25 _ _ _ _ (by decide) v25, c27 _ _ _ _ (by decide) w27_0, c27 _ _ _ _ (by decide) w27_1, c27 _ _ _ _ (by decide) w27_2, c28 _ _ _ _ (by decide) v28, c30 _ _ _ _ (by decide) w30_0, c30 _ _ _ _ (by decide) w30_1, c30 _ _ _ _ (by decide) w30_2, c30 _ _ _ _ (by decide) w30_3, c31 _ _ _ _ (by decide) v31, c33 _ _ _ _ (by decide) w33_0, c33 _ _ _ _ (by decide) w33_1, c33 _ _ _ _ (by decide) w33_2, c34 _ _ _ _ (by decide) v34, c36 _ _ _ _ (by decide) w36_0, c36 _ _ _ _ (by decide) w36_1, c36 _ _ _ _ (by decide) w36_2, c36 _ _ _ _ (by decide) w36_3, c37 _ _ _ _ (by decide) v37, c39 _ _ _ _ (by decide) w39_0, c39 _ _ _ _ (by decide) w39_1, c39 _ _ _ _ (by decide) w39_2, c39 _ _ _ _ (by decide) w39_3, c40 _ _ _ _ (by decide) v40, fun k hk => ⟨c41 _ _ _ _ (by decide) (w41 k hk).1, lw_cm c41 (w41 k hk).2⟩, y4125 1 (by decide), vI, xI⟩
  rw [s96]
  simp only [s96_0, s96_1, s96_4, s96_8, s96_9, s96_12, s96_15, s96_19, s96_20, s96_21, s96_24, s96_27, s96_30, s96_34, s96_35, s96_36, s96_39, s96_42, s96_45, s96_46, s96_50, s96_53, s96_54, s96_55, s96_58, s96_59, s96_62, s96_65, s96_69, s96_70, s96_73, s96_76, s96_80, s96_81, s96_82, s96_85, s96_88, s96_91, s96_95, s96_96, s96_99, s96_102, s96_106, s96_107, s96_110, s96_113, s96_117, s96_118, s96_121, s96_124, s96_128, s96_129, s96_132, s96_135, s96_139, s96_140, s96_143, s96_146, s96_150, s96_151, s96_154, s96_157, s96_161, s96_162, s96_165, s96_168, s96_169, q1, g2, e3, q4, r4, g5, e6, q7, r7, g8, e9, q10, e11, eI, q12, e13, q14, g15, e16, q17, r17, g18, e19, q20, g21, e22, q23, g24, e25, q26, g27, e28, q29, g30, e31, q32, g33, e34, q35, g36, e37, q38, g39, e40, g41, am_th_some, tl_n, tl_s, rf_s]
theorem i_12 {d : Nat} {I : am_I} {R : am_R} {Q : am_Q} (hz : zI I) (hq : zQ Q) (h0 : cr (334) R) (u0 : un 12 0 (fun _ => False) R) : ∃ J R', am_cal d 158 [.ref (am_mk 12 0)] I R Q = some (none, J, R', Q) ∧ cr (364) R' ∧ od (333) R R' ∧ cm R R' ∧ R' 12 0 1 = some (am_mk 42 0) ∧ R' 12 0 6 = some (am_mk 43 0) ∧ R' 12 0 7 = some (am_mk 44 0) ∧ R' 12 0 8 = some (am_mk 45 0) ∧ R' 12 0 9 = some (am_mk 46 0) ∧ R' 12 0 10 = some (am_mk 47 0) ∧ R' 12 0 11 = some (am_mk 48 0) ∧ R' 12 0 12 = some (am_mk 49 0) ∧ R' 12 0 15 = some (am_mk 50 0) ∧ R' 12 0 16 = some (am_mk 51 0) ∧ R' 12 0 17 = some (am_mk 52 0) ∧ R' 12 0 18 = some (am_mk 53 0) ∧ R' 12 0 19 = some (am_mk 54 0) ∧ R' 12 0 20 = some (am_mk 55 0) ∧ R' 12 0 24 = some (am_mk 56 0) ∧ R' 12 0 25 = some (am_mk 57 0) ∧ R' 12 0 26 = some (am_mk 58 0) ∧ R' 12 0 27 = some (am_mk 59 0) ∧ R' 12 0 31 = some (am_mk 60 0) ∧ R' 12 0 32 = some (am_mk 61 0) ∧ R' 12 0 35 = some (am_mk 62 0) ∧ R' 12 0 36 = some (am_mk 63 0) ∧ R' 12 0 39 = some (am_mk 64 0) ∧ R' 12 0 41 = some (am_mk 65 0) ∧ R' 12 0 42 = some (am_mk 66 0) ∧ R' 12 0 46 = some (am_mk 67 0) ∧ R' 12 0 47 = some (am_mk 68 0) ∧ R' 12 0 48 = some (am_mk 69 0) ∧ R' 12 0 50 = some (am_mk 70 0) ∧ R' 12 0 51 = some (am_mk 71 0) ∧ J 12 0 33 = -nI 1 ∧ am_fr (fun a b j => a = 12 ∧ b = 0 ∧ j = 33) I J := by
  have op : am_ord 333 = am_mk 12 0 := rfl
  have o1 : am_ord 334 = am_mk 42 0 := rfl
  have o2 : am_ord 335 = am_mk 43 0 := rfl
  have o3 : am_ord 336 = am_mk 44 0 := rfl
  have o4 : am_ord 337 = am_mk 45 0 := rfl
  have o5 : am_ord 338 = am_mk 46 0 := rfl
  have o6 : am_ord 339 = am_mk 47 0 := rfl
  have o7 : am_ord 340 = am_mk 48 0 := rfl
  have o8 : am_ord 341 = am_mk 49 0 := rfl
  have o9 : am_ord 342 = am_mk 50 0 := rfl
  have o10 : am_ord 343 = am_mk 51 0 := rfl
  have o11 : am_ord 344 = am_mk 52 0 := rfl
  have o12 : am_ord 345 = am_mk 53 0 := rfl
  have o13 : am_ord 346 = am_mk 54 0 := rfl
  have o14 : am_ord 347 = am_mk 55 0 := rfl
  have o15 : am_ord 348 = am_mk 56 0 := rfl
  have o16 : am_ord 349 = am_mk 57 0 := rfl
  have o17 : am_ord 350 = am_mk 58 0 := rfl
  have o18 : am_ord 351 = am_mk 59 0 := rfl
  have o19 : am_ord 352 = am_mk 60 0 := rfl
  have o20 : am_ord 353 = am_mk 61 0 := rfl
  have o21 : am_ord 354 = am_mk 62 0 := rfl
  have o22 : am_ord 355 = am_mk 63 0 := rfl
  have o23 : am_ord 356 = am_mk 64 0 := rfl
  have o24 : am_ord 357 = am_mk 65 0 := rfl
  have o25 : am_ord 358 = am_mk 66 0 := rfl
  have o26 : am_ord 359 = am_mk 67 0 := rfl
  have o27 : am_ord 360 = am_mk 68 0 := rfl
  have o28 : am_ord 361 = am_mk 69 0 := rfl
  have o29 : am_ord 362 = am_mk 70 0 := rfl
  have o30 : am_ord 363 = am_mk 71 0 := rfl
  obtain ⟨R1, e1, h1, f1⟩ := st_new h0 (by decide)
  obtain ⟨d1, m1⟩ := of_127 (p := 333) f1 (by omega)
  have q1 : ∀ {d : Nat} {l0 : Value} {st : List Value}, am_ev d 158 8 [l0] (.int (nI 240) :: st) I R Q = am_ev d 158 10 [l0] (.ref (am_mk 42 0) :: st) I R1 Q := fun {d l0 st} => (s158_8 h0.2.1 ⟨by omega, o1⟩ ⟨rfl, by decide⟩ rfl (n0 h0 (by omega) o1 (by decide) (fun j => hz _ _ j (by decide) (by decide) (by decide)) hq _)).trans (by rw [e1])
  have u1 := un_od u0 (of_127 (p := 333 + 1) f1 (by omega)).1 op (by decide) (by omega)
  replace h1 : cr 335 R1 := h1
  obtain ⟨R2, e2, h2, d2, m2, u2, v2, x2⟩ := st_put h1 op (by decide) (by omega) u1 1 (am_mk 42 0) (by decide)
  replace h2 : cr 335 R2 := h2
  obtain ⟨R3, e3, h3, f3⟩ := st_new h2 (by decide)
  obtain ⟨d3, m3⟩ := of_127 (p := 333) f3 (by omega)
  have q3 : ∀ {d : Nat} {l0 : Value} {st : List Value}, am_ev d 158 17 [l0] (.int (nI 2600) :: st) I R2 Q = am_ev d 158 19 [l0] (.ref (am_mk 43 0) :: st) I R3 Q := fun {d l0 st} => (s158_17 h2.2.1 ⟨by omega, o2⟩ ⟨rfl, by decide⟩ rfl (n0 h2 (by omega) o2 (by decide) (fun j => hz _ _ j (by decide) (by decide) (by decide)) hq _)).trans (by rw [e3])
  have u3 := un_od u2 (of_127 (p := 333 + 1) f3 (by omega)).1 op (by decide) (by omega)
  replace h3 : cr 336 R3 := h3
  obtain ⟨R4, e4, h4, d4, m4, u4, v4, x4⟩ := st_put h3 op (by decide) (by omega) u3 6 (am_mk 43 0) (by decide)
  replace h4 : cr 336 R4 := h4
  obtain ⟨R5, e5, h5, f5⟩ := st_new h4 (by decide)
  obtain ⟨d5, m5⟩ := of_127 (p := 333) f5 (by omega)
  have q5 : ∀ {d : Nat} {l0 : Value} {st : List Value}, am_ev d 158 26 [l0] (.int (nI 2600) :: st) I R4 Q = am_ev d 158 28 [l0] (.ref (am_mk 44 0) :: st) I R5 Q := fun {d l0 st} => (s158_26 h4.2.1 ⟨by omega, o3⟩ ⟨rfl, by decide⟩ rfl (n0 h4 (by omega) o3 (by decide) (fun j => hz _ _ j (by decide) (by decide) (by decide)) hq _)).trans (by rw [e5])
  have u5 := un_od u4 (of_127 (p := 333 + 1) f5 (by omega)).1 op (by decide) (by omega)
  replace h5 : cr 337 R5 := h5
  obtain ⟨R6, e6, h6, d6, m6, u6, v6, x6⟩ := st_put h5 op (by decide) (by omega) u5 7 (am_mk 44 0) (by decide)
  replace h6 : cr 337 R6 := h6
  obtain ⟨R7, e7, h7, f7⟩ := st_new h6 (by decide)
  obtain ⟨d7, m7⟩ := of_127 (p := 333) f7 (by omega)
  have q7 : ∀ {d : Nat} {l0 : Value} {st : List Value}, am_ev d 158 33 [l0] (.int (nI 5) :: st) I R6 Q = am_ev d 158 35 [l0] (.ref (am_mk 45 0) :: st) I R7 Q := fun {d l0 st} => (s158_33 h6.2.1 ⟨by omega, o4⟩ ⟨rfl, by decide⟩ rfl (n0 h6 (by omega) o4 (by decide) (fun j => hz _ _ j (by decide) (by decide) (by decide)) hq _)).trans (by rw [e7])
  have u7 := un_od u6 (of_127 (p := 333 + 1) f7 (by omega)).1 op (by decide) (by omega)
  replace h7 : cr 338 R7 := h7
  obtain ⟨R8, e8, h8, d8, m8, u8, v8, x8⟩ := st_put h7 op (by decide) (by omega) u7 8 (am_mk 45 0) (by decide)
  replace h8 : cr 338 R8 := h8
  obtain ⟨R9, e9, h9, f9⟩ := st_new h8 (by decide)
  obtain ⟨d9, m9⟩ := of_127 (p := 333) f9 (by omega)
  have q9 : ∀ {d : Nat} {l0 : Value} {st : List Value}, am_ev d 158 40 [l0] (.int (nI 5) :: st) I R8 Q = am_ev d 158 42 [l0] (.ref (am_mk 46 0) :: st) I R9 Q := fun {d l0 st} => (s158_40 h8.2.1 ⟨by omega, o5⟩ ⟨rfl, by decide⟩ rfl (n0 h8 (by omega) o5 (by decide) (fun j => hz _ _ j (by decide) (by decide) (by decide)) hq _)).trans (by rw [e9])
  have u9 := un_od u8 (of_127 (p := 333 + 1) f9 (by omega)).1 op (by decide) (by omega)
  replace h9 : cr 339 R9 := h9
  obtain ⟨R10, e10, h10, d10, m10, u10, v10, x10⟩ := st_put h9 op (by decide) (by omega) u9 9 (am_mk 46 0) (by decide)
  replace h10 : cr 339 R10 := h10
  obtain ⟨R11, e11, h11, f11⟩ := st_new h10 (by decide)
  obtain ⟨d11, m11⟩ := of_127 (p := 333) f11 (by omega)
  have q11 : ∀ {d : Nat} {l0 : Value} {st : List Value}, am_ev d 158 49 [l0] (.int (nI 700) :: st) I R10 Q = am_ev d 158 51 [l0] (.ref (am_mk 47 0) :: st) I R11 Q := fun {d l0 st} => (s158_49 h10.2.1 ⟨by omega, o6⟩ ⟨rfl, by decide⟩ rfl (n0 h10 (by omega) o6 (by decide) (fun j => hz _ _ j (by decide) (by decide) (by decide)) hq _)).trans (by rw [e11])
  have u11 := un_od u10 (of_127 (p := 333 + 1) f11 (by omega)).1 op (by decide) (by omega)
  replace h11 : cr 340 R11 := h11
  obtain ⟨R12, e12, h12, d12, m12, u12, v12, x12⟩ := st_put h11 op (by decide) (by omega) u11 10 (am_mk 47 0) (by decide)
  replace h12 : cr 340 R12 := h12
  obtain ⟨R13, e13, h13, f13⟩ := st_new h12 (by decide)
  obtain ⟨d13, m13⟩ := of_127 (p := 333) f13 (by omega)
  have q13 : ∀ {d : Nat} {l0 : Value} {st : List Value}, am_ev d 158 58 [l0] (.int (nI 700) :: st) I R12 Q = am_ev d 158 60 [l0] (.ref (am_mk 48 0) :: st) I R13 Q := fun {d l0 st} => (s158_58 h12.2.1 ⟨by omega, o7⟩ ⟨rfl, by decide⟩ rfl (n0 h12 (by omega) o7 (by decide) (fun j => hz _ _ j (by decide) (by decide) (by decide)) hq _)).trans (by rw [e13])
  have u13 := un_od u12 (of_127 (p := 333 + 1) f13 (by omega)).1 op (by decide) (by omega)
  replace h13 : cr 341 R13 := h13
  obtain ⟨R14, e14, h14, d14, m14, u14, v14, x14⟩ := st_put h13 op (by decide) (by omega) u13 11 (am_mk 48 0) (by decide)
  replace h14 : cr 341 R14 := h14
  obtain ⟨R15, e15, h15, f15⟩ := st_new h14 (by decide)
  obtain ⟨d15, m15⟩ := of_127 (p := 333) f15 (by omega)
  have q15 : ∀ {d : Nat} {l0 : Value} {st : List Value}, am_ev d 158 67 [l0] (.int (nI 700) :: st) I R14 Q = am_ev d 158 69 [l0] (.ref (am_mk 49 0) :: st) I R15 Q := fun {d l0 st} => (s158_67 h14.2.1 ⟨by omega, o8⟩ ⟨rfl, by decide⟩ rfl (n0 h14 (by omega) o8 (by decide) (fun j => hz _ _ j (by decide) (by decide) (by decide)) hq _)).trans (by rw [e15])
  have u15 := un_od u14 (of_127 (p := 333 + 1) f15 (by omega)).1 op (by decide) (by omega)
  replace h15 : cr 342 R15 := h15
  obtain ⟨R16, e16, h16, d16, m16, u16, v16, x16⟩ := st_put h15 op (by decide) (by omega) u15 12 (am_mk 49 0) (by decide)
  replace h16 : cr 342 R16 := h16
  obtain ⟨R17, e17, h17, f17⟩ := st_new h16 (by decide)
  obtain ⟨d17, m17⟩ := of_127 (p := 333) f17 (by omega)
  have q17 : ∀ {d : Nat} {l0 : Value} {st : List Value}, am_ev d 158 75 [l0] (.int (nI 6) :: st) I R16 Q = am_ev d 158 77 [l0] (.ref (am_mk 50 0) :: st) I R17 Q := fun {d l0 st} => (s158_75 h16.2.1 ⟨by omega, o9⟩ ⟨rfl, by decide⟩ rfl (n0 h16 (by omega) o9 (by decide) (fun j => hz _ _ j (by decide) (by decide) (by decide)) hq _)).trans (by rw [e17])
  have u17 := un_od u16 (of_127 (p := 333 + 1) f17 (by omega)).1 op (by decide) (by omega)
  replace h17 : cr 343 R17 := h17
  obtain ⟨R18, e18, h18, d18, m18, u18, v18, x18⟩ := st_put h17 op (by decide) (by omega) u17 15 (am_mk 50 0) (by decide)
  replace h18 : cr 343 R18 := h18
  obtain ⟨R19, e19, h19, f19⟩ := st_new h18 (by decide)
  obtain ⟨d19, m19⟩ := of_127 (p := 333) f19 (by omega)
  have q19 : ∀ {d : Nat} {l0 : Value} {st : List Value}, am_ev d 158 83 [l0] (.int (nI 80) :: st) I R18 Q = am_ev d 158 85 [l0] (.ref (am_mk 51 0) :: st) I R19 Q := fun {d l0 st} => (s158_83 h18.2.1 ⟨by omega, o10⟩ ⟨rfl, by decide⟩ rfl (n0 h18 (by omega) o10 (by decide) (fun j => hz _ _ j (by decide) (by decide) (by decide)) hq _)).trans (by rw [e19])
  have u19 := un_od u18 (of_127 (p := 333 + 1) f19 (by omega)).1 op (by decide) (by omega)
  replace h19 : cr 344 R19 := h19
  obtain ⟨R20, e20, h20, d20, m20, u20, v20, x20⟩ := st_put h19 op (by decide) (by omega) u19 16 (am_mk 51 0) (by decide)
  replace h20 : cr 344 R20 := h20
  obtain ⟨R21, e21, h21, f21⟩ := st_new h20 (by decide)
  obtain ⟨d21, m21⟩ := of_127 (p := 333) f21 (by omega)
  have q21 : ∀ {d : Nat} {l0 : Value} {st : List Value}, am_ev d 158 91 [l0] (.int (nI 6) :: st) I R20 Q = am_ev d 158 93 [l0] (.ref (am_mk 52 0) :: st) I R21 Q := fun {d l0 st} => (s158_91 h20.2.1 ⟨by omega, o11⟩ ⟨rfl, by decide⟩ rfl (n0 h20 (by omega) o11 (by decide) (fun j => hz _ _ j (by decide) (by decide) (by decide)) hq _)).trans (by rw [e21])
  have u21 := un_od u20 (of_127 (p := 333 + 1) f21 (by omega)).1 op (by decide) (by omega)
  replace h21 : cr 345 R21 := h21
  obtain ⟨R22, e22, h22, d22, m22, u22, v22, x22⟩ := st_put h21 op (by decide) (by omega) u21 17 (am_mk 52 0) (by decide)
  replace h22 : cr 345 R22 := h22
  obtain ⟨R23, e23, h23, f23⟩ := st_new h22 (by decide)
  obtain ⟨d23, m23⟩ := of_127 (p := 333) f23 (by omega)
  have q23 : ∀ {d : Nat} {l0 : Value} {st : List Value}, am_ev d 158 99 [l0] (.int (nI 48) :: st) I R22 Q = am_ev d 158 101 [l0] (.ref (am_mk 53 0) :: st) I R23 Q := fun {d l0 st} => (s158_99 h22.2.1 ⟨by omega, o12⟩ ⟨rfl, by decide⟩ rfl (n0 h22 (by omega) o12 (by decide) (fun j => hz _ _ j (by decide) (by decide) (by decide)) hq _)).trans (by rw [e23])
  have u23 := un_od u22 (of_127 (p := 333 + 1) f23 (by omega)).1 op (by decide) (by omega)
  replace h23 : cr 346 R23 := h23
  obtain ⟨R24, e24, h24, d24, m24, u24, v24, x24⟩ := st_put h23 op (by decide) (by omega) u23 18 (am_mk 53 0) (by decide)
  replace h24 : cr 346 R24 := h24
  obtain ⟨R25, e25, h25, f25⟩ := st_new h24 (by decide)
  obtain ⟨d25, m25⟩ := of_127 (p := 333) f25 (by omega)
  have q25 : ∀ {d : Nat} {l0 : Value} {st : List Value}, am_ev d 158 107 [l0] (.int (nI 12) :: st) I R24 Q = am_ev d 158 109 [l0] (.ref (am_mk 54 0) :: st) I R25 Q := fun {d l0 st} => (s158_107 h24.2.1 ⟨by omega, o13⟩ ⟨rfl, by decide⟩ rfl (n0 h24 (by omega) o13 (by decide) (fun j => hz _ _ j (by decide) (by decide) (by decide)) hq _)).trans (by rw [e25])
  have u25 := un_od u24 (of_127 (p := 333 + 1) f25 (by omega)).1 op (by decide) (by omega)
  replace h25 : cr 347 R25 := h25
  obtain ⟨R26, e26, h26, d26, m26, u26, v26, x26⟩ := st_put h25 op (by decide) (by omega) u25 19 (am_mk 54 0) (by decide)
  replace h26 : cr 347 R26 := h26
  obtain ⟨R27, e27, h27, f27⟩ := st_new h26 (by decide)
  obtain ⟨d27, m27⟩ := of_127 (p := 333) f27 (by omega)
  have q27 : ∀ {d : Nat} {l0 : Value} {st : List Value}, am_ev d 158 115 [l0] (.int (nI 12) :: st) I R26 Q = am_ev d 158 117 [l0] (.ref (am_mk 55 0) :: st) I R27 Q := fun {d l0 st} => (s158_115 h26.2.1 ⟨by omega, o14⟩ ⟨rfl, by decide⟩ rfl (n0 h26 (by omega) o14 (by decide) (fun j => hz _ _ j (by decide) (by decide) (by decide)) hq _)).trans (by rw [e27])
  have u27 := un_od u26 (of_127 (p := 333 + 1) f27 (by omega)).1 op (by decide) (by omega)
  replace h27 : cr 348 R27 := h27
  obtain ⟨R28, e28, h28, d28, m28, u28, v28, x28⟩ := st_put h27 op (by decide) (by omega) u27 20 (am_mk 55 0) (by decide)
  replace h28 : cr 348 R28 := h28
  obtain ⟨R29, e29, h29, f29⟩ := st_new h28 (by decide)
  obtain ⟨d29, m29⟩ := of_127 (p := 333) f29 (by omega)
  have q29 : ∀ {d : Nat} {l0 : Value} {st : List Value}, am_ev d 158 123 [l0] (.int (nI 6) :: st) I R28 Q = am_ev d 158 125 [l0] (.ref (am_mk 56 0) :: st) I R29 Q := fun {d l0 st} => (s158_123 h28.2.1 ⟨by omega, o15⟩ ⟨rfl, by decide⟩ rfl (n0 h28 (by omega) o15 (by decide) (fun j => hz _ _ j (by decide) (by decide) (by decide)) hq _)).trans (by rw [e29])
  have u29 := un_od u28 (of_127 (p := 333 + 1) f29 (by omega)).1 op (by decide) (by omega)
  replace h29 : cr 349 R29 := h29
  obtain ⟨R30, e30, h30, d30, m30, u30, v30, x30⟩ := st_put h29 op (by decide) (by omega) u29 24 (am_mk 56 0) (by decide)
  replace h30 : cr 349 R30 := h30
  obtain ⟨R31, e31, h31, f31⟩ := st_new h30 (by decide)
  obtain ⟨d31, m31⟩ := of_127 (p := 333) f31 (by omega)
  have q31 : ∀ {d : Nat} {l0 : Value} {st : List Value}, am_ev d 158 131 [l0] (.int (nI 48) :: st) I R30 Q = am_ev d 158 133 [l0] (.ref (am_mk 57 0) :: st) I R31 Q := fun {d l0 st} => (s158_131 h30.2.1 ⟨by omega, o16⟩ ⟨rfl, by decide⟩ rfl (n0 h30 (by omega) o16 (by decide) (fun j => hz _ _ j (by decide) (by decide) (by decide)) hq _)).trans (by rw [e31])
  have u31 := un_od u30 (of_127 (p := 333 + 1) f31 (by omega)).1 op (by decide) (by omega)
  replace h31 : cr 350 R31 := h31
  obtain ⟨R32, e32, h32, d32, m32, u32, v32, x32⟩ := st_put h31 op (by decide) (by omega) u31 25 (am_mk 57 0) (by decide)
  replace h32 : cr 350 R32 := h32
  obtain ⟨R33, e33, h33, f33⟩ := st_new h32 (by decide)
  obtain ⟨d33, m33⟩ := of_127 (p := 333) f33 (by omega)
  have q33 : ∀ {d : Nat} {l0 : Value} {st : List Value}, am_ev d 158 139 [l0] (.int (nI 25) :: st) I R32 Q = am_ev d 158 141 [l0] (.ref (am_mk 58 0) :: st) I R33 Q := fun {d l0 st} => (s158_139 h32.2.1 ⟨by omega, o17⟩ ⟨rfl, by decide⟩ rfl (n0 h32 (by omega) o17 (by decide) (fun j => hz _ _ j (by decide) (by decide) (by decide)) hq _)).trans (by rw [e33])
  have u33 := un_od u32 (of_127 (p := 333 + 1) f33 (by omega)).1 op (by decide) (by omega)
  replace h33 : cr 351 R33 := h33
  obtain ⟨R34, e34, h34, d34, m34, u34, v34, x34⟩ := st_put h33 op (by decide) (by omega) u33 26 (am_mk 58 0) (by decide)
  replace h34 : cr 351 R34 := h34
  obtain ⟨R35, e35, h35, f35⟩ := st_new h34 (by decide)
  obtain ⟨d35, m35⟩ := of_127 (p := 333) f35 (by omega)
  have q35 : ∀ {d : Nat} {l0 : Value} {st : List Value}, am_ev d 158 147 [l0] (.int (nI 12) :: st) I R34 Q = am_ev d 158 149 [l0] (.ref (am_mk 59 0) :: st) I R35 Q := fun {d l0 st} => (s158_147 h34.2.1 ⟨by omega, o18⟩ ⟨rfl, by decide⟩ rfl (n0 h34 (by omega) o18 (by decide) (fun j => hz _ _ j (by decide) (by decide) (by decide)) hq _)).trans (by rw [e35])
  have u35 := un_od u34 (of_127 (p := 333 + 1) f35 (by omega)).1 op (by decide) (by omega)
  replace h35 : cr 352 R35 := h35
  obtain ⟨R36, e36, h36, d36, m36, u36, v36, x36⟩ := st_put h35 op (by decide) (by omega) u35 27 (am_mk 59 0) (by decide)
  replace h36 : cr 352 R36 := h36
  obtain ⟨R37, e37, h37, f37⟩ := st_new h36 (by decide)
  obtain ⟨d37, m37⟩ := of_127 (p := 333) f37 (by omega)
  have q37 : ∀ {d : Nat} {l0 : Value} {st : List Value}, am_ev d 158 156 [l0] (.int (nI 283) :: st) I R36 Q = am_ev d 158 158 [l0] (.ref (am_mk 60 0) :: st) I R37 Q := fun {d l0 st} => (s158_156 h36.2.1 ⟨by omega, o19⟩ ⟨rfl, by decide⟩ rfl (n0 h36 (by omega) o19 (by decide) (fun j => hz _ _ j (by decide) (by decide) (by decide)) hq _)).trans (by rw [e37])
  have u37 := un_od u36 (of_127 (p := 333 + 1) f37 (by omega)).1 op (by decide) (by omega)
  replace h37 : cr 353 R37 := h37
  obtain ⟨R38, e38, h38, d38, m38, u38, v38, x38⟩ := st_put h37 op (by decide) (by omega) u37 31 (am_mk 60 0) (by decide)
  replace h38 : cr 353 R38 := h38
  obtain ⟨R39, e39, h39, f39⟩ := st_new h38 (by decide)
  obtain ⟨d39, m39⟩ := of_127 (p := 333) f39 (by omega)
  have q39 : ∀ {d : Nat} {l0 : Value} {st : List Value}, am_ev d 158 163 [l0] (.int (nI 4) :: st) I R38 Q = am_ev d 158 165 [l0] (.ref (am_mk 61 0) :: st) I R39 Q := fun {d l0 st} => (s158_163 h38.2.1 ⟨by omega, o20⟩ ⟨rfl, by decide⟩ rfl (n0 h38 (by omega) o20 (by decide) (fun j => hz _ _ j (by decide) (by decide) (by decide)) hq _)).trans (by rw [e39])
  have u39 := un_od u38 (of_127 (p := 333 + 1) f39 (by omega)).1 op (by decide) (by omega)
  replace h39 : cr 354 R39 := h39
  obtain ⟨R40, e40, h40, d40, m40, u40, v40, x40⟩ := st_put h39 op (by decide) (by omega) u39 32 (am_mk 61 0) (by decide)
  replace h40 : cr 354 R40 := h40
  obtain ⟨I1, eI, vI, xI⟩ := wr I 12 0 33 (-nI 1)
  have hz1 : zI I1 := fun a b j h1 h2 h3 => (xI _ _ _ (by omega)).trans (hz a b j h1 h2 h3)
  obtain ⟨R41, e41, h41, f41⟩ := st_new h40 (by decide)
  obtain ⟨d41, m41⟩ := of_127 (p := 333) f41 (by omega)
  have q41 : ∀ {d : Nat} {l0 : Value} {st : List Value}, am_ev d 158 176 [l0] (.int (nI 25) :: st) I1 R40 Q = am_ev d 158 178 [l0] (.ref (am_mk 62 0) :: st) I1 R41 Q := fun {d l0 st} => (s158_176 h40.2.1 ⟨by omega, o21⟩ ⟨rfl, by decide⟩ rfl (n0 h40 (by omega) o21 (by decide) (fun j => hz1 _ _ j (by decide) (by decide) (by decide)) hq _)).trans (by rw [e41])
  have u41 := un_od u40 (of_127 (p := 333 + 1) f41 (by omega)).1 op (by decide) (by omega)
  replace h41 : cr 355 R41 := h41
  obtain ⟨R42, e42, h42, d42, m42, u42, v42, x42⟩ := st_put h41 op (by decide) (by omega) u41 35 (am_mk 62 0) (by decide)
  replace h42 : cr 355 R42 := h42
  obtain ⟨R43, e43, h43, f43⟩ := st_new h42 (by decide)
  obtain ⟨d43, m43⟩ := of_127 (p := 333) f43 (by omega)
  have q43 : ∀ {d : Nat} {l0 : Value} {st : List Value}, am_ev d 158 185 [l0] (.int (nI 11320) :: st) I1 R42 Q = am_ev d 158 187 [l0] (.ref (am_mk 63 0) :: st) I1 R43 Q := fun {d l0 st} => (s158_185 h42.2.1 ⟨by omega, o22⟩ ⟨rfl, by decide⟩ rfl (n0 h42 (by omega) o22 (by decide) (fun j => hz1 _ _ j (by decide) (by decide) (by decide)) hq _)).trans (by rw [e43])
  have u43 := un_od u42 (of_127 (p := 333 + 1) f43 (by omega)).1 op (by decide) (by omega)
  replace h43 : cr 356 R43 := h43
  obtain ⟨R44, e44, h44, d44, m44, u44, v44, x44⟩ := st_put h43 op (by decide) (by omega) u43 36 (am_mk 63 0) (by decide)
  replace h44 : cr 356 R44 := h44
  obtain ⟨R45, e45, h45, f45⟩ := st_new h44 (by decide)
  obtain ⟨d45, m45⟩ := of_127 (p := 333) f45 (by omega)
  have q45 : ∀ {d : Nat} {l0 : Value} {st : List Value}, am_ev d 158 194 [l0] (.int (nI 1020) :: st) I1 R44 Q = am_ev d 158 196 [l0] (.ref (am_mk 64 0) :: st) I1 R45 Q := fun {d l0 st} => (s158_194 h44.2.1 ⟨by omega, o23⟩ ⟨rfl, by decide⟩ rfl (n0 h44 (by omega) o23 (by decide) (fun j => hz1 _ _ j (by decide) (by decide) (by decide)) hq _)).trans (by rw [e45])
  have u45 := un_od u44 (of_127 (p := 333 + 1) f45 (by omega)).1 op (by decide) (by omega)
  replace h45 : cr 357 R45 := h45
  obtain ⟨R46, e46, h46, d46, m46, u46, v46, x46⟩ := st_put h45 op (by decide) (by omega) u45 39 (am_mk 64 0) (by decide)
  replace h46 : cr 357 R46 := h46
  obtain ⟨R47, e47, h47, f47⟩ := st_new h46 (by decide)
  obtain ⟨d47, m47⟩ := of_127 (p := 333) f47 (by omega)
  have q47 : ∀ {d : Nat} {l0 : Value} {st : List Value}, am_ev d 158 202 [l0] (.int (nI 10) :: st) I1 R46 Q = am_ev d 158 204 [l0] (.ref (am_mk 65 0) :: st) I1 R47 Q := fun {d l0 st} => (s158_202 h46.2.1 ⟨by omega, o24⟩ ⟨rfl, by decide⟩ rfl (n0 h46 (by omega) o24 (by decide) (fun j => hz1 _ _ j (by decide) (by decide) (by decide)) hq _)).trans (by rw [e47])
  have u47 := un_od u46 (of_127 (p := 333 + 1) f47 (by omega)).1 op (by decide) (by omega)
  replace h47 : cr 358 R47 := h47
  obtain ⟨R48, e48, h48, d48, m48, u48, v48, x48⟩ := st_put h47 op (by decide) (by omega) u47 41 (am_mk 65 0) (by decide)
  replace h48 : cr 358 R48 := h48
  obtain ⟨R49, e49, h49, f49⟩ := st_new h48 (by decide)
  obtain ⟨d49, m49⟩ := of_127 (p := 333) f49 (by omega)
  have q49 : ∀ {d : Nat} {l0 : Value} {st : List Value}, am_ev d 158 210 [l0] (.int (nI 10) :: st) I1 R48 Q = am_ev d 158 212 [l0] (.ref (am_mk 66 0) :: st) I1 R49 Q := fun {d l0 st} => (s158_210 h48.2.1 ⟨by omega, o25⟩ ⟨rfl, by decide⟩ rfl (n0 h48 (by omega) o25 (by decide) (fun j => hz1 _ _ j (by decide) (by decide) (by decide)) hq _)).trans (by rw [e49])
  have u49 := un_od u48 (of_127 (p := 333 + 1) f49 (by omega)).1 op (by decide) (by omega)
  replace h49 : cr 359 R49 := h49
  obtain ⟨R50, e50, h50, d50, m50, u50, v50, x50⟩ := st_put h49 op (by decide) (by omega) u49 42 (am_mk 66 0) (by decide)
  replace h50 : cr 359 R50 := h50
  obtain ⟨R51, e51, h51, f51⟩ := st_new h50 (by decide)
  obtain ⟨d51, m51⟩ := of_127 (p := 333) f51 (by omega)
  have q51 : ∀ {d : Nat} {l0 : Value} {st : List Value}, am_ev d 158 218 [l0] (.int (nI 10) :: st) I1 R50 Q = am_ev d 158 220 [l0] (.ref (am_mk 67 0) :: st) I1 R51 Q := fun {d l0 st} => (s158_218 h50.2.1 ⟨by omega, o26⟩ ⟨rfl, by decide⟩ rfl (n0 h50 (by omega) o26 (by decide) (fun j => hz1 _ _ j (by decide) (by decide) (by decide)) hq _)).trans (by rw [e51])
  have u51 := un_od u50 (of_127 (p := 333 + 1) f51 (by omega)).1 op (by decide) (by omega)
  replace h51 : cr 360 R51 := h51
  obtain ⟨R52, e52, h52, d52, m52, u52, v52, x52⟩ := st_put h51 op (by decide) (by omega) u51 46 (am_mk 67 0) (by decide)
  replace h52 : cr 360 R52 := h52
  obtain ⟨R53, e53, h53, f53⟩ := st_new h52 (by decide)
  obtain ⟨d53, m53⟩ := of_127 (p := 333) f53 (by omega)
  have q53 : ∀ {d : Nat} {l0 : Value} {st : List Value}, am_ev d 158 226 [l0] (.int (nI 10) :: st) I1 R52 Q = am_ev d 158 228 [l0] (.ref (am_mk 68 0) :: st) I1 R53 Q := fun {d l0 st} => (s158_226 h52.2.1 ⟨by omega, o27⟩ ⟨rfl, by decide⟩ rfl (n0 h52 (by omega) o27 (by decide) (fun j => hz1 _ _ j (by decide) (by decide) (by decide)) hq _)).trans (by rw [e53])
  have u53 := un_od u52 (of_127 (p := 333 + 1) f53 (by omega)).1 op (by decide) (by omega)
  replace h53 : cr 361 R53 := h53
  obtain ⟨R54, e54, h54, d54, m54, u54, v54, x54⟩ := st_put h53 op (by decide) (by omega) u53 47 (am_mk 68 0) (by decide)
  replace h54 : cr 361 R54 := h54
  obtain ⟨R55, e55, h55, f55⟩ := st_new h54 (by decide)
  obtain ⟨d55, m55⟩ := of_127 (p := 333) f55 (by omega)
  have q55 : ∀ {d : Nat} {l0 : Value} {st : List Value}, am_ev d 158 234 [l0] (.int (nI 10) :: st) I1 R54 Q = am_ev d 158 236 [l0] (.ref (am_mk 69 0) :: st) I1 R55 Q := fun {d l0 st} => (s158_234 h54.2.1 ⟨by omega, o28⟩ ⟨rfl, by decide⟩ rfl (n0 h54 (by omega) o28 (by decide) (fun j => hz1 _ _ j (by decide) (by decide) (by decide)) hq _)).trans (by rw [e55])
  have u55 := un_od u54 (of_127 (p := 333 + 1) f55 (by omega)).1 op (by decide) (by omega)
  replace h55 : cr 362 R55 := h55
  obtain ⟨R56, e56, h56, d56, m56, u56, v56, x56⟩ := st_put h55 op (by decide) (by omega) u55 48 (am_mk 69 0) (by decide)
  replace h56 : cr 362 R56 := h56
  obtain ⟨R57, e57, h57, f57⟩ := st_new h56 (by decide)
  obtain ⟨d57, m57⟩ := of_127 (p := 333) f57 (by omega)
  have q57 : ∀ {d : Nat} {l0 : Value} {st : List Value}, am_ev d 158 243 [l0] (.int (nI 283) :: st) I1 R56 Q = am_ev d 158 245 [l0] (.ref (am_mk 70 0) :: st) I1 R57 Q := fun {d l0 st} => (s158_243 h56.2.1 ⟨by omega, o29⟩ ⟨rfl, by decide⟩ rfl (n0 h56 (by omega) o29 (by decide) (fun j => hz1 _ _ j (by decide) (by decide) (by decide)) hq _)).trans (by rw [e57])
  have u57 := un_od u56 (of_127 (p := 333 + 1) f57 (by omega)).1 op (by decide) (by omega)
  replace h57 : cr 363 R57 := h57
  obtain ⟨R58, e58, h58, d58, m58, u58, v58, x58⟩ := st_put h57 op (by decide) (by omega) u57 50 (am_mk 70 0) (by decide)
  replace h58 : cr 363 R58 := h58
  obtain ⟨R59, e59, h59, f59⟩ := st_new h58 (by decide)
  obtain ⟨d59, m59⟩ := of_127 (p := 333) f59 (by omega)
  have q59 : ∀ {d : Nat} {l0 : Value} {st : List Value}, am_ev d 158 252 [l0] (.int (nI 283) :: st) I1 R58 Q = am_ev d 158 254 [l0] (.ref (am_mk 71 0) :: st) I1 R59 Q := fun {d l0 st} => (s158_252 h58.2.1 ⟨by omega, o30⟩ ⟨rfl, by decide⟩ rfl (n0 h58 (by omega) o30 (by decide) (fun j => hz1 _ _ j (by decide) (by decide) (by decide)) hq _)).trans (by rw [e59])
  have u59 := un_od u58 (of_127 (p := 333 + 1) f59 (by omega)).1 op (by decide) (by omega)
  replace h59 : cr 364 R59 := h59
  obtain ⟨R60, e60, h60, d60, m60, u60, v60, x60⟩ := st_put h59 op (by decide) (by omega) u59 51 (am_mk 71 0) (by decide)
  replace h60 : cr 364 R60 := h60
  have c60 : cm R60 R60 := cm_rf
  have c59 := cm_tr m60 c60
  have c58 := cm_tr m59 c59
  have c57 := cm_tr m58 c58
  have c56 := cm_tr m57 c57
  have c55 := cm_tr m56 c56
  have c54 := cm_tr m55 c55
  have c53 := cm_tr m54 c54
  have c52 := cm_tr m53 c53
  have c51 := cm_tr m52 c52
  have c50 := cm_tr m51 c51
  have c49 := cm_tr m50 c50
  have c48 := cm_tr m49 c49
  have c47 := cm_tr m48 c48
  have c46 := cm_tr m47 c47
  have c45 := cm_tr m46 c46
  have c44 := cm_tr m45 c45
  have c43 := cm_tr m44 c44
  have c42 := cm_tr m43 c43
  have c41 := cm_tr m42 c42
  have c40 := cm_tr m41 c41
  have c39 := cm_tr m40 c40
  have c38 := cm_tr m39 c39
  have c37 := cm_tr m38 c38
  have c36 := cm_tr m37 c37
  have c35 := cm_tr m36 c36
  have c34 := cm_tr m35 c35
  have c33 := cm_tr m34 c34
  have c32 := cm_tr m33 c33
  have c31 := cm_tr m32 c32
  have c30 := cm_tr m31 c31
  have c29 := cm_tr m30 c30
  have c28 := cm_tr m29 c29
  have c27 := cm_tr m28 c28
  have c26 := cm_tr m27 c27
  have c25 := cm_tr m26 c26
  have c24 := cm_tr m25 c25
  have c23 := cm_tr m24 c24
  have c22 := cm_tr m23 c23
  have c21 := cm_tr m22 c22
  have c20 := cm_tr m21 c21
  have c19 := cm_tr m20 c20
  have c18 := cm_tr m19 c19
  have c17 := cm_tr m18 c18
  have c16 := cm_tr m17 c17
  have c15 := cm_tr m16 c16
  have c14 := cm_tr m15 c15
  have c13 := cm_tr m14 c14
  have c12 := cm_tr m13 c13
  have c11 := cm_tr m12 c12
  have c10 := cm_tr m11 c11
  have c9 := cm_tr m10 c10
  have c8 := cm_tr m9 c9
  have c7 := cm_tr m8 c8
  have c6 := cm_tr m7 c7
  have c5 := cm_tr m6 c6
  have c4 := cm_tr m5 c5
  have c3 := cm_tr m4 c4
  have c2 := cm_tr m3 c3
  have c1 := cm_tr m2 c2
  have c0 := cm_tr m1 c1
  refine ⟨I1, R60, ?_, h60, od_tr (od_tr (od_tr (od_tr (od_tr (od_tr (od_tr (od_tr (od_tr (od_tr (od_tr (od_tr (od_tr (od_tr (od_tr (od_tr (od_tr (od_tr (od_tr (od_tr (od_tr (od_tr (od_tr (od_tr (od_tr (od_tr (od_tr (od_tr (od_tr (od_tr (od_tr (od_tr (od_tr (od_tr (od_tr (od_tr (od_tr (od_tr (od_tr (od_tr (od_tr (od_tr (od_tr (od_tr (od_tr (od_tr (od_tr (od_tr (od_tr (od_tr (od_tr (od_tr (od_tr (od_tr (od_tr (od_tr (od_tr (od_tr (od_tr (d1) d2) d3) d4) d5) d6) d7) d8) d9) d10) d11) d12) d13) d14) d15) d16) d17) d18) d19) d20) d21) d22) d23) d24) d25) d26) d27) d28) d29) d30) d31) d32) d33) d34) d35) d36) d37) d38) d39) d40) d41) d42) d43) d44) d45) d46) d47) d48) d49) d50) d51) d52) d53) d54) d55) d56) d57) d58) d59) d60, c0, c2 _ _ _ _ (by decide) v2, c4 _ _ _ _ (by decide) v4, c6 _ _ _ _ (by decide) v6, c8 _ _ _ _ (by decide) v8, c10 _ _ _ _ (by decide) v10, c12 _ _ _ _ (by decide) v12, c14 _ _ _ _ (by decide) v14, c16 _ _ _ _ (by decide) v16, c18 _ _ _ _ (by decide) v18, c20 _ _ _ _ (by decide) v20, c22 _ _ _ _ (by decide) v22, c24 _ _ _ _ (by decide) v24, c26 _ _ _ _ (by decide) v26, c28 _ _ _ _ (by decide) v28, c30 _ _ _ _ (by decide) v30, c32 _ _ _ _ (by decide) v32, c34 _ _ _ _ (by decide) v34, c36 _ _ _ _ (by decide) v36, c38 _ _ _ _ (by decide) v38, c40 _ _ _ _ (by decide) v40, c42 _ _ _ _ (by decide) v42, c44 _ _ _ _ (by decide) v44, c46 _ _ _ _ (by decide) v46, c48 _ _ _ _ (by decide) v48, c50 _ _ _ _ (by decide) v50, c52 _ _ _ _ (by decide) v52, c54 _ _ _ _ (by decide) v54, c56 _ _ _ _ (by decide) v56, c58 _ _ _ _ (by decide) v58, c60 _ _ _ _ (by decide) v60, vI, xI⟩
  rw [s158]
  simp only [s158_0, s158_1, s158_4, s158_5, s158_10, s158_13, s158_14, s158_19, s158_22, s158_23, s158_28, s158_31, s158_32, s158_35, s158_38, s158_39, s158_42, s158_45, s158_46, s158_51, s158_54, s158_55, s158_60, s158_63, s158_64, s158_69, s158_72, s158_73, s158_77, s158_80, s158_81, s158_85, s158_88, s158_89, s158_93, s158_96, s158_97, s158_101, s158_104, s158_105, s158_109, s158_112, s158_113, s158_117, s158_120, s158_121, s158_125, s158_128, s158_129, s158_133, s158_136, s158_137, s158_141, s158_144, s158_145, s158_149, s158_152, s158_153, s158_158, s158_161, s158_162, s158_165, s158_168, s158_169, s158_170, s158_173, s158_174, s158_178, s158_181, s158_182, s158_187, s158_190, s158_191, s158_196, s158_199, s158_200, s158_204, s158_207, s158_208, s158_212, s158_215, s158_216, s158_220, s158_223, s158_224, s158_228, s158_231, s158_232, s158_236, s158_239, s158_240, s158_245, s158_248, s158_249, s158_254, s158_257, q1, e2, q3, e4, q5, e6, q7, e8, q9, e10, q11, e12, q13, e14, q15, e16, q17, e18, q19, e20, q21, e22, q23, e24, q25, e26, q27, e28, q29, e30, q31, e32, q33, e34, q35, e36, q37, e38, q39, e40, eI, q41, e42, q43, e44, q45, e46, q47, e48, q49, e50, q51, e52, q53, e54, q55, e56, q57, e58, q59, e60, am_th_some, tl_n, tl_s, rf_s]
