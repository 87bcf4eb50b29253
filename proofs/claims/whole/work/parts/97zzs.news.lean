/-! The constructors: those without loops. -/
theorem i_9 {d p k : Nat} {I : am_I} {R : am_R} {Q : am_Q} (hz : zI I) (hq : zQ Q) (op : am_ord p = am_mk 9 k) (o1 : am_ord (p + 1) = am_mk 19 k) (o2 : am_ord (p + 2) = am_mk 20 k) (o3 : am_ord (p + 3) = am_mk 21 k) (o4 : am_ord (p + 4) = am_mk 22 k) (hn : p + 4 < 365) (h0 : cr (p + 1) R) (u0 : un 9 k (fun _ => False) R) : ∃ R', am_cal d 74 [.ref (am_mk 9 k)] I R Q = some (none, I, R', Q) ∧ cr (p + 5) R' ∧ od (p) R R' ∧ cm R R' ∧ R' 9 k 0 = some (am_mk 19 k) ∧ R' 9 k 1 = some (am_mk 20 k) ∧ R' 9 k 2 = some (am_mk 21 k) ∧ R' 9 k 3 = some (am_mk 22 k) := by
  obtain ⟨R1, e1, h1, f1⟩ := st_new h0 (by omega)
  obtain ⟨d1, m1⟩ := of_127 (p := p) f1 (by omega)
  have q1 : ∀ {d : Nat} {l0 : Value} {st : List Value}, am_ev d 74 7 [l0] (.int (nI 25) :: st) I R Q = am_ev d 74 9 [l0] (.ref (am_mk 19 k) :: st) I R1 Q := fun {d l0 st} => (s74_7 h0.2.1 ⟨by omega, o1⟩ ⟨rfl, by decide⟩ rfl (n0 h0 (by omega) o1 (by decide) (fun j => hz _ _ j (by decide) (by decide) (by decide)) hq _)).trans (by rw [e1])
  have u1 := un_od u0 (of_127 (p := p + 1) f1 (by omega)).1 op (by decide) (by omega)
  obtain ⟨R2, e2, h2, d2, m2, u2, v2, x2⟩ := st_put h1 op (by decide) (by omega) u1 0 (am_mk 19 k) (by decide)
  obtain ⟨R3, e3, h3, f3⟩ := st_new h2 (by omega)
  obtain ⟨d3, m3⟩ := of_127 (p := p) f3 (by omega)
  have q3 : ∀ {d : Nat} {l0 : Value} {st : List Value}, am_ev d 74 15 [l0] (.int (nI 25) :: st) I R2 Q = am_ev d 74 17 [l0] (.ref (am_mk 20 k) :: st) I R3 Q := fun {d l0 st} => (s74_15 h2.2.1 ⟨by omega, o2⟩ ⟨rfl, by decide⟩ rfl (n0 h2 (by omega) o2 (by decide) (fun j => hz _ _ j (by decide) (by decide) (by decide)) hq _)).trans (by rw [e3])
  have u3 := un_od u2 (of_127 (p := p + 1) f3 (by omega)).1 op (by decide) (by omega)
  obtain ⟨R4, e4, h4, d4, m4, u4, v4, x4⟩ := st_put h3 op (by decide) (by omega) u3 1 (am_mk 20 k) (by decide)
  obtain ⟨R5, e5, h5, f5⟩ := st_new h4 (by omega)
  obtain ⟨d5, m5⟩ := of_127 (p := p) f5 (by omega)
  have q5 : ∀ {d : Nat} {l0 : Value} {st : List Value}, am_ev d 74 23 [l0] (.int (nI 25) :: st) I R4 Q = am_ev d 74 25 [l0] (.ref (am_mk 21 k) :: st) I R5 Q := fun {d l0 st} => (s74_23 h4.2.1 ⟨by omega, o3⟩ ⟨rfl, by decide⟩ rfl (n0 h4 (by omega) o3 (by decide) (fun j => hz _ _ j (by decide) (by decide) (by decide)) hq _)).trans (by rw [e5])
  have u5 := un_od u4 (of_127 (p := p + 1) f5 (by omega)).1 op (by decide) (by omega)
  obtain ⟨R6, e6, h6, d6, m6, u6, v6, x6⟩ := st_put h5 op (by decide) (by omega) u5 2 (am_mk 21 k) (by decide)
  obtain ⟨R7, e7, h7, f7⟩ := st_new h6 (by omega)
  obtain ⟨d7, m7⟩ := of_127 (p := p) f7 (by omega)
  have q7 : ∀ {d : Nat} {l0 : Value} {st : List Value}, am_ev d 74 31 [l0] (.int (nI 25) :: st) I R6 Q = am_ev d 74 33 [l0] (.ref (am_mk 22 k) :: st) I R7 Q := fun {d l0 st} => (s74_31 h6.2.1 ⟨by omega, o4⟩ ⟨rfl, by decide⟩ rfl (n0 h6 (by omega) o4 (by decide) (fun j => hz _ _ j (by decide) (by decide) (by decide)) hq _)).trans (by rw [e7])
  have u7 := un_od u6 (of_127 (p := p + 1) f7 (by omega)).1 op (by decide) (by omega)
  obtain ⟨R8, e8, h8, d8, m8, u8, v8, x8⟩ := st_put h7 op (by decide) (by omega) u7 3 (am_mk 22 k) (by decide)
  have c8 : cm R8 R8 := cm_rf
  have c7 := cm_tr m8 c8
  have c6 := cm_tr m7 c7
  have c5 := cm_tr m6 c6
  have c4 := cm_tr m5 c5
  have c3 := cm_tr m4 c4
  have c2 := cm_tr m3 c3
  have c1 := cm_tr m2 c2
  have c0 := cm_tr m1 c1
  refine ⟨R8, ?_, h8, od_tr (od_tr (od_tr (od_tr (od_tr (od_tr (od_tr (d1) d2) d3) d4) d5) d6) d7) d8, c0, c2 _ _ _ _ (by decide) v2, c4 _ _ _ _ (by decide) v4, c6 _ _ _ _ (by decide) v6, c8 _ _ _ _ (by decide) v8⟩
  rw [s74]
  simp only [s74_0, s74_1, s74_4, s74_5, s74_9, s74_12, s74_13, s74_17, s74_20, s74_21, s74_25, s74_28, s74_29, s74_33, s74_36, q1, e2, q3, e4, q5, e6, q7, e8, am_th_some, tl_n, tl_s, rf_s]
theorem i_10 {d : Nat} {I : am_I} {R : am_R} {Q : am_Q} (hz : zI I) (hq : zQ Q) (h0 : cr (2) R) (u0 : un 10 0 (fun _ => False) R) : ∃ R', am_cal d 87 [.ref (am_mk 10 0)] I R Q = some (none, I, R', Q) ∧ cr (3) R' ∧ od (1) R R' ∧ cm R R' ∧ R' 10 0 0 = some (am_mk 13 0) := by
  have op : am_ord 1 = am_mk 10 0 := rfl
  have o1 : am_ord 2 = am_mk 13 0 := rfl
  obtain ⟨R1, e1, h1, f1⟩ := st_new h0 (by decide)
  obtain ⟨d1, m1⟩ := of_127 (p := 1) f1 (by omega)
  have q1 : ∀ {d : Nat} {l0 : Value} {st : List Value}, am_ev d 87 8 [l0] (.int (nI 240) :: st) I R Q = am_ev d 87 10 [l0] (.ref (am_mk 13 0) :: st) I R1 Q := fun {d l0 st} => (s87_8 h0.2.1 ⟨by omega, o1⟩ ⟨rfl, by decide⟩ rfl (n0 h0 (by omega) o1 (by decide) (fun j => hz _ _ j (by decide) (by decide) (by decide)) hq _)).trans (by rw [e1])
  have u1 := un_od u0 (of_127 (p := 1 + 1) f1 (by omega)).1 op (by decide) (by omega)
  replace h1 : cr 3 R1 := h1
  obtain ⟨R2, e2, h2, d2, m2, u2, v2, x2⟩ := st_put h1 op (by decide) (by omega) u1 0 (am_mk 13 0) (by decide)
  replace h2 : cr 3 R2 := h2
  have c2 : cm R2 R2 := cm_rf
  have c1 := cm_tr m2 c2
  have c0 := cm_tr m1 c1
  refine ⟨R2, ?_, h2, od_tr (d1) d2, c0, c2 _ _ _ _ (by decide) v2⟩
  rw [s87]
  simp only [s87_0, s87_1, s87_4, s87_5, s87_10, s87_13, q1, e2, am_th_some, tl_n, tl_s, rf_s]
theorem i_3 {d p k : Nat} {I : am_I} {R : am_R} {Q : am_Q} (hz : zI I) (hq : zQ Q) (op : am_ord p = am_mk 3 k) (o1 : am_ord (p + 1) = am_mk 27 k) (o2 : am_ord (p + 2) = am_mk 28 k) (hn : p + 2 < 365) (h0 : cr (p + 1) R) (u0 : un 3 k (fun _ => False) R) : ∃ R', am_cal d 26 [.ref (am_mk 3 k)] I R Q = some (none, I, R', Q) ∧ cr (p + 3) R' ∧ od (p) R R' ∧ cm R R' ∧ R' 3 k 0 = some (am_mk 27 k) ∧ R' 3 k 2 = some (am_mk 28 k) := by
  obtain ⟨R1, e1, h1, f1⟩ := st_new h0 (by omega)
  obtain ⟨d1, m1⟩ := of_127 (p := p) f1 (by omega)
  have q1 : ∀ {d : Nat} {l0 : Value} {st : List Value}, am_ev d 26 8 [l0] (.int (nI 240) :: st) I R Q = am_ev d 26 10 [l0] (.ref (am_mk 27 k) :: st) I R1 Q := fun {d l0 st} => (s26_8 h0.2.1 ⟨by omega, o1⟩ ⟨rfl, by decide⟩ rfl (n0 h0 (by omega) o1 (by decide) (fun j => hz _ _ j (by decide) (by decide) (by decide)) hq _)).trans (by rw [e1])
  have u1 := un_od u0 (of_127 (p := p + 1) f1 (by omega)).1 op (by decide) (by omega)
  obtain ⟨R2, e2, h2, d2, m2, u2, v2, x2⟩ := st_put h1 op (by decide) (by omega) u1 0 (am_mk 27 k) (by decide)
  obtain ⟨R3, e3, h3, f3⟩ := st_new h2 (by omega)
  obtain ⟨d3, m3⟩ := of_127 (p := p) f3 (by omega)
  have q3 : ∀ {d : Nat} {l0 : Value} {st : List Value}, am_ev d 26 16 [l0] (.int (nI 64) :: st) I R2 Q = am_ev d 26 18 [l0] (.ref (am_mk 28 k) :: st) I R3 Q := fun {d l0 st} => (s26_16 h2.2.1 ⟨by omega, o2⟩ ⟨rfl, by decide⟩ rfl (n0 h2 (by omega) o2 (by decide) (fun j => hz _ _ j (by decide) (by decide) (by decide)) hq _)).trans (by rw [e3])
  have u3 := un_od u2 (of_127 (p := p + 1) f3 (by omega)).1 op (by decide) (by omega)
  obtain ⟨R4, e4, h4, d4, m4, u4, v4, x4⟩ := st_put h3 op (by decide) (by omega) u3 2 (am_mk 28 k) (by decide)
  have c4 : cm R4 R4 := cm_rf
  have c3 := cm_tr m4 c4
  have c2 := cm_tr m3 c3
  have c1 := cm_tr m2 c2
  have c0 := cm_tr m1 c1
  refine ⟨R4, ?_, h4, od_tr (od_tr (od_tr (d1) d2) d3) d4, c0, c2 _ _ _ _ (by decide) v2, c4 _ _ _ _ (by decide) v4⟩
  rw [s26]
  simp only [s26_0, s26_1, s26_4, s26_5, s26_10, s26_13, s26_14, s26_18, s26_21, q1, e2, q3, e4, am_th_some, tl_n, tl_s, rf_s]
theorem i_5 {d p k : Nat} {I : am_I} {R : am_R} {Q : am_Q} (hz : zI I) (hq : zQ Q) (op : am_ord p = am_mk 5 k) (o1 : am_ord (p + 1) = am_mk 35 k) (o2 : am_ord (p + 2) = am_mk 36 k) (o3 : am_ord (p + 3) = am_mk 37 k) (hn : p + 3 < 365) (h0 : cr (p + 1) R) (u0 : un 5 k (fun _ => False) R) : ∃ R', am_cal d 44 [.ref (am_mk 5 k)] I R Q = some (none, I, R', Q) ∧ cr (p + 4) R' ∧ od (p) R R' ∧ cm R R' ∧ R' 5 k 0 = some (am_mk 35 k) ∧ R' 5 k 1 = some (am_mk 36 k) ∧ R' 5 k 2 = some (am_mk 37 k) := by
  obtain ⟨R1, e1, h1, f1⟩ := st_new h0 (by omega)
  obtain ⟨d1, m1⟩ := of_127 (p := p) f1 (by omega)
  have q1 : ∀ {d : Nat} {l0 : Value} {st : List Value}, am_ev d 44 7 [l0] (.int (nI 100) :: st) I R Q = am_ev d 44 9 [l0] (.ref (am_mk 35 k) :: st) I R1 Q := fun {d l0 st} => (s44_7 h0.2.1 ⟨by omega, o1⟩ ⟨rfl, by decide⟩ rfl (n0 h0 (by omega) o1 (by decide) (fun j => hz _ _ j (by decide) (by decide) (by decide)) hq _)).trans (by rw [e1])
  have u1 := un_od u0 (of_127 (p := p + 1) f1 (by omega)).1 op (by decide) (by omega)
  obtain ⟨R2, e2, h2, d2, m2, u2, v2, x2⟩ := st_put h1 op (by decide) (by omega) u1 0 (am_mk 35 k) (by decide)
  obtain ⟨R3, e3, h3, f3⟩ := st_new h2 (by omega)
  obtain ⟨d3, m3⟩ := of_127 (p := p) f3 (by omega)
  have q3 : ∀ {d : Nat} {l0 : Value} {st : List Value}, am_ev d 44 15 [l0] (.int (nI 100) :: st) I R2 Q = am_ev d 44 17 [l0] (.ref (am_mk 36 k) :: st) I R3 Q := fun {d l0 st} => (s44_15 h2.2.1 ⟨by omega, o2⟩ ⟨rfl, by decide⟩ rfl (n0 h2 (by omega) o2 (by decide) (fun j => hz _ _ j (by decide) (by decide) (by decide)) hq _)).trans (by rw [e3])
  have u3 := un_od u2 (of_127 (p := p + 1) f3 (by omega)).1 op (by decide) (by omega)
  obtain ⟨R4, e4, h4, d4, m4, u4, v4, x4⟩ := st_put h3 op (by decide) (by omega) u3 1 (am_mk 36 k) (by decide)
  obtain ⟨R5, e5, h5, f5⟩ := st_new h4 (by omega)
  obtain ⟨d5, m5⟩ := of_127 (p := p) f5 (by omega)
  have q5 : ∀ {d : Nat} {l0 : Value} {st : List Value}, am_ev d 44 23 [l0] (.int (nI 100) :: st) I R4 Q = am_ev d 44 25 [l0] (.ref (am_mk 37 k) :: st) I R5 Q := fun {d l0 st} => (s44_23 h4.2.1 ⟨by omega, o3⟩ ⟨rfl, by decide⟩ rfl (n0 h4 (by omega) o3 (by decide) (fun j => hz _ _ j (by decide) (by decide) (by decide)) hq _)).trans (by rw [e5])
  have u5 := un_od u4 (of_127 (p := p + 1) f5 (by omega)).1 op (by decide) (by omega)
  obtain ⟨R6, e6, h6, d6, m6, u6, v6, x6⟩ := st_put h5 op (by decide) (by omega) u5 2 (am_mk 37 k) (by decide)
  have c6 : cm R6 R6 := cm_rf
  have c5 := cm_tr m6 c6
  have c4 := cm_tr m5 c5
  have c3 := cm_tr m4 c4
  have c2 := cm_tr m3 c3
  have c1 := cm_tr m2 c2
  have c0 := cm_tr m1 c1
  refine ⟨R6, ?_, h6, od_tr (od_tr (od_tr (od_tr (od_tr (d1) d2) d3) d4) d5) d6, c0, c2 _ _ _ _ (by decide) v2, c4 _ _ _ _ (by decide) v4, c6 _ _ _ _ (by decide) v6⟩
  rw [s44]
  simp only [s44_0, s44_1, s44_4, s44_5, s44_9, s44_12, s44_13, s44_17, s44_20, s44_21, s44_25, s44_28, q1, e2, q3, e4, q5, e6, am_th_some, tl_n, tl_s, rf_s]
theorem i_8 {d p k : Nat} {I : am_I} {R : am_R} {Q : am_Q} (hz : zI I) (hq : zQ Q) (op : am_ord p = am_mk 8 k) (o1 : am_ord (p + 1) = am_mk 38 k) (o2 : am_ord (p + 2) = am_mk 39 k) (o3 : am_ord (p + 3) = am_mk 40 k) (o4 : am_ord (p + 4) = am_mk 41 k) (hn : p + 4 < 365) (h0 : cr (p + 1) R) (u0 : un 8 k (fun _ => False) R) : ∃ R', am_cal d 67 [.ref (am_mk 8 k)] I R Q = some (none, I, R', Q) ∧ cr (p + 5) R' ∧ od (p) R R' ∧ cm R R' ∧ R' 8 k 0 = some (am_mk 38 k) ∧ R' 8 k 1 = some (am_mk 39 k) ∧ R' 8 k 2 = some (am_mk 40 k) ∧ R' 8 k 3 = some (am_mk 41 k) := by
  obtain ⟨R1, e1, h1, f1⟩ := st_new h0 (by omega)
  obtain ⟨d1, m1⟩ := of_127 (p := p) f1 (by omega)
  have q1 : ∀ {d : Nat} {l0 : Value} {st : List Value}, am_ev d 67 7 [l0] (.int (nI 10) :: st) I R Q = am_ev d 67 9 [l0] (.ref (am_mk 38 k) :: st) I R1 Q := fun {d l0 st} => (s67_7 h0.2.1 ⟨by omega, o1⟩ ⟨rfl, by decide⟩ rfl (n0 h0 (by omega) o1 (by decide) (fun j => hz _ _ j (by decide) (by decide) (by decide)) hq _)).trans (by rw [e1])
  have u1 := un_od u0 (of_127 (p := p + 1) f1 (by omega)).1 op (by decide) (by omega)
  obtain ⟨R2, e2, h2, d2, m2, u2, v2, x2⟩ := st_put h1 op (by decide) (by omega) u1 0 (am_mk 38 k) (by decide)
  obtain ⟨R3, e3, h3, f3⟩ := st_new h2 (by omega)
  obtain ⟨d3, m3⟩ := of_127 (p := p) f3 (by omega)
  have q3 : ∀ {d : Nat} {l0 : Value} {st : List Value}, am_ev d 67 15 [l0] (.int (nI 10) :: st) I R2 Q = am_ev d 67 17 [l0] (.ref (am_mk 39 k) :: st) I R3 Q := fun {d l0 st} => (s67_15 h2.2.1 ⟨by omega, o2⟩ ⟨rfl, by decide⟩ rfl (n0 h2 (by omega) o2 (by decide) (fun j => hz _ _ j (by decide) (by decide) (by decide)) hq _)).trans (by rw [e3])
  have u3 := un_od u2 (of_127 (p := p + 1) f3 (by omega)).1 op (by decide) (by omega)
  obtain ⟨R4, e4, h4, d4, m4, u4, v4, x4⟩ := st_put h3 op (by decide) (by omega) u3 1 (am_mk 39 k) (by decide)
  obtain ⟨R5, e5, h5, f5⟩ := st_new h4 (by omega)
  obtain ⟨d5, m5⟩ := of_127 (p := p) f5 (by omega)
  have q5 : ∀ {d : Nat} {l0 : Value} {st : List Value}, am_ev d 67 23 [l0] (.int (nI 10) :: st) I R4 Q = am_ev d 67 25 [l0] (.ref (am_mk 40 k) :: st) I R5 Q := fun {d l0 st} => (s67_23 h4.2.1 ⟨by omega, o3⟩ ⟨rfl, by decide⟩ rfl (n0 h4 (by omega) o3 (by decide) (fun j => hz _ _ j (by decide) (by decide) (by decide)) hq _)).trans (by rw [e5])
  have u5 := un_od u4 (of_127 (p := p + 1) f5 (by omega)).1 op (by decide) (by omega)
  obtain ⟨R6, e6, h6, d6, m6, u6, v6, x6⟩ := st_put h5 op (by decide) (by omega) u5 2 (am_mk 40 k) (by decide)
  obtain ⟨R7, e7, h7, f7⟩ := st_new h6 (by omega)
  obtain ⟨d7, m7⟩ := of_127 (p := p) f7 (by omega)
  have q7 : ∀ {d : Nat} {l0 : Value} {st : List Value}, am_ev d 67 31 [l0] (.int (nI 25) :: st) I R6 Q = am_ev d 67 33 [l0] (.ref (am_mk 41 k) :: st) I R7 Q := fun {d l0 st} => (s67_31 h6.2.1 ⟨by omega, o4⟩ ⟨rfl, by decide⟩ rfl (n0 h6 (by omega) o4 (by decide) (fun j => hz _ _ j (by decide) (by decide) (by decide)) hq _)).trans (by rw [e7])
  have u7 := un_od u6 (of_127 (p := p + 1) f7 (by omega)).1 op (by decide) (by omega)
  obtain ⟨R8, e8, h8, d8, m8, u8, v8, x8⟩ := st_put h7 op (by decide) (by omega) u7 3 (am_mk 41 k) (by decide)
  have c8 : cm R8 R8 := cm_rf
  have c7 := cm_tr m8 c8
  have c6 := cm_tr m7 c7
  have c5 := cm_tr m6 c6
  have c4 := cm_tr m5 c5
  have c3 := cm_tr m4 c4
  have c2 := cm_tr m3 c3
  have c1 := cm_tr m2 c2
  have c0 := cm_tr m1 c1
  refine ⟨R8, ?_, h8, od_tr (od_tr (od_tr (od_tr (od_tr (od_tr (od_tr (d1) d2) d3) d4) d5) d6) d7) d8, c0, c2 _ _ _ _ (by decide) v2, c4 _ _ _ _ (by decide) v4, c6 _ _ _ _ (by decide) v6, c8 _ _ _ _ (by decide) v8⟩
  rw [s67]
  simp only [s67_0, s67_1, s67_4, s67_5, s67_9, s67_12, s67_13, s67_17, s67_20, s67_21, s67_25, s67_28, s67_29, s67_33, s67_36, q1, e2, q3, e4, q5, e6, q7, e8, am_th_some, tl_n, tl_s, rf_s]
theorem i_6 {d p k : Nat} {I : am_I} {R : am_R} {Q : am_Q} (hz : zI I) (hq : zQ Q) (op : am_ord p = am_mk 6 k) (o1 : am_ord (p + 1) = am_mk 14 k) (o2 : am_ord (p + 2) = am_mk 15 k) (o3 : am_ord (p + 3) = am_mk 16 k) (o4 : am_ord (p + 4) = am_mk 17 k) (o5 : am_ord (p + 5) = am_mk 18 k) (o6 : am_ord (p + 6) = am_mk 9 k) (o7 : am_ord (p + 7) = am_mk 19 k) (o8 : am_ord (p + 8) = am_mk 20 k) (o9 : am_ord (p + 9) = am_mk 21 k) (o10 : am_ord (p + 10) = am_mk 22 k) (hn : p + 10 < 365) (h0 : cr (p + 1) R) (u0 : un 6 k (fun _ => False) R) : ∃ R', am_cal (d + 1) 48 [.ref (am_mk 6 k)] I R Q = some (none, I, R', Q) ∧ cr (p + 11) R' ∧ od (p) R R' ∧ cm R R' ∧ R' 6 k 0 = some (am_mk 14 k) ∧ R' 6 k 1 = some (am_mk 15 k) ∧ R' 6 k 2 = some (am_mk 16 k) ∧ R' 6 k 3 = some (am_mk 17 k) ∧ R' 6 k 4 = some (am_mk 18 k) ∧ R' 9 k 0 = some (am_mk 19 k) ∧ R' 9 k 1 = some (am_mk 20 k) ∧ R' 9 k 2 = some (am_mk 21 k) ∧ R' 9 k 3 = some (am_mk 22 k) ∧ R' 6 k 6 = some (am_mk 9 k) := by
  obtain ⟨R1, e1, h1, f1⟩ := st_new h0 (by omega)
  obtain ⟨d1, m1⟩ := of_127 (p := p) f1 (by omega)
  have q1 : ∀ {d : Nat} {l0 : Value} {st : List Value}, am_ev d 48 7 [l0] (.int (nI 6) :: st) I R Q = am_ev d 48 9 [l0] (.ref (am_mk 14 k) :: st) I R1 Q := fun {d l0 st} => (s48_7 h0.2.1 ⟨by omega, o1⟩ ⟨rfl, by decide⟩ rfl (n0 h0 (by omega) o1 (by decide) (fun j => hz _ _ j (by decide) (by decide) (by decide)) hq _)).trans (by rw [e1])
  have u1 := un_od u0 (of_127 (p := p + 1) f1 (by omega)).1 op (by decide) (by omega)
  obtain ⟨R2, e2, h2, d2, m2, u2, v2, x2⟩ := st_put h1 op (by decide) (by omega) u1 0 (am_mk 14 k) (by decide)
  obtain ⟨R3, e3, h3, f3⟩ := st_new h2 (by omega)
  obtain ⟨d3, m3⟩ := of_127 (p := p) f3 (by omega)
  have q3 : ∀ {d : Nat} {l0 : Value} {st : List Value}, am_ev d 48 15 [l0] (.int (nI 25) :: st) I R2 Q = am_ev d 48 17 [l0] (.ref (am_mk 15 k) :: st) I R3 Q := fun {d l0 st} => (s48_15 h2.2.1 ⟨by omega, o2⟩ ⟨rfl, by decide⟩ rfl (n0 h2 (by omega) o2 (by decide) (fun j => hz _ _ j (by decide) (by decide) (by decide)) hq _)).trans (by rw [e3])
  have u3 := un_od u2 (of_127 (p := p + 1) f3 (by omega)).1 op (by decide) (by omega)
  obtain ⟨R4, e4, h4, d4, m4, u4, v4, x4⟩ := st_put h3 op (by decide) (by omega) u3 1 (am_mk 15 k) (by decide)
  obtain ⟨R5, e5, h5, f5⟩ := st_new h4 (by omega)
  obtain ⟨d5, m5⟩ := of_127 (p := p) f5 (by omega)
  have q5 : ∀ {d : Nat} {l0 : Value} {st : List Value}, am_ev d 48 23 [l0] (.int (nI 100) :: st) I R4 Q = am_ev d 48 25 [l0] (.ref (am_mk 16 k) :: st) I R5 Q := fun {d l0 st} => (s48_23 h4.2.1 ⟨by omega, o3⟩ ⟨rfl, by decide⟩ rfl (n0 h4 (by omega) o3 (by decide) (fun j => hz _ _ j (by decide) (by decide) (by decide)) hq _)).trans (by rw [e5])
  have u5 := un_od u4 (of_127 (p := p + 1) f5 (by omega)).1 op (by decide) (by omega)
  obtain ⟨R6, e6, h6, d6, m6, u6, v6, x6⟩ := st_put h5 op (by decide) (by omega) u5 2 (am_mk 16 k) (by decide)
  obtain ⟨R7, e7, h7, f7⟩ := st_new h6 (by omega)
  obtain ⟨d7, m7⟩ := of_127 (p := p) f7 (by omega)
  have q7 : ∀ {d : Nat} {l0 : Value} {st : List Value}, am_ev d 48 31 [l0] (.int (nI 6) :: st) I R6 Q = am_ev d 48 33 [l0] (.ref (am_mk 17 k) :: st) I R7 Q := fun {d l0 st} => (s48_31 h6.2.1 ⟨by omega, o4⟩ ⟨rfl, by decide⟩ rfl (n0 h6 (by omega) o4 (by decide) (fun j => hz _ _ j (by decide) (by decide) (by decide)) hq _)).trans (by rw [e7])
  have u7 := un_od u6 (of_127 (p := p + 1) f7 (by omega)).1 op (by decide) (by omega)
  obtain ⟨R8, e8, h8, d8, m8, u8, v8, x8⟩ := st_put h7 op (by decide) (by omega) u7 3 (am_mk 17 k) (by decide)
  obtain ⟨R9, e9, h9, f9⟩ := st_new h8 (by omega)
  obtain ⟨d9, m9⟩ := of_127 (p := p) f9 (by omega)
  have q9 : ∀ {d : Nat} {l0 : Value} {st : List Value}, am_ev d 48 39 [l0] (.int (nI 6) :: st) I R8 Q = am_ev d 48 41 [l0] (.ref (am_mk 18 k) :: st) I R9 Q := fun {d l0 st} => (s48_39 h8.2.1 ⟨by omega, o5⟩ ⟨rfl, by decide⟩ rfl (n0 h8 (by omega) o5 (by decide) (fun j => hz _ _ j (by decide) (by decide) (by decide)) hq _)).trans (by rw [e9])
  have u9 := un_od u8 (of_127 (p := p + 1) f9 (by omega)).1 op (by decide) (by omega)
  obtain ⟨R10, e10, h10, d10, m10, u10, v10, x10⟩ := st_put h9 op (by decide) (by omega) u9 4 (am_mk 18 k) (by decide)
  obtain ⟨R11, e11, h11, f11⟩ := st_new h10 (by omega)
  obtain ⟨d11, m11⟩ := of_127 (p := p) f11 (by omega)
  have q11 : ∀ {d : Nat} {l0 : Value} {st : List Value}, am_ev d 48 45 [l0] st I R10 Q = am_ev d 48 48 [l0] (.ref (am_mk 9 k) :: st) I R11 Q := fun {d l0 st} => (s48_45 h10.2.1 ⟨by omega, o6⟩ (n0 h10 (by omega) o6 (by decide) (fun j => hz _ _ j (by decide) (by decide) (by decide)) hq _)).trans (by rw [e11])
  have w11 := un_new h10 (by omega) o6 (by decide) f11
  have u11 := un_od u10 (of_127 (p := p + 1) f11 (by omega)).1 op (by decide) (by omega)
  obtain ⟨R12, g12, h12, d12, m12, w12_0, w12_1, w12_2, w12_3⟩ := i_9 (d := d) (p := p + 6) (k := k) (I := I) (Q := Q) hz hq o6 o7 o8 o9 o10 (by omega) h11 w11
  replace d12 := od_mo (q := p + 1) d12 (by omega)
  have u12 := un_od u11 d12 op (by decide) (by omega)
  replace d12 := od_mo (q := p) d12 (by omega)
  obtain ⟨R13, e13, h13, d13, m13, u13, v13, x13⟩ := st_put h12 op (by decide) (by omega) u12 6 (am_mk 9 k) (by decide)
  have c13 : cm R13 R13 := cm_rf
  have c12 := cm_tr m13 c13
  have c11 := cm_tr m12 c12
  have c10 := cm_tr m11 c11
  have c9 := cm_tr m10 c10
  have c8 := cm_tr m9 c9
  have c7 := cm_tr m8 c8
  have c6 := cm_tr m7 c7
  have c5 := cm_tr m6 c6
  have c4 := cm_tr m5 c5
  have c3 := cm_tr m4 c4
  have c2 := cm_tr m3 c3
  have c1 := cm_tr m2 c2
  have c0 := cm_tr m1 c1
  refine ⟨R13, ?_, h13, od_tr (od_tr (od_tr (od_tr (od_tr (od_tr (od_tr (od_tr (od_tr (od_tr (od_tr (od_tr (d1) d2) d3) d4) d5) d6) d7) d8) d9) d10) d11) d12) d13, c0, c2 _ _ _ _ (by decide) v2, c4 _ _ _ _ (by decide) v4, c6 _ _ _ _ (by decide) v6, c8 _ _ _ _ (by decide) v8, c10 _ _ _ _ (by decide) v10, c12 _ _ _ _ (by decide) w12_0, c12 _ _ _ _ (by decide) w12_1, c12 _ _ _ _ (by decide) w12_2, c12 _ _ _ _ (by decide) w12_3, c13 _ _ _ _ (by decide) v13⟩
  rw [s48]
  simp only [s48_0, s48_1, s48_4, s48_5, s48_9, s48_12, s48_13, s48_17, s48_20, s48_21, s48_25, s48_28, s48_29, s48_33, s48_36, s48_37, s48_41, s48_44, s48_48, s48_49, s48_52, s48_55, q1, e2, q3, e4, q5, e6, q7, e8, q9, e10, q11, g12, e13, am_th_some, tl_n, tl_s, rf_s]
theorem i_7 {d : Nat} {I : am_I} {R : am_R} {Q : am_Q} {T : Nat} (hz : zI I) (hq : zQ Q) (h0 : cr (4) R) (u0 : un 7 0 (fun _ => False) R) : ∃ R', am_cal (d + 2) 58 [.ref (am_mk 7 0), .ref T] I R Q = some (none, I, R', Q) ∧ cr (19) R' ∧ od (3) R R' ∧ cm R R' ∧ R' 6 0 0 = some (am_mk 14 0) ∧ R' 6 0 1 = some (am_mk 15 0) ∧ R' 6 0 2 = some (am_mk 16 0) ∧ R' 6 0 3 = some (am_mk 17 0) ∧ R' 6 0 4 = some (am_mk 18 0) ∧ R' 9 0 0 = some (am_mk 19 0) ∧ R' 9 0 1 = some (am_mk 20 0) ∧ R' 9 0 2 = some (am_mk 21 0) ∧ R' 9 0 3 = some (am_mk 22 0) ∧ R' 6 0 6 = some (am_mk 9 0) ∧ R' 7 0 1 = some (am_mk 6 0) ∧ R' 7 0 2 = some (am_mk 23 0) ∧ R' 7 0 3 = some (am_mk 24 0) ∧ R' 7 0 4 = some (am_mk 25 0) ∧ R' 7 0 5 = some (am_mk 26 0) ∧ R' 7 0 0 = some (T) := by
  have op : am_ord 3 = am_mk 7 0 := rfl
  have o1 : am_ord 4 = am_mk 6 0 := rfl
  have o2 : am_ord 5 = am_mk 14 0 := rfl
  have o3 : am_ord 6 = am_mk 15 0 := rfl
  have o4 : am_ord 7 = am_mk 16 0 := rfl
  have o5 : am_ord 8 = am_mk 17 0 := rfl
  have o6 : am_ord 9 = am_mk 18 0 := rfl
  have o7 : am_ord 10 = am_mk 9 0 := rfl
  have o8 : am_ord 11 = am_mk 19 0 := rfl
  have o9 : am_ord 12 = am_mk 20 0 := rfl
  have o10 : am_ord 13 = am_mk 21 0 := rfl
  have o11 : am_ord 14 = am_mk 22 0 := rfl
  have o12 : am_ord 15 = am_mk 23 0 := rfl
  have o13 : am_ord 16 = am_mk 24 0 := rfl
  have o14 : am_ord 17 = am_mk 25 0 := rfl
  have o15 : am_ord 18 = am_mk 26 0 := rfl
  obtain ⟨R1, e1, h1, f1⟩ := st_new h0 (by decide)
  obtain ⟨d1, m1⟩ := of_127 (p := 3) f1 (by omega)
  have q1 : ∀ {d : Nat} {l0 l1 : Value} {st : List Value}, am_ev d 58 5 [l0, l1] st I R Q = am_ev d 58 8 [l0, l1] (.ref (am_mk 6 0) :: st) I R1 Q := fun {d l0 l1 st} => (s58_5 h0.2.1 ⟨by omega, o1⟩ (n0 h0 (by omega) o1 (by decide) (fun j => hz _ _ j (by decide) (by decide) (by decide)) hq _)).trans (by rw [e1])
  have w1 := un_new h0 (by omega) o1 (by decide) f1
  have u1 := un_od u0 (of_127 (p := 3 + 1) f1 (by omega)).1 op (by decide) (by omega)
  replace h1 : cr 5 R1 := h1
  obtain ⟨R2, g2, h2, d2, m2, w2_0, w2_1, w2_2, w2_3, w2_4, w2_5, w2_6, w2_7, w2_8, w2_9⟩ := i_6 (d := d) (p := 4) (k := 0) (I := I) (Q := Q) hz hq o1 o2 o3 o4 o5 o6 o7 o8 o9 o10 o11 (by omega) h1 w1
  replace d2 := od_mo (q := 3 + 1) d2 (by omega)
  have u2 := un_od u1 d2 op (by decide) (by omega)
  replace d2 := od_mo (q := 3) d2 (by omega)
  replace h2 : cr 15 R2 := h2
  obtain ⟨R3, e3, h3, d3, m3, u3, v3, x3⟩ := st_put h2 op (by decide) (by omega) u2 1 (am_mk 6 0) (by decide)
  replace h3 : cr 15 R3 := h3
  obtain ⟨R4, e4, h4, f4⟩ := st_new h3 (by decide)
  obtain ⟨d4, m4⟩ := of_127 (p := 3) f4 (by omega)
  have q4 : ∀ {d : Nat} {l0 l1 : Value} {st : List Value}, am_ev d 58 17 [l0, l1] (.int (nI 4) :: st) I R3 Q = am_ev d 58 19 [l0, l1] (.ref (am_mk 23 0) :: st) I R4 Q := fun {d l0 l1 st} => (s58_17 h3.2.1 ⟨by omega, o12⟩ ⟨rfl, by decide⟩ rfl (n0 h3 (by omega) o12 (by decide) (fun j => hz _ _ j (by decide) (by decide) (by decide)) hq _)).trans (by rw [e4])
  have u4 := un_od u3 (of_127 (p := 3 + 1) f4 (by omega)).1 op (by decide) (by omega)
  replace h4 : cr 16 R4 := h4
  obtain ⟨R5, e5, h5, d5, m5, u5, v5, x5⟩ := st_put h4 op (by decide) (by omega) u4 2 (am_mk 23 0) (by decide)
  replace h5 : cr 16 R5 := h5
  obtain ⟨R6, e6, h6, f6⟩ := st_new h5 (by decide)
  obtain ⟨d6, m6⟩ := of_127 (p := 3) f6 (by omega)
  have q6 : ∀ {d : Nat} {l0 l1 : Value} {st : List Value}, am_ev d 58 25 [l0, l1] (.int (nI 14) :: st) I R5 Q = am_ev d 58 27 [l0, l1] (.ref (am_mk 24 0) :: st) I R6 Q := fun {d l0 l1 st} => (s58_25 h5.2.1 ⟨by omega, o13⟩ ⟨rfl, by decide⟩ rfl (n0 h5 (by omega) o13 (by decide) (fun j => hz _ _ j (by decide) (by decide) (by decide)) hq _)).trans (by rw [e6])
  have u6 := un_od u5 (of_127 (p := 3 + 1) f6 (by omega)).1 op (by decide) (by omega)
  replace h6 : cr 17 R6 := h6
  obtain ⟨R7, e7, h7, d7, m7, u7, v7, x7⟩ := st_put h6 op (by decide) (by omega) u6 3 (am_mk 24 0) (by decide)
  replace h7 : cr 17 R7 := h7
  obtain ⟨R8, e8, h8, f8⟩ := st_new h7 (by decide)
  obtain ⟨d8, m8⟩ := of_127 (p := 3) f8 (by omega)
  have q8 : ∀ {d : Nat} {l0 l1 : Value} {st : List Value}, am_ev d 58 33 [l0, l1] (.int (nI 14) :: st) I R7 Q = am_ev d 58 35 [l0, l1] (.ref (am_mk 25 0) :: st) I R8 Q := fun {d l0 l1 st} => (s58_33 h7.2.1 ⟨by omega, o14⟩ ⟨rfl, by decide⟩ rfl (n0 h7 (by omega) o14 (by decide) (fun j => hz _ _ j (by decide) (by decide) (by decide)) hq _)).trans (by rw [e8])
  have u8 := un_od u7 (of_127 (p := 3 + 1) f8 (by omega)).1 op (by decide) (by omega)
  replace h8 : cr 18 R8 := h8
  obtain ⟨R9, e9, h9, d9, m9, u9, v9, x9⟩ := st_put h8 op (by decide) (by omega) u8 4 (am_mk 25 0) (by decide)
  replace h9 : cr 18 R9 := h9
  obtain ⟨R10, e10, h10, f10⟩ := st_new h9 (by decide)
  obtain ⟨d10, m10⟩ := of_127 (p := 3) f10 (by omega)
  have q10 : ∀ {d : Nat} {l0 l1 : Value} {st : List Value}, am_ev d 58 41 [l0, l1] (.int (nI 25) :: st) I R9 Q = am_ev d 58 43 [l0, l1] (.ref (am_mk 26 0) :: st) I R10 Q := fun {d l0 l1 st} => (s58_41 h9.2.1 ⟨by omega, o15⟩ ⟨rfl, by decide⟩ rfl (n0 h9 (by omega) o15 (by decide) (fun j => hz _ _ j (by decide) (by decide) (by decide)) hq _)).trans (by rw [e10])
  have u10 := un_od u9 (of_127 (p := 3 + 1) f10 (by omega)).1 op (by decide) (by omega)
  replace h10 : cr 19 R10 := h10
  obtain ⟨R11, e11, h11, d11, m11, u11, v11, x11⟩ := st_put h10 op (by decide) (by omega) u10 5 (am_mk 26 0) (by decide)
  replace h11 : cr 19 R11 := h11
  obtain ⟨R12, e12, h12, d12, m12, u12, v12, x12⟩ := st_put h11 op (by decide) (by omega) u11 0 (T) (by decide)
  replace h12 : cr 19 R12 := h12
  have c12 : cm R12 R12 := cm_rf
  have c11 := cm_tr m12 c12
  have c10 := cm_tr m11 c11
  have c9 := cm_tr m10 c10
  have c8 := cm_tr m9 c9
  have c7 := cm_tr m8 c8
  have c6 := cm_tr m7 c7
  have c5 := cm_tr m6 c6
  have c4 := cm_tr m5 c5
  have c3 := cm_tr m4 c4
  have c2 := cm_tr m3 c3
  have c1 := cm_tr m2 c2
  have c0 := cm_tr m1 c1
  refine ⟨R12, ?_, h12, od_tr (od_tr (od_tr (od_tr (od_tr (od_tr (od_tr (od_tr (od_tr (od_tr (od_tr (d1) d2) d3) d4) d5) d6) d7) d8) d9) d10) d11) d12, c0, c2 _ _ _ _ (by decide) w2_0, c2 _ _ _ _ (by decide) w2_1, c2 _ _ _ _ (by decide) w2_2, c2 _ _ _ _ (by decide) w2_3, c2 _ _ _ _ (by decide) w2_4, c2 _ _ _ _ (by decide) w2_5, c2 _ _ _ _ (by decide) w2_6, c2 _ _ _ _ (by decide) w2_7, c2 _ _ _ _ (by decide) w2_8, c2 _ _ _ _ (by decide) w2_9, c3 _ _ _ _ (by decide) v3, c5 _ _ _ _ (by decide) v5, c7 _ _ _ _ (by decide) v7, c9 _ _ _ _ (by decide) v9, c11 _ _ _ _ (by decide) v11, c12 _ _ _ _ (by decide) v12⟩
  rw [s58]
  simp only [s58_0, s58_1, s58_4, s58_8, s58_9, s58_12, s58_15, s58_16, s58_19, s58_22, s58_23, s58_27, s58_30, s58_31, s58_35, s58_38, s58_39, s58_43, s58_46, s58_47, s58_48, s58_51, q1, g2, e3, q4, e5, q6, e7, q8, e9, q10, e11, e12, am_th_some, tl_n, tl_s, rf_s]
theorem i_4 {d : Nat} {I : am_I} {R : am_R} {Q : am_Q} {T : Nat} (hz : zI I) (hq : zQ Q) (h0 : cr (20) R) (u0 : un 4 0 (fun _ => False) R) : ∃ R', am_cal (d + 1) 34 [.ref (am_mk 4 0), .ref T] I R Q = some (none, I, R', Q) ∧ cr (23) R' ∧ od (19) R R' ∧ cm R R' ∧ R' 3 0 0 = some (am_mk 27 0) ∧ R' 3 0 2 = some (am_mk 28 0) ∧ R' 4 0 1 = some (am_mk 3 0) ∧ R' 4 0 0 = some (T) := by
  have op : am_ord 19 = am_mk 4 0 := rfl
  have o1 : am_ord 20 = am_mk 3 0 := rfl
  have o2 : am_ord 21 = am_mk 27 0 := rfl
  have o3 : am_ord 22 = am_mk 28 0 := rfl
  obtain ⟨R1, e1, h1, f1⟩ := st_new h0 (by decide)
  obtain ⟨d1, m1⟩ := of_127 (p := 19) f1 (by omega)
  have q1 : ∀ {d : Nat} {l0 l1 : Value} {st : List Value}, am_ev d 34 5 [l0, l1] st I R Q = am_ev d 34 8 [l0, l1] (.ref (am_mk 3 0) :: st) I R1 Q := fun {d l0 l1 st} => (s34_5 h0.2.1 ⟨by omega, o1⟩ (n0 h0 (by omega) o1 (by decide) (fun j => hz _ _ j (by decide) (by decide) (by decide)) hq _)).trans (by rw [e1])
  have w1 := un_new h0 (by omega) o1 (by decide) f1
  have u1 := un_od u0 (of_127 (p := 19 + 1) f1 (by omega)).1 op (by decide) (by omega)
  replace h1 : cr 21 R1 := h1
  obtain ⟨R2, g2, h2, d2, m2, w2_0, w2_1⟩ := i_3 (d := d) (p := 20) (k := 0) (I := I) (Q := Q) hz hq o1 o2 o3 (by omega) h1 w1
  replace d2 := od_mo (q := 19 + 1) d2 (by omega)
  have u2 := un_od u1 d2 op (by decide) (by omega)
  replace d2 := od_mo (q := 19) d2 (by omega)
  replace h2 : cr 23 R2 := h2
  obtain ⟨R3, e3, h3, d3, m3, u3, v3, x3⟩ := st_put h2 op (by decide) (by omega) u2 1 (am_mk 3 0) (by decide)
  replace h3 : cr 23 R3 := h3
  obtain ⟨R4, e4, h4, d4, m4, u4, v4, x4⟩ := st_put h3 op (by decide) (by omega) u3 0 (T) (by decide)
  replace h4 : cr 23 R4 := h4
  have c4 : cm R4 R4 := cm_rf
  have c3 := cm_tr m4 c4
  have c2 := cm_tr m3 c3
  have c1 := cm_tr m2 c2
  have c0 := cm_tr m1 c1
  refine ⟨R4, ?_, h4, od_tr (od_tr (od_tr (d1) d2) d3) d4, c0, c2 _ _ _ _ (by decide) w2_0, c2 _ _ _ _ (by decide) w2_1, c3 _ _ _ _ (by decide) v3, c4 _ _ _ _ (by decide) v4⟩
  rw [s34]
  simp only [s34_0, s34_1, s34_4, s34_8, s34_9, s34_12, s34_15, s34_16, s34_17, s34_20, q1, g2, e3, e4, am_th_some, tl_n, tl_s, rf_s]
theorem i_2 {d : Nat} {I : am_I} {R : am_R} {Q : am_Q} (hz : zI I) (hq : zQ Q) (h0 : cr (26) R) (u0 : un 2 0 (fun _ => False) R) : ∃ R', am_cal (d + 2) 15 [.ref (am_mk 2 0)] I R Q = some (none, I, R', Q) ∧ cr (39) R' ∧ od (25) R R' ∧ cm R R' ∧ R' 6 1 0 = some (am_mk 14 1) ∧ R' 6 1 1 = some (am_mk 15 1) ∧ R' 6 1 2 = some (am_mk 16 1) ∧ R' 6 1 3 = some (am_mk 17 1) ∧ R' 6 1 4 = some (am_mk 18 1) ∧ R' 9 1 0 = some (am_mk 19 1) ∧ R' 9 1 1 = some (am_mk 20 1) ∧ R' 9 1 2 = some (am_mk 21 1) ∧ R' 9 1 3 = some (am_mk 22 1) ∧ R' 6 1 6 = some (am_mk 9 1) ∧ R' 2 0 0 = some (am_mk 6 1) ∧ R' 2 0 2 = some (am_mk 31 0) ∧ R' 2 0 3 = some (am_mk 32 0) ∧ R' 2 0 1 = none := by
  have op : am_ord 25 = am_mk 2 0 := rfl
  have o1 : am_ord 26 = am_mk 6 1 := rfl
  have o2 : am_ord 27 = am_mk 14 1 := rfl
  have o3 : am_ord 28 = am_mk 15 1 := rfl
  have o4 : am_ord 29 = am_mk 16 1 := rfl
  have o5 : am_ord 30 = am_mk 17 1 := rfl
  have o6 : am_ord 31 = am_mk 18 1 := rfl
  have o7 : am_ord 32 = am_mk 9 1 := rfl
  have o8 : am_ord 33 = am_mk 19 1 := rfl
  have o9 : am_ord 34 = am_mk 20 1 := rfl
  have o10 : am_ord 35 = am_mk 21 1 := rfl
  have o11 : am_ord 36 = am_mk 22 1 := rfl
  have o12 : am_ord 37 = am_mk 31 0 := rfl
  have o13 : am_ord 38 = am_mk 32 0 := rfl
  obtain ⟨R1, e1, h1, f1⟩ := st_new h0 (by decide)
  obtain ⟨d1, m1⟩ := of_127 (p := 25) f1 (by omega)
  have q1 : ∀ {d : Nat} {l0 : Value} {st : List Value}, am_ev d 15 5 [l0] st I R Q = am_ev d 15 8 [l0] (.ref (am_mk 6 1) :: st) I R1 Q := fun {d l0 st} => (s15_5 h0.2.1 ⟨by omega, o1⟩ (n0 h0 (by omega) o1 (by decide) (fun j => hz _ _ j (by decide) (by decide) (by decide)) hq _)).trans (by rw [e1])
  have w1 := un_new h0 (by omega) o1 (by decide) f1
  have u1 := un_od u0 (of_127 (p := 25 + 1) f1 (by omega)).1 op (by decide) (by omega)
  replace h1 : cr 27 R1 := h1
  obtain ⟨R2, g2, h2, d2, m2, w2_0, w2_1, w2_2, w2_3, w2_4, w2_5, w2_6, w2_7, w2_8, w2_9⟩ := i_6 (d := d) (p := 26) (k := 1) (I := I) (Q := Q) hz hq o1 o2 o3 o4 o5 o6 o7 o8 o9 o10 o11 (by omega) h1 w1
  replace d2 := od_mo (q := 25 + 1) d2 (by omega)
  have u2 := un_od u1 d2 op (by decide) (by omega)
  replace d2 := od_mo (q := 25) d2 (by omega)
  replace h2 : cr 37 R2 := h2
  obtain ⟨R3, e3, h3, d3, m3, u3, v3, x3⟩ := st_put h2 op (by decide) (by omega) u2 0 (am_mk 6 1) (by decide)
  replace h3 : cr 37 R3 := h3
  obtain ⟨R4, e4, h4, f4⟩ := st_new h3 (by decide)
  obtain ⟨d4, m4⟩ := of_127 (p := 25) f4 (by omega)
  have q4 : ∀ {d : Nat} {l0 : Value} {st : List Value}, am_ev d 15 18 [l0] (.int (nI 6) :: st) I R3 Q = am_ev d 15 20 [l0] (.ref (am_mk 31 0) :: st) I R4 Q := fun {d l0 st} => (s15_18 h3.2.1 ⟨by omega, o12⟩ ⟨rfl, by decide⟩ rfl (n0 h3 (by omega) o12 (by decide) (fun j => hz _ _ j (by decide) (by decide) (by decide)) hq _)).trans (by rw [e4])
  have u4 := un_od u3 (of_127 (p := 25 + 1) f4 (by omega)).1 op (by decide) (by omega)
  replace h4 : cr 38 R4 := h4
  obtain ⟨R5, e5, h5, d5, m5, u5, v5, x5⟩ := st_put h4 op (by decide) (by omega) u4 2 (am_mk 31 0) (by decide)
  replace h5 : cr 38 R5 := h5
  obtain ⟨R6, e6, h6, f6⟩ := st_new h5 (by decide)
  obtain ⟨d6, m6⟩ := of_127 (p := 25) f6 (by omega)
  have q6 : ∀ {d : Nat} {l0 : Value} {st : List Value}, am_ev d 15 26 [l0] (.int (nI 25) :: st) I R5 Q = am_ev d 15 28 [l0] (.ref (am_mk 32 0) :: st) I R6 Q := fun {d l0 st} => (s15_26 h5.2.1 ⟨by omega, o13⟩ ⟨rfl, by decide⟩ rfl (n0 h5 (by omega) o13 (by decide) (fun j => hz _ _ j (by decide) (by decide) (by decide)) hq _)).trans (by rw [e6])
  have u6 := un_od u5 (of_127 (p := 25 + 1) f6 (by omega)).1 op (by decide) (by omega)
  replace h6 : cr 39 R6 := h6
  obtain ⟨R7, e7, h7, d7, m7, u7, v7, x7⟩ := st_put h6 op (by decide) (by omega) u6 3 (am_mk 32 0) (by decide)
  replace h7 : cr 39 R7 := h7
  have c7 : cm R7 R7 := cm_rf
  have c6 := cm_tr m7 c7
  have c5 := cm_tr m6 c6
  have c4 := cm_tr m5 c5
  have c3 := cm_tr m4 c4
  have c2 := cm_tr m3 c3
  have c1 := cm_tr m2 c2
  have c0 := cm_tr m1 c1
  refine ⟨R7, ?_, h7, od_tr (od_tr (od_tr (od_tr (od_tr (od_tr (d1) d2) d3) d4) d5) d6) d7, c0, c2 _ _ _ _ (by decide) w2_0, c2 _ _ _ _ (by decide) w2_1, c2 _ _ _ _ (by decide) w2_2, c2 _ _ _ _ (by decide) w2_3, c2 _ _ _ _ (by decide) w2_4, c2 _ _ _ _ (by decide) w2_5, c2 _ _ _ _ (by decide) w2_6, c2 _ _ _ _ (by decide) w2_7, c2 _ _ _ _ (by decide) w2_8, c2 _ _ _ _ (by decide) w2_9, c3 _ _ _ _ (by decide) v3, c5 _ _ _ _ (by decide) v5, c7 _ _ _ _ (by decide) v7, u7 1 (by decide)⟩
  rw [s15]
  simp only [s15_0, s15_1, s15_4, s15_8, s15_9, s15_12, s15_15, s15_16, s15_20, s15_23, s15_24, s15_28, s15_31, q1, g2, e3, q4, e5, q6, e7, am_th_some, tl_n, tl_s, rf_s]
