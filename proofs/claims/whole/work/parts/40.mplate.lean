/-! The model's plate. -/
def mm_R (R : am_R) : Prop := ∀ q ∈ ([(1, 42), (6, 43), (7, 44), (8, 45), (9, 46), (10, 47), (11, 48), (12, 49), (15, 50), (16, 51), (17, 52), (18, 53), (19, 54), (20, 55), (24, 56), (25, 57), (26, 58), (27, 59), (31, 60), (32, 61), (35, 62), (36, 63), (39, 64), (41, 65), (42, 66), (46, 67), (47, 68), (48, 69), (50, 70), (51, 71)] : List (Nat × Nat)), R 12 0 q.1 = some (am_mk q.2 0)
theorem mr1 {R : am_R} (h : mm_R R) : R 12 0 1 = some (am_mk 42 0) := h (1, 42) (by decide)
theorem mr6 {R : am_R} (h : mm_R R) : R 12 0 6 = some (am_mk 43 0) := h (6, 43) (by decide)
theorem mr7 {R : am_R} (h : mm_R R) : R 12 0 7 = some (am_mk 44 0) := h (7, 44) (by decide)
theorem mr8 {R : am_R} (h : mm_R R) : R 12 0 8 = some (am_mk 45 0) := h (8, 45) (by decide)
theorem mr9 {R : am_R} (h : mm_R R) : R 12 0 9 = some (am_mk 46 0) := h (9, 46) (by decide)
theorem mr10 {R : am_R} (h : mm_R R) : R 12 0 10 = some (am_mk 47 0) := h (10, 47) (by decide)
theorem mr11 {R : am_R} (h : mm_R R) : R 12 0 11 = some (am_mk 48 0) := h (11, 48) (by decide)
theorem mr12 {R : am_R} (h : mm_R R) : R 12 0 12 = some (am_mk 49 0) := h (12, 49) (by decide)
theorem mr15 {R : am_R} (h : mm_R R) : R 12 0 15 = some (am_mk 50 0) := h (15, 50) (by decide)
theorem mr16 {R : am_R} (h : mm_R R) : R 12 0 16 = some (am_mk 51 0) := h (16, 51) (by decide)
theorem mr17 {R : am_R} (h : mm_R R) : R 12 0 17 = some (am_mk 52 0) := h (17, 52) (by decide)
theorem mr18 {R : am_R} (h : mm_R R) : R 12 0 18 = some (am_mk 53 0) := h (18, 53) (by decide)
theorem mr19 {R : am_R} (h : mm_R R) : R 12 0 19 = some (am_mk 54 0) := h (19, 54) (by decide)
theorem mr20 {R : am_R} (h : mm_R R) : R 12 0 20 = some (am_mk 55 0) := h (20, 55) (by decide)
theorem mr24 {R : am_R} (h : mm_R R) : R 12 0 24 = some (am_mk 56 0) := h (24, 56) (by decide)
theorem mr25 {R : am_R} (h : mm_R R) : R 12 0 25 = some (am_mk 57 0) := h (25, 57) (by decide)
theorem mr26 {R : am_R} (h : mm_R R) : R 12 0 26 = some (am_mk 58 0) := h (26, 58) (by decide)
theorem mr27 {R : am_R} (h : mm_R R) : R 12 0 27 = some (am_mk 59 0) := h (27, 59) (by decide)
theorem mr31 {R : am_R} (h : mm_R R) : R 12 0 31 = some (am_mk 60 0) := h (31, 60) (by decide)
theorem mr32 {R : am_R} (h : mm_R R) : R 12 0 32 = some (am_mk 61 0) := h (32, 61) (by decide)
theorem mr35 {R : am_R} (h : mm_R R) : R 12 0 35 = some (am_mk 62 0) := h (35, 62) (by decide)
theorem mr36 {R : am_R} (h : mm_R R) : R 12 0 36 = some (am_mk 63 0) := h (36, 63) (by decide)
theorem mr39 {R : am_R} (h : mm_R R) : R 12 0 39 = some (am_mk 64 0) := h (39, 64) (by decide)
theorem mr41 {R : am_R} (h : mm_R R) : R 12 0 41 = some (am_mk 65 0) := h (41, 65) (by decide)
theorem mr42 {R : am_R} (h : mm_R R) : R 12 0 42 = some (am_mk 66 0) := h (42, 66) (by decide)
theorem mr46 {R : am_R} (h : mm_R R) : R 12 0 46 = some (am_mk 67 0) := h (46, 67) (by decide)
theorem mr47 {R : am_R} (h : mm_R R) : R 12 0 47 = some (am_mk 68 0) := h (47, 68) (by decide)
theorem mr48 {R : am_R} (h : mm_R R) : R 12 0 48 = some (am_mk 69 0) := h (48, 69) (by decide)
theorem mr50 {R : am_R} (h : mm_R R) : R 12 0 50 = some (am_mk 70 0) := h (50, 70) (by decide)
theorem mr51 {R : am_R} (h : mm_R R) : R 12 0 51 = some (am_mk 71 0) := h (51, 71) (by decide)
def mm_at (I : am_I) (P : Nat → Nat → Int32) : Prop := (∀ c, c < 25 → I 60 0 c = P 0 c ∧ I 60 0 (25 + c) = P 1 c ∧ I 60 0 (50 + c) = P 2 c ∧ I 60 0 (75 + c) = P 3 c) ∧ I 12 0 30 = P 4 0 ∧ I 60 0 101 = P 4 1 ∧ I 60 0 100 = P 4 2
def mm_S : Nat → Nat → Nat → Prop := fun a _ j => a = 60 ∧ j < 102
theorem mm_fr {S : Nat → Nat → Nat → Prop} {I J : am_I} {P : Nat → Nat → Int32} (h : mm_at I P) (hf : am_fr S I J) (hS : ∀ j, j < 102 → ¬ S 60 0 j) (hS2 : ¬ S 12 0 30) : mm_at J P := by
  obtain ⟨h1, h2, h3, h4⟩ := h
  refine ⟨fun c hc => ?_, ?_, ?_, ?_⟩
  · obtain ⟨a0, a1, a2, a3⟩ := h1 c hc
    exact ⟨(hf _ _ _ (hS _ (by omega))).trans a0, (hf _ _ _ (hS _ (by omega))).trans a1, (hf _ _ _ (hS _ (by omega))).trans a2, (hf _ _ _ (hS _ (by omega))).trans a3⟩
  · exact (hf _ _ _ hS2).trans h2
  · exact (hf _ _ _ (hS _ (by omega))).trans h3
  · exact (hf _ _ _ (hS _ (by omega))).trans h4
theorem mm_congr {I : am_I} {P P' : Nat → Nat → Int32} (h : mm_at I P) (e : ∀ a j, (a < 4 ∧ j < 25) ∨ (a = 4 ∧ j < 3) → P a j = P' a j) : mm_at I P' := by
  obtain ⟨h1, h2, h3, h4⟩ := h
  refine ⟨fun c hc => ?_, by rw [← e 4 0 (by omega)]; exact h2, by rw [← e 4 1 (by omega)]; exact h3, by rw [← e 4 2 (by omega)]; exact h4⟩
  rw [← e 0 c (by omega), ← e 1 c (by omega), ← e 2 c (by omega), ← e 3 c (by omega)]
  exact h1 c hc
theorem mm_u {I : am_I} {P : Nat → Nat → Int32} (h : mm_at I P) (a c : Nat) (x : Int32) (ha : a < 4) (hc : c < 25) : mm_at (am_sI I 60 0 (am_uI (I 60 0) (25 * a + c) x)) (sp_up P a c x) := by
  obtain ⟨h1, h2, h3, h4⟩ := h
  refine ⟨fun j hj => ?_, ?_, ?_, ?_⟩
  · obtain ⟨a0, a1, a2, a3⟩ := h1 j hj
    have key : ∀ b, b < 4 → I 60 0 (25 * b + j) = P b j → am_sI I 60 0 (am_uI (I 60 0) (25 * a + c) x) 60 0 (25 * b + j) = sp_up P a c x b j := by
      intro b hb e
      rw [sI_eq]
      by_cases e1 : b = a ∧ j = c
      · obtain ⟨rfl, rfl⟩ := e1
        rw [uI_eq, up_eq]
      · rw [uI_ne (by omega), e]
        exact (if_neg e1).symm
    have k0 := key 0 (by decide) (by rw [Nat.mul_zero, Nat.zero_add]; exact a0)
    rw [Nat.mul_zero, Nat.zero_add] at k0
    exact ⟨k0, key 1 (by decide) a1, key 2 (by decide) a2, key 3 (by decide) a3⟩
  · rw [sI_na (by omega), up_na (by omega), h2]
  · rw [sI_eq, uI_ne (by omega), up_na (by omega), h3]
  · rw [sI_eq, uI_ne (by omega), up_na (by omega), h4]
theorem mm_u0 {I : am_I} {P : Nat → Nat → Int32} (h : mm_at I P) {c : Nat} (x : Int32) (hc : c < 25) : mm_at (am_sI I 60 0 (am_uI (I 60 0) c x)) (sp_up P 0 c x) := by
  have := mm_u h 0 c x (by decide) hc
  rwa [Nat.mul_zero, Nat.zero_add] at this
theorem mm_u1 {I : am_I} {P : Nat → Nat → Int32} (h : mm_at I P) {c : Nat} (x : Int32) (hc : c < 25) : mm_at (am_sI I 60 0 (am_uI (I 60 0) (25 + c) x)) (sp_up P 1 c x) := mm_u h 1 c x (by decide) hc
theorem mm_u2 {I : am_I} {P : Nat → Nat → Int32} (h : mm_at I P) {c : Nat} (x : Int32) (hc : c < 25) : mm_at (am_sI I 60 0 (am_uI (I 60 0) (50 + c) x)) (sp_up P 2 c x) := mm_u h 2 c x (by decide) hc
theorem mm_u3 {I : am_I} {P : Nat → Nat → Int32} (h : mm_at I P) {c : Nat} (x : Int32) (hc : c < 25) : mm_at (am_sI I 60 0 (am_uI (I 60 0) (75 + c) x)) (sp_up P 3 c x) := mm_u h 3 c x (by decide) hc
theorem mm_u4 {I : am_I} {P : Nat → Nat → Int32} (h : mm_at I P) (x : Int32) : mm_at (am_sI I 60 0 (am_uI (I 60 0) 101 x)) (sp_up P 4 1 x) := by
  obtain ⟨h1, h2, h3, h4⟩ := h
  refine ⟨fun j hj => ?_, ?_, ?_, ?_⟩
  · obtain ⟨a0, a1, a2, a3⟩ := h1 j hj
    rw [sI_eq, uI_ne (by omega), uI_ne (by omega), uI_ne (by omega), uI_ne (by omega), up_na (by omega), up_na (by omega), up_na (by omega), up_na (by omega)]
    exact ⟨a0, a1, a2, a3⟩
  · rw [sI_na (by omega), up_nc (by omega), h2]
  · rw [sI_eq, uI_eq, up_eq]
  · rw [sI_eq, uI_ne (by omega), up_nc (by omega), h4]
theorem mm_u5 {I : am_I} {P : Nat → Nat → Int32} (h : mm_at I P) (x : Int32) : mm_at (am_sI I 60 0 (am_uI (I 60 0) 100 x)) (sp_up P 4 2 x) := by
  obtain ⟨h1, h2, h3, h4⟩ := h
  refine ⟨fun j hj => ?_, ?_, ?_, ?_⟩
  · obtain ⟨a0, a1, a2, a3⟩ := h1 j hj
    rw [sI_eq, uI_ne (by omega), uI_ne (by omega), uI_ne (by omega), uI_ne (by omega), up_na (by omega), up_na (by omega), up_na (by omega), up_na (by omega)]
    exact ⟨a0, a1, a2, a3⟩
  · rw [sI_na (by omega), up_nc (by omega), h2]
  · rw [sI_eq, uI_ne (by omega), up_nc (by omega), h3]
  · rw [sI_eq, uI_eq, up_eq]
section
variable {d n : Nat} {I : am_I} {R : am_R} {Q : am_Q} {P : Nat → Nat → Int32}
theorem m_in {v lo hi : Int32} : am_cal d 156 [.int v, .int lo, .int hi] I R Q = some (some (.int (if v < lo then nI 0 else if hi < v then nI 0 else nI 1)), I, R, Q) := by
  rw [s156]
  simp (disch := first | omega | assumption) only [s156_0, s156_1, s156_2, s156_5, s156_6, s156_7, s156_10, s156_11, s156_14, s156_15, nI_le2, nI_lt2, nI_eq2, nI_lt0, nI_0le, nI_0lt, nI_le0, nI_eq0, nI_clamp, nI_add, bu_nI, bb_0, bb_1, rf_s, rf_n, tl_s, tl_n, am_th_some, if_true, if_false, sI_eq, uI_eq, and_self, true_and, and_true, not_false_eq_true, not_true_eq_false, Nat.reduceEqDiff, Nat.reduceLeDiff, Nat.reduceLT, Nat.reduceAdd, Nat.reduceMul, Nat.reduceSub, Nat.zero_add]
  by_cases h1 : v < lo
  · simp only [h1, if_true]
  · by_cases h2 : hi < v
    · simp only [h1, h2, if_true, if_false]
    · simp only [h1, h2, if_false]
theorem m_has {a b : Int32} : am_cal d 157 [.int a, .int b] I R Q = some (some (.int (if (a >>> (b &&& 31)) &&& nI 1 = nI 1 then nI 1 else nI 0)), I, R, Q) := by
  rw [s157]
  simp (disch := first | omega | assumption) only [s157_0, s157_1, s157_2, s157_3, s157_4, s157_5, s157_6, s157_9, s157_10, s157_13, s157_14, nI_le2, nI_lt2, nI_eq2, nI_lt0, nI_0le, nI_0lt, nI_le0, nI_eq0, nI_clamp, nI_add, bu_nI, bb_0, bb_1, rf_s, rf_n, tl_s, tl_n, am_th_some, if_true, if_false, sI_eq, uI_eq, and_self, true_and, and_true, not_false_eq_true, not_true_eq_false, Nat.reduceEqDiff, Nat.reduceLeDiff, Nat.reduceLT, Nat.reduceAdd, Nat.reduceMul, Nat.reduceSub, Nat.zero_add]
  by_cases h1 : (a >>> (b &&& 31)) &&& nI 1 = nI 1
  · simp only [h1, if_true]
  · simp only [h1, if_false]
theorem m_isLunch : am_cal d 202 [.ref (am_mk 12 0)] I R Q = some (some (.int (if I 12 0 30 ≤ 0 then nI 0 else nI 1)), I, R, Q) := by
  rw [s202]
  simp (disch := first | omega | assumption) only [s202_0, s202_1, s202_4, s202_7, s202_8, s202_11, s202_12, nI_le2, nI_lt2, nI_eq2, nI_lt0, nI_0le, nI_0lt, nI_le0, nI_eq0, nI_clamp, nI_add, bu_nI, bb_0, bb_1, rf_s, rf_n, tl_s, tl_n, am_th_some, if_true, if_false, sI_eq, uI_eq, and_self, true_and, and_true, not_false_eq_true, not_true_eq_false, Nat.reduceEqDiff, Nat.reduceLeDiff, Nat.reduceLT, Nat.reduceAdd, Nat.reduceMul, Nat.reduceSub, Nat.zero_add]
  by_cases h1 : I 12 0 30 ≤ 0
  · simp only [h1, if_true]
  · simp only [h1, if_false]
theorem nI_m1 {n : Nat} (hn : n < 2 ^ 31) {x : Int32} (h0 : 0 ≤ x) : (nI n - nI 1 < x) = ¬ x < nI n := by
  obtain ⟨k, hk, rfl⟩ := nI_of (Int32.not_lt.mpr h0)
  cases n with
  | zero =>
    have e : nI 0 - nI 1 < nI k := Int32.lt_of_lt_of_le (show nI 0 - nI 1 < 0 by decide) (nI_pos' hk)
    rw [nI_lt2 hk hn]
    exact propext ⟨fun _ => by omega, fun _ => e⟩
  | succ n =>
    rw [nI_sub (by omega), nI_lt2 (by omega) hk, nI_lt2 hk hn]
    exact propext (by omega)
/-- a CELL? -/
theorem m_isCell (hn : I 12 0 30 = nI n) (hn2 : n ≤ 25) {x : Int32} : am_cal (d + 1) 203 [.ref (am_mk 12 0), .int x] I R Q = some (some (.int (if 0 ≤ x ∧ x < nI n then nI 1 else nI 0)), I, R, Q) := by
  rw [s203]
  have e0 : (nI 0 : Int32) = 0 := nI_0
  simp (disch := first | omega | assumption) only [s203_0, s203_1, s203_2, s203_3, s203_6, s203_7, s203_8, s203_11, nI_le2, nI_lt2, nI_eq2, nI_lt0, nI_0le, nI_0lt, nI_le0, nI_eq0, nI_clamp, nI_add, bu_nI, bb_0, bb_1, rf_s, rf_n, tl_s, tl_n, am_th_some, if_true, if_false, sI_eq, uI_eq, and_self, true_and, and_true, not_false_eq_true, not_true_eq_false, Nat.reduceEqDiff, Nat.reduceLeDiff, Nat.reduceLT, Nat.reduceAdd, Nat.reduceMul, Nat.reduceSub, Nat.zero_add, hn, m_in (d := d)]
  by_cases h1 : 0 ≤ x
  · have h2 : ¬ x < nI 0 := by rw [e0]; exact Int32.not_lt.mpr h1
    by_cases h3 : x < nI n
    · have h4 : ¬ nI n - nI 1 < x := by rw [nI_m1 (by omega) h1]; exact fun w => w h3
      simp only [h1, h2, h3, h4, if_true, if_false, bb_1, and_self]
    · have h4 : nI n - nI 1 < x := by rw [nI_m1 (by omega) h1]; exact h3
      simp only [h1, h2, h3, h4, if_true, if_false, bb_0, and_false]
  · have h2 : x < nI 0 := by rw [e0]; exact Int32.not_le.mp h1
    simp only [h1, h2, if_true, if_false, bb_0, false_and]
theorem m_isFood (hr : mm_R R) (hP : mm_at I P) (hn : P 4 0 = nI n) (hn2 : n ≤ 25) {x : Int32} : am_cal (d + 2) 204 [.ref (am_mk 12 0), .int x] I R Q = some (some (.int (if pp_f P x then nI 1 else nI 0)), I, R, Q) := by
  rw [s204]
  have hc := m_isCell (d := d) (R := R) (Q := Q) (x := x) (hP.2.1.trans hn) hn2
  have hne : ((nI 1 : Int32) = 0) = False := eq_false (by decide)
  by_cases h : 0 ≤ x ∧ x < nI n
  · rw [if_pos h] at hc
    obtain ⟨k, hk, rfl⟩ := am_in h.1 h.2 (by omega)
    obtain ⟨a0, -⟩ := hP.1 k (by omega)
    simp (disch := first | omega | assumption) only [s204_0, s204_1, s204_2, s204_5, s204_8, s204_9, s204_12, s204_13, s204_14, s204_15, s204_16, s204_19, s204_20, s204_23, s204_24, nI_le2, nI_lt2, nI_eq2, nI_lt0, nI_0le, nI_0lt, nI_le0, nI_eq0, nI_clamp, nI_add, bu_nI, bb_0, bb_1, rf_s, rf_n, tl_s, tl_n, am_th_some, if_true, if_false, sI_eq, uI_eq, and_self, true_and, and_true, not_false_eq_true, not_true_eq_false, Nat.reduceEqDiff, Nat.reduceLeDiff, Nat.reduceLT, Nat.reduceAdd, Nat.reduceMul, Nat.reduceSub, Nat.zero_add, hc, hne, mr31 hr, Nat.zero_add, a0]
    by_cases h3 : P 0 k ≤ 0
    · rw [if_neg (fun w => ((pp_f_k hn hn2 (by omega)).mp w).2 h3)]
      simp only [h3, if_true]
    · rw [if_pos ((pp_f_k hn hn2 (by omega)).mpr ⟨hk, h3⟩)]
      simp only [h3, if_false]
  · rw [if_neg h] at hc
    rw [if_neg (fun w => h ⟨w.1, by rw [← hn]; exact w.2.1⟩)]
    simp (disch := first | omega | assumption) only [s204_0, s204_1, s204_2, s204_5, s204_8, s204_9, s204_12, s204_13, s204_14, s204_15, s204_16, s204_19, s204_20, s204_23, s204_24, nI_le2, nI_lt2, nI_eq2, nI_lt0, nI_0le, nI_0lt, nI_le0, nI_eq0, nI_clamp, nI_add, bu_nI, bb_0, bb_1, rf_s, rf_n, tl_s, tl_n, am_th_some, if_true, if_false, sI_eq, uI_eq, and_self, true_and, and_true, not_false_eq_true, not_true_eq_false, Nat.reduceEqDiff, Nat.reduceLeDiff, Nat.reduceLT, Nat.reduceAdd, Nat.reduceMul, Nat.reduceSub, Nat.zero_add, hc]
end
