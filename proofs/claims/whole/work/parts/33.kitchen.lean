/-! The class Kitchen: a TEN, but for what FOOD gets. -/
theorem nI_mul (a b : Nat) : nI a * nI b = nI (a * b) := (Int32.ofNat_mul a b).symm
theorem z_1 : ((1 : Nat) = 0) = False := eq_false (by decide)
theorem z_2 : ((2 : Nat) = 0) = False := eq_false (by decide)
theorem z_4 : ((4 : Nat) = 0) = False := eq_false (by decide)
theorem z_10 : ((10 : Nat) = 0) = False := eq_false (by decide)
theorem z_20 : ((20 : Nat) = 0) = False := eq_false (by decide)
abbrev sp_max (a b : Int32) : Int32 := if a < b then b else a
abbrev sp_min (a b : Int32) : Int32 := if b < a then b else a
/-- is there FOOD at x? -/
abbrev pp_f (P : Nat → Nat → Int32) (x : Int32) : Prop := 0 ≤ x ∧ x < P 4 0 ∧ ¬ P 0 x.toNatClampNeg ≤ 0
theorem pp_f_k {P : Nat → Nat → Int32} {n k : Nat} (hn : P 4 0 = nI n) (hn2 : n ≤ 25) (hk : k < 2 ^ 31) : pp_f P (nI k) ↔ k < n ∧ ¬ P 0 k ≤ 0 := by
  unfold pp_f
  rw [hn, nI_0le hk, nI_lt2 hk (by omega), nI_clamp hk]
  exact ⟨fun h => h.2, fun h => ⟨trivial, h⟩⟩
theorem pp_f_of {P : Nat → Nat → Int32} {n : Nat} {x : Int32} (hn : P 4 0 = nI n) (hn2 : n ≤ 25) (h : pp_f P x) : ∃ k, k < n ∧ x = nI k ∧ ¬ P 0 k ≤ 0 := by
  obtain ⟨h1, h2, h3⟩ := h
  rw [hn] at h2
  obtain ⟨k, hk, rfl⟩ := am_in h1 h2 (by omega)
  rw [nI_clamp (by omega)] at h3
  exact ⟨k, hk, rfl, h3⟩
section
variable {d p u n k : Nat} {I : am_I} {R : am_R} {Q : am_Q} {P : Nat → Nat → Int32} {B : Nat → Nat → Int32}
theorem c_food (r0 : R 9 p 0 = some (am_mk 19 p)) (hP : pp_at I p P) (hn : P 4 0 = nI n) (hn2 : n ≤ 25) {x : Int32} : am_cal d 76 [.ref (am_mk 9 p), .int x] I R Q = some (some (.int (if pp_f P x then nI 1 else nI 0)), I, R, Q) := by
  by_cases h1 : 0 ≤ x
  · by_cases h2 : x < P 4 0
    · have h2' := h2
      rw [hn] at h2'
      obtain ⟨k, hk, rfl⟩ := am_in h1 h2' (by omega)
      rw [c_hasFood_k r0 hP hn hn2 hk]
      by_cases h3 : P 0 k ≤ 0
      · rw [if_pos h3, if_neg (fun w => ((pp_f_k hn hn2 (by omega)).mp w).2 h3)]
      · rw [if_neg h3, if_pos ((pp_f_k hn hn2 (by omega)).mpr ⟨hk, h3⟩)]
    · rw [c_hasFood_o r0 hP (Or.inr (Int32.not_lt.mp h2)), if_neg (fun w => h2 w.2.1)]
  · rw [c_hasFood_o r0 hP (Or.inl (Int32.not_le.mp h1)), if_neg (fun w => h1 w.1)]
theorem c_cellBeside (r2 : R 6 u 2 = some (am_mk 16 u)) {c s : Nat} (hc : c < 25) (hs : s < 4) : am_cal d 51 [.ref (am_mk 6 u), .int (nI c), .int (nI s)] I R Q = some (some (.int (I 16 u (c * 4 + s))), I, R, Q) := by
  rw [s51]
  have h1 : ¬ 100 ≤ c * 4 + s := by omega
  simp (disch := first | omega | assumption) only [s51_0, s51_1, s51_2, s51_3, s51_4, s51_5, s51_6, s51_7, s51_10, s51_11, s51_12, s51_15, s51_16, s51_19, s51_20, s51_23, s51_24, s51_25, s51_28, s51_29, nI_le2, nI_lt2, nI_eq2, nI_lt0, nI_0le, nI_0lt, nI_le0, nI_eq0, nI_clamp, nI_add, bu_nI, bb_0, bb_1, rf_s, rf_n, tl_s, tl_n, am_th_some, if_true, if_false, sI_eq, uI_eq, and_self, true_and, and_true, not_false_eq_true, r2, nI_mul, h1]
theorem c_shareOf (r1 : R 6 u 1 = some (am_mk 15 u)) {c : Nat} (hc : c < 25) : am_cal d 52 [.ref (am_mk 6 u), .int (nI c)] I R Q = some (some (.int (I 15 u c)), I, R, Q) := by
  rw [s52]
  have h1 : ¬ 25 ≤ c := by omega
  simp (disch := first | omega | assumption) only [s52_0, s52_1, s52_4, s52_5, s52_6, s52_9, s52_10, s52_13, s52_14, s52_17, s52_18, s52_19, s52_22, s52_23, nI_le2, nI_lt2, nI_eq2, nI_lt0, nI_0le, nI_0lt, nI_le0, nI_eq0, nI_clamp, nI_add, bu_nI, bb_0, bb_1, rf_s, rf_n, tl_s, tl_n, am_th_some, if_true, if_false, sI_eq, uI_eq, and_self, true_and, and_true, not_false_eq_true, r1, h1]
/-- the Kitchen's things -/
def kk_R (R : am_R) (u : Nat) : Prop := R 2 0 0 = some (am_mk 6 u) ∧ R 2 0 2 = some (am_mk 31 0) ∧ R 2 0 3 = some (am_mk 32 0) ∧ R 6 u 0 = some (am_mk 14 u) ∧ R 6 u 1 = some (am_mk 15 u) ∧ R 6 u 2 = some (am_mk 16 u)
/-- what is beside the CELLS -/
def bs_at (I : am_I) (u n : Nat) (B : Nat → Nat → Int32) : Prop := ∀ c, c < n → ∀ s, s < 4 → I 16 u (c * 4 + s) = B c s
theorem bs_fr {S : Nat → Nat → Nat → Prop} {J : am_I} (h : bs_at I u n B) (hf : am_fr S I J) (hS : ∀ j, ¬ S 16 u j) : bs_at J u n B := fun c hc s hs => (hf _ _ _ (hS _)).trans (h c hc s hs)
def sp_edges (B : Nat → Nat → Int32) (P : Nat → Nat → Int32) (k : Nat) : Int32 := am_fold (fun a s => if pp_f P (B k s) then a else a + nI 1) (nI 0) 4
theorem c_edges (hk : kk_R R u) (r0 : R 9 p 0 = some (am_mk 19 p)) (hP : pp_at I p P) (hn : P 4 0 = nI n) (hn2 : n ≤ 25) (hB : bs_at I u n B) (hkn : k < n) : am_cal (d + 1) 16 [.ref (am_mk 2 0), .ref (am_mk 9 p), .int (nI k)] I R Q = some (some (.int (sp_edges B P k)), I, R, Q) := by
  obtain ⟨k0, k1, k2, k3, k4, k5⟩ := hk
  rw [s16]
  simp (disch := first | omega | assumption) only [s16_0, s16_1, s16_2, s16_3, s16_7, s16_8, s16_11, s16_12, s16_13, s16_16, s16_17, s16_19, s16_22, s16_25, s16_28, s16_31, s16_34, s16_37, s16_38, nI_le2, nI_lt2, nI_eq2, nI_lt0, nI_0le, nI_0lt, nI_le0, nI_eq0, nI_clamp, nI_add, bu_nI, bb_0, bb_1, rf_s, rf_n, tl_s, tl_n, am_th_some, if_true, if_false, sI_eq, uI_eq, and_self, true_and, and_true, not_false_eq_true]
  refine (loop_fold (fun a c => am_ev (d + 1) 16 5 [.ref (am_mk 2 0), .ref (am_mk 9 p), .int (nI k), .int a, .int (nI c)] [] I R Q) (fun a s => if pp_f P (B k s) then a else a + nI 1) 4 (fun a c hc => ?_) (nI 0)).trans ?_
  · rw [s16_5]
    have h1 : ¬ 4 ≤ c := by omega
    have h2 := hB k hkn c hc
    simp (disch := first | omega | assumption) only [s16_0, s16_1, s16_2, s16_3, s16_7, s16_8, s16_11, s16_12, s16_13, s16_16, s16_17, s16_19, s16_22, s16_25, s16_28, s16_31, s16_34, s16_37, s16_38, nI_le2, nI_lt2, nI_eq2, nI_lt0, nI_0le, nI_0lt, nI_le0, nI_eq0, nI_clamp, nI_add, bu_nI, bb_0, bb_1, rf_s, rf_n, tl_s, tl_n, am_th_some, if_true, if_false, sI_eq, uI_eq, and_self, true_and, and_true, not_false_eq_true, h1, k0, c_cellBeside k5 (show k < 25 by omega) hc, c_food (d := d) r0 hP hn hn2, h2]
    by_cases h3 : pp_f P (B k c)
    · simp (disch := decide) only [if_pos h3, nI_eq0, Nat.one_ne_zero, if_false]
    · simp (disch := decide) only [if_neg h3, nI_eq0, if_true]
  · rw [s16_5]
    simp (disch := first | omega | assumption) only [s16_0, s16_1, s16_2, s16_3, s16_7, s16_8, s16_11, s16_12, s16_13, s16_16, s16_17, s16_19, s16_22, s16_25, s16_28, s16_31, s16_34, s16_37, s16_38, nI_le2, nI_lt2, nI_eq2, nI_lt0, nI_0le, nI_0lt, nI_le0, nI_eq0, nI_clamp, nI_add, bu_nI, bb_0, bb_1, rf_s, rf_n, tl_s, tl_n, am_th_some, if_true, if_false, sI_eq, uI_eq, and_self, true_and, and_true, not_false_eq_true, Nat.le_refl]
    rfl
abbrev sp_safe (S : Int32) (n : Nat) (P : Nat → Nat → Int32) : Prop := ∀ c, c < n → (P 0 c ≤ 0 ∨ (P 1 c ≤ 0 ∧ ¬ P 2 c < S))
theorem c_isSafe (hk : kk_R R u) (hp : pp_R R p) (hP : pp_at I p P) (hn : P 4 0 = nI n) (hn2 : n ≤ 25) : am_cal d 17 [.ref (am_mk 2 0), .ref (am_mk 9 p)] I R Q = some (some (.int (if sp_safe (I 14 u 5) n P then nI 1 else nI 0)), I, R, Q) := by
  obtain ⟨k0, k1, k2, k3, k4, k5⟩ := hk
  obtain ⟨p0, p1, p2, p3⟩ := hp
  rw [s17]
  simp (disch := first | omega | assumption) only [s17_0, s17_1, s17_3, s17_4, s17_7, s17_10, s17_11, s17_13, s17_16, s17_17, s17_20, s17_21, s17_22, s17_25, s17_26, s17_29, s17_30, s17_31, s17_34, s17_35, s17_38, s17_39, s17_40, s17_41, s17_44, s17_47, s17_48, s17_49, s17_52, s17_53, s17_54, s17_57, s17_60, s17_61, nI_le2, nI_lt2, nI_eq2, nI_lt0, nI_0le, nI_0lt, nI_le0, nI_eq0, nI_clamp, nI_add, bu_nI, bb_0, bb_1, rf_s, rf_n, tl_s, tl_n, am_th_some, if_true, if_false, sI_eq, uI_eq, and_self, true_and, and_true, not_false_eq_true]
  have hc4 : I 9 p 4 = nI n := hP.2.1.trans hn
  refine loop_inv (f := fun (_ : Unit) c => am_ev d 17 2 [.ref (am_mk 2 0), .ref (am_mk 9 p), .int (nI c)] [] I R Q) (Inv := fun c _ => ∀ j, j < c → (P 0 j ≤ 0 ∨ (P 1 j ≤ 0 ∧ ¬ P 2 j < I 14 u 5))) (Post := fun y => y = some (some (.int (if sp_safe (I 14 u 5) n P then nI 1 else nI 0)), I, R, Q)) (n := n) ?_ ?_ (Nat.zero_le _) (a := ()) (fun j hj => absurd hj (Nat.not_lt_zero _))
  · intro c _ hc hi
    obtain ⟨a0, a1, a2, a3⟩ := hP.1 c (by omega)
    have h1 : ¬ n ≤ c := by omega
    have h2 : ¬ 25 ≤ c := by omega
    rw [s17_2]
    have e5 : am_bu (nI 5) 6 = True := bu_nI (by decide)
    by_cases b0 : P 0 c ≤ 0
    · left
      refine ⟨(), ?_, fun j hj => (Nat.lt_succ_iff_lt_or_eq.mp hj).elim (hi j) (fun e => by rw [e]; exact Or.inl b0)⟩
      simp (disch := first | omega | assumption) only [s17_0, s17_1, s17_3, s17_4, s17_7, s17_10, s17_11, s17_13, s17_16, s17_17, s17_20, s17_21, s17_22, s17_25, s17_26, s17_29, s17_30, s17_31, s17_34, s17_35, s17_38, s17_39, s17_40, s17_41, s17_44, s17_47, s17_48, s17_49, s17_52, s17_53, s17_54, s17_57, s17_60, s17_61, nI_le2, nI_lt2, nI_eq2, nI_lt0, nI_0le, nI_0lt, nI_le0, nI_eq0, nI_clamp, nI_add, bu_nI, bb_0, bb_1, rf_s, rf_n, tl_s, tl_n, am_th_some, if_true, if_false, sI_eq, uI_eq, and_self, true_and, and_true, not_false_eq_true, k0, k3, p0, p1, p2, hc4, h1, h2, a0, a1, a2, b0]
    · by_cases b1 : P 1 c ≤ 0
      · by_cases b2 : P 2 c < I 14 u 5
        · right
          rw [if_neg (fun w => (w c hc).elim b0 (fun q => q.2 b2))]
          simp (disch := first | omega | assumption) only [s17_0, s17_1, s17_3, s17_4, s17_7, s17_10, s17_11, s17_13, s17_16, s17_17, s17_20, s17_21, s17_22, s17_25, s17_26, s17_29, s17_30, s17_31, s17_34, s17_35, s17_38, s17_39, s17_40, s17_41, s17_44, s17_47, s17_48, s17_49, s17_52, s17_53, s17_54, s17_57, s17_60, s17_61, nI_le2, nI_lt2, nI_eq2, nI_lt0, nI_0le, nI_0lt, nI_le0, nI_eq0, nI_clamp, nI_add, bu_nI, bb_0, bb_1, rf_s, rf_n, tl_s, tl_n, am_th_some, if_true, if_false, sI_eq, uI_eq, and_self, true_and, and_true, not_false_eq_true, k0, k3, p0, p1, p2, hc4, h1, h2, a0, a1, a2, b0, Int32.not_lt.mpr b1, Int32.not_le.mpr b2]
        · left
          refine ⟨(), ?_, fun j hj => (Nat.lt_succ_iff_lt_or_eq.mp hj).elim (hi j) (fun e => by rw [e]; exact Or.inr ⟨b1, b2⟩)⟩
          simp (disch := first | omega | assumption) only [s17_0, s17_1, s17_3, s17_4, s17_7, s17_10, s17_11, s17_13, s17_16, s17_17, s17_20, s17_21, s17_22, s17_25, s17_26, s17_29, s17_30, s17_31, s17_34, s17_35, s17_38, s17_39, s17_40, s17_41, s17_44, s17_47, s17_48, s17_49, s17_52, s17_53, s17_54, s17_57, s17_60, s17_61, nI_le2, nI_lt2, nI_eq2, nI_lt0, nI_0le, nI_0lt, nI_le0, nI_eq0, nI_clamp, nI_add, bu_nI, bb_0, bb_1, rf_s, rf_n, tl_s, tl_n, am_th_some, if_true, if_false, sI_eq, uI_eq, and_self, true_and, and_true, not_false_eq_true, k0, k3, p0, p1, p2, hc4, h1, h2, a0, a1, a2, b0, Int32.not_lt.mpr b1, Int32.not_lt.mp b2]
      · right
        rw [if_neg (fun w => (w c hc).elim b0 (fun q => b1 q.1))]
        simp (disch := first | omega | assumption) only [s17_0, s17_1, s17_3, s17_4, s17_7, s17_10, s17_11, s17_13, s17_16, s17_17, s17_20, s17_21, s17_22, s17_25, s17_26, s17_29, s17_30, s17_31, s17_34, s17_35, s17_38, s17_39, s17_40, s17_41, s17_44, s17_47, s17_48, s17_49, s17_52, s17_53, s17_54, s17_57, s17_60, s17_61, nI_le2, nI_lt2, nI_eq2, nI_lt0, nI_0le, nI_0lt, nI_le0, nI_eq0, nI_clamp, nI_add, bu_nI, bb_0, bb_1, rf_s, rf_n, tl_s, tl_n, am_th_some, if_true, if_false, sI_eq, uI_eq, and_self, true_and, and_true, not_false_eq_true, k0, k3, p0, p1, p2, hc4, h1, h2, a0, a1, a2, b0, Int32.not_le.mp b1]
  · intro _ hi
    rw [s17_2, if_pos hi]
    simp (disch := first | omega | assumption) only [s17_0, s17_1, s17_3, s17_4, s17_7, s17_10, s17_11, s17_13, s17_16, s17_17, s17_20, s17_21, s17_22, s17_25, s17_26, s17_29, s17_30, s17_31, s17_34, s17_35, s17_38, s17_39, s17_40, s17_41, s17_44, s17_47, s17_48, s17_49, s17_52, s17_53, s17_54, s17_57, s17_60, s17_61, nI_le2, nI_lt2, nI_eq2, nI_lt0, nI_0le, nI_0lt, nI_le0, nI_eq0, nI_clamp, nI_add, bu_nI, bb_0, bb_1, rf_s, rf_n, tl_s, tl_n, am_th_some, if_true, if_false, sI_eq, uI_eq, and_self, true_and, and_true, not_false_eq_true, hc4, Nat.le_refl]
end
