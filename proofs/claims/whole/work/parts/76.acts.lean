/-! ACTS kept and the LOG: the class. -/
theorem nI_xor (a b : Nat) : nI a ^^^ nI b = nI (a ^^^ b) := by
  apply Int32.toBitVec_inj.mp
  show BitVec.ofNat 32 a ^^^ BitVec.ofNat 32 b = BitVec.ofNat 32 (a ^^^ b)
  apply BitVec.eq_of_toNat_eq
  rw [BitVec.toNat_xor, BitVec.toNat_ofNat, BitVec.toNat_ofNat, BitVec.toNat_ofNat, Nat.xor_mod_two_pow]
theorem nI_mod {a b : Nat} (ha : a < 2 ^ 31) (hb : b < 2 ^ 31) : nI a - nI a / nI b * nI b = nI (a % b) := by
  rw [nI_div ha hb, nI_mul, nI_sub (Nat.div_mul_le_self a b), Nat.mod_eq_sub_div_mul]
theorem tsw_out {x : Int32} {n : Nat} (hn : n < 2 ^ 31) (h : ∀ k, k ≤ n → ¬ x = nI k) : x.toInt < 0 ∨ (n : Int) < x.toInt := by
  by_cases h0 : x < 0
  · left
    have := Int32.lt_iff_toInt_lt.mp h0
    have h4 : (0 : Int32).toInt = 0 := rfl
    omega
  · right
    obtain ⟨j, hj, rfl⟩ := nI_of h0
    rw [nI_toInt hj]
    have : ¬ j ≤ n := fun w => h j w rfl
    omega
theorem e46_0 {d : Nat} {l0 l1 l2 l3 : Value} {st : List Value} {I : am_I} {R : am_R} {Q : am_Q} : am_ev d 46 8 [l0, l1, l2, l3] (.int (nI 0) :: st) I R Q = am_ev d 46 36 [l0, l1, l2, l3] st I R Q := s46_8c0
theorem e46_1 {d : Nat} {l0 l1 l2 l3 : Value} {st : List Value} {I : am_I} {R : am_R} {Q : am_Q} : am_ev d 46 8 [l0, l1, l2, l3] (.int (nI 1) :: st) I R Q = am_ev d 46 43 [l0, l1, l2, l3] st I R Q := s46_8c1
theorem e46_2 {d : Nat} {l0 l1 l2 l3 : Value} {st : List Value} {I : am_I} {R : am_R} {Q : am_Q} : am_ev d 46 8 [l0, l1, l2, l3] (.int (nI 2) :: st) I R Q = am_ev d 46 50 [l0, l1, l2, l3] st I R Q := s46_8c2
def ac_R (R : am_R) : Prop := R 0 0 0 = some (am_mk 34 0) ∧ (∀ i, i < 40 → R 34 0 i = some (am_mk 9 (13 + i))) ∧ ∀ p, p < 54 → pp_R R p
def ac_S (i : Nat) : Nat → Nat → Nat → Prop := fun a b j => ((a = 9 ∨ a = 19 ∨ a = 20 ∨ a = 21 ∨ a = 22) ∧ b = 13 + i) ∨ (a = 0 ∧ (j = 1 ∨ j = 2))
def ab_S : Nat → Nat → Nat → Prop := fun a b j => ((a = 9 ∨ a = 19 ∨ a = 20 ∨ a = 21 ∨ a = 22) ∧ b = 12) ∨ (a = 0 ∧ (j = 1 ∨ j = 2))
def lo_R (R : am_R) (v : Nat) : Prop := R 5 v 0 = some (am_mk 35 v) ∧ R 5 v 1 = some (am_mk 36 v) ∧ R 5 v 2 = some (am_mk 37 v)
def lo_S (v : Nat) : Nat → Nat → Nat → Prop := fun a b _ => (a = 35 ∨ a = 36 ∨ a = 37) ∧ b = v
/-- the LOG's rows of the TENS behind lo, up to t -/
def lo_at (I : am_I) (v lo t : Nat) (E : Nat → Nat → Int32) : Prop := ∀ x, lo < x → x ≤ t → ∀ w, w < 3 → I (35 + w) v (x % 100) = E x w
section
variable {d n b m v lo t f k : Nat} {I : am_I} {R : am_R} {Q : am_Q} {P : Nat → Nat → Int32} {E : Nat → Nat → Int32}
theorem c_fmod {a b : Nat} (ha : a < 2 ^ 31) (hb : b < 2 ^ 31) (hb0 : 0 < b) : am_cal d 282 [.int (nI a), .int (nI b)] I R Q = some (some (.int (nI (a % b))), I, R, Q) := by
  have h0 : (nI b = 0) = False := by rw [nI_eq0 hb]; exact eq_false (by omega)
  have hx : (0 ≤ nI a ^^^ nI b) = True := by rw [nI_xor]; exact eq_true (nI_pos' (Nat.xor_lt_two_pow ha hb))
  rw [s282]
  simp (disch := first | omega | assumption) only [s282_0, s282_1, s282_2, s282_3, s282_4, s282_5, s282_6, s282_7, s282_10, s282_11, s282_14, s282_15, s282_16, s282_17, s282_18, s282_19, nI_le2, nI_lt2, nI_eq2, nI_lt0, nI_0le, nI_0lt, nI_le0, nI_eq0, nI_clamp, nI_add, bu_nI, bb_0, bb_1, rf_s, rf_n, tl_s, tl_n, am_th_some, if_true, if_false, sI_eq, uI_eq, and_self, true_and, and_true, not_false_eq_true, not_true_eq_false, Nat.reduceEqDiff, Nat.reduceLeDiff, Nat.reduceLT, Nat.reduceAdd, Nat.reduceMul, Nat.reduceSub, Nat.zero_add, h0, hx, nI_mod ha hb]
theorem c_fmodN : am_cal d 282 [.int (-nI 1), .int (nI 40)] I R Q = some (some (.int (nI 39)), I, R, Q) := by
  have h0 : (nI 40 = 0) = False := by decide
  have hx : (0 ≤ -nI 1 ^^^ nI 40) = False := by decide
  have hm : -nI 1 - -nI 1 / nI 40 * nI 40 = -nI 1 := by decide
  have hz : (-nI 1 = (0 : Int32)) = False := by decide
  have he : -nI 1 + nI 40 = nI 39 := by decide
  rw [s282]
  simp (disch := first | omega | assumption) only [s282_0, s282_1, s282_2, s282_3, s282_4, s282_5, s282_6, s282_7, s282_10, s282_11, s282_14, s282_15, s282_16, s282_17, s282_18, s282_19, nI_le2, nI_lt2, nI_eq2, nI_lt0, nI_0le, nI_0lt, nI_le0, nI_eq0, nI_clamp, nI_add, bu_nI, bb_0, bb_1, rf_s, rf_n, tl_s, tl_n, am_th_some, if_true, if_false, sI_eq, uI_eq, and_self, true_and, and_true, not_false_eq_true, not_true_eq_false, Nat.reduceEqDiff, Nat.reduceLeDiff, Nat.reduceLT, Nat.reduceAdd, Nat.reduceMul, Nat.reduceSub, Nat.zero_add, h0, hx, hm, hz, he]
theorem c_aforget : ∃ J, am_cal d 1 [.ref (am_mk 0 0)] I R Q = some (none, J, R, Q) ∧ am_fr (fun a _ j => a = 0 ∧ j = 2) I J ∧ J 0 0 2 = nI 0 := by
  refine ⟨am_sI I 0 0 (am_uI (I 0 0) 2 (nI 0)), ?_, fr_h fr_rf ⟨rfl, rfl⟩, by rw [sI_eq, uI_eq]⟩
  rw [s1]
  simp (disch := first | omega | assumption) only [s1_0, s1_1, s1_2, s1_5, nI_le2, nI_lt2, nI_eq2, nI_lt0, nI_0le, nI_0lt, nI_le0, nI_eq0, nI_clamp, nI_add, bu_nI, bb_0, bb_1, rf_s, rf_n, tl_s, tl_n, am_th_some, if_true, if_false, sI_eq, uI_eq, and_self, true_and, and_true, not_false_eq_true, not_true_eq_false, Nat.reduceEqDiff, Nat.reduceLeDiff, Nat.reduceLT, Nat.reduceAdd, Nat.reduceMul, Nat.reduceSub, Nat.zero_add]
theorem c_keep (hr : ac_R R) (hP : pp_at I 12 P) (hI : pt_I n b m P) (hf : I 0 0 1 = nI f) (hf4 : f < 40) (hk : I 0 0 2 = nI k) (hk4 : k ≤ 40) : ∃ J, am_cal (d + 1) 2 [.ref (am_mk 0 0), .ref (am_mk 9 12)] I R Q = some (none, J, R, Q) ∧ am_fr (ac_S f) I J ∧ pp_at J (13 + f) P ∧ J 0 0 1 = nI ((f + 1) % 40) ∧ J 0 0 2 = nI (min (k + 1) 40) := by
  obtain ⟨r0, r1, r2⟩ := hr
  obtain ⟨J0, a1, a2, a3⟩ := c_become (d := d) (Q := Q) (r2 12 (by decide)) (r2 (13 + f) (by omega)) (by omega) hP (pt_bb hI)
  have hf' : J0 0 0 1 = nI f := (a2 _ _ _ (fun w => by unfold pp_S at w; omega)).trans hf
  have hk' : J0 0 0 2 = nI k := (a2 _ _ _ (fun w => by unfold pp_S at w; omega)).trans hk
  have h1 : ¬ 40 ≤ f := by omega
  have e := r1 f hf4
  have hm : nI (f + 1) - nI (f + 1) / nI 40 * nI 40 = nI ((f + 1) % 40) := nI_mod (by omega) (by decide)
  have fin : am_cal (d + 1) 2 [.ref (am_mk 0 0), .ref (am_mk 9 12)] I R Q = some (none, am_sI J0 0 0 (am_uI (am_uI (J0 0 0) 1 (nI ((f + 1) % 40))) 2 (nI (min (k + 1) 40))), R, Q) := by
    rw [s2]
    by_cases hk1 : k = 40
    · subst hk1
      have h2 : (40 : Nat) < 40 + 1 := by decide
      rw [show min (40 + 1) 40 = 40 from rfl]
      simp (disch := first | omega | assumption) only [s2_0, s2_1, s2_4, s2_7, s2_8, s2_11, s2_12, s2_15, s2_16, s2_19, s2_20, s2_23, s2_24, s2_27, s2_28, s2_31, s2_32, s2_32n, s2_33, s2_33n, s2_34, s2_34n, s2_37, s2_37n, s2_38, s2_39, s2_42, s2_43, s2_44, s2_47, s2_48, s2_49, s2_51, s2_52, s2_55, s2_56, s2_57, s2_60, s2_61, s2_62, s2_64, s2_67, s2_70, nI_le2, nI_lt2, nI_eq2, nI_lt0, nI_0le, nI_0lt, nI_le0, nI_eq0, nI_clamp, nI_add, bu_nI, bb_0, bb_1, rf_s, rf_n, tl_s, tl_n, am_th_some, if_true, if_false, sI_eq, uI_eq, and_self, true_and, and_true, not_false_eq_true, not_true_eq_false, Nat.reduceEqDiff, Nat.reduceLeDiff, Nat.reduceLT, Nat.reduceAdd, Nat.reduceMul, Nat.reduceSub, Nat.zero_add, hf, r0, h1, e, a1, hf', hk', hm, sI_eq, sI_sI, uI_ne, h2]
    · have h2 : ¬ 40 < k + 1 := by omega
      rw [Nat.min_eq_left (show k + 1 ≤ 40 by omega)]
      simp (disch := first | omega | assumption) only [s2_0, s2_1, s2_4, s2_7, s2_8, s2_11, s2_12, s2_15, s2_16, s2_19, s2_20, s2_23, s2_24, s2_27, s2_28, s2_31, s2_32, s2_32n, s2_33, s2_33n, s2_34, s2_34n, s2_37, s2_37n, s2_38, s2_39, s2_42, s2_43, s2_44, s2_47, s2_48, s2_49, s2_51, s2_52, s2_55, s2_56, s2_57, s2_60, s2_61, s2_62, s2_64, s2_67, s2_70, nI_le2, nI_lt2, nI_eq2, nI_lt0, nI_0le, nI_0lt, nI_le0, nI_eq0, nI_clamp, nI_add, bu_nI, bb_0, bb_1, rf_s, rf_n, tl_s, tl_n, am_th_some, if_true, if_false, sI_eq, uI_eq, and_self, true_and, and_true, not_false_eq_true, not_true_eq_false, Nat.reduceEqDiff, Nat.reduceLeDiff, Nat.reduceLT, Nat.reduceAdd, Nat.reduceMul, Nat.reduceSub, Nat.zero_add, hf, r0, h1, e, a1, hf', hk', hm, sI_eq, sI_sI, uI_ne, h2]
  refine ⟨_, fin, ?_, ?_, ?_, ?_⟩
  · refine fr_g (fr_mo a2 fun a b j w => Or.inl (by unfold pp_S at w; exact w)) fun j q => ?_
    have : ¬ j = 1 := fun e => q (Or.inr ⟨rfl, Or.inl e⟩)
    have : ¬ j = 2 := fun e => q (Or.inr ⟨rfl, Or.inr e⟩)
    rw [uI_ne (by omega), uI_ne (by omega)]
    exact a2 _ _ _ (fun w => by unfold pp_S at w; omega)
  · exact pl_fr (S := fun a _ _ => a = 0) a3 (fr_f fr_rf fun _ => rfl) (fun a j ha w => by omega)
  · rw [sI_eq, uI_ne (by omega), uI_eq]
  · rw [sI_eq, uI_eq]
theorem c_takeBack (hr : ac_R R) (hf : I 0 0 1 = nI f) (hf4 : f < 40) (hk : I 0 0 2 = nI (k + 1)) (hk4 : k < 40) (hP : pp_at I (13 + (f + 39) % 40) P) (hI : pt_I n b m P) : ∃ J, am_cal (d + 1) 3 [.ref (am_mk 0 0), .ref (am_mk 9 12)] I R Q = some (none, J, R, Q) ∧ am_fr ab_S I J ∧ pp_at J 12 P ∧ J 0 0 1 = nI ((f + 39) % 40) ∧ J 0 0 2 = nI k := by
  obtain ⟨r0, r1, r2⟩ := hr
  have hlt : (f + 39) % 40 < 40 := Nat.mod_lt _ (by decide)
  obtain ⟨J0, a1, a2, a3⟩ := c_become (d := d) (Q := Q) (r2 (13 + (f + 39) % 40) (by omega)) (r2 12 (by decide)) (by omega) hP (pt_bb hI)
  have hf' : J0 0 0 1 = nI f := (a2 _ _ _ (fun w => by unfold pp_S at w; omega)).trans hf
  have hk' : J0 0 0 2 = nI (k + 1) := (a2 _ _ _ (fun w => by unfold pp_S at w; omega)).trans hk
  have e := r1 _ hlt
  have e3 : nI (k + 1) - nI 1 = nI k := nI_sub (by omega)
  have fin : am_cal (d + 1) 3 [.ref (am_mk 0 0), .ref (am_mk 9 12)] I R Q = some (none, am_sI J0 0 0 (am_uI (am_uI (J0 0 0) 1 (nI ((f + 39) % 40))) 2 (nI k)), R, Q) := by
    have h4 : ¬ 40 ≤ (f + 39) % 40 := by omega
    have h5 : (f + 39) % 40 < 40 := hlt
    rw [s3]
    by_cases h0 : f = 0
    · subst h0
      have e0 : nI 0 - nI 1 = -nI 1 := by decide
      have fm := c_fmodN (d := d) (I := I) (R := R) (Q := Q)
      simp (disch := first | omega | assumption) only [s3_0, s3_1, s3_4, s3_5, s3_6, s3_8, s3_11, s3_12, s3_13, s3_16, s3_17, s3_18, s3_19, s3_20, s3_23, s3_26, s3_27, s3_27n, s3_30, s3_31, s3_32, s3_35, s3_36, s3_37, s3_40, s3_41, s3_42, s3_45, s3_46, s3_47, s3_50, nI_le2, nI_lt2, nI_eq2, nI_lt0, nI_0le, nI_0lt, nI_le0, nI_eq0, nI_clamp, nI_add, bu_nI, bb_0, bb_1, rf_s, rf_n, tl_s, tl_n, am_th_some, if_true, if_false, sI_eq, uI_eq, and_self, true_and, and_true, not_false_eq_true, not_true_eq_false, Nat.reduceEqDiff, Nat.reduceLeDiff, Nat.reduceLT, Nat.reduceAdd, Nat.reduceMul, Nat.reduceSub, Nat.zero_add, hf, hk, e0, fm, r0, e, a1, hk', e3, sI_eq, sI_sI, uI_ne, Nat.reduceMod]
    · have e0 : nI f - nI 1 = nI (f - 1) := nI_sub (by omega)
      have fm := c_fmod (d := d) (I := I) (R := R) (Q := Q) (a := f - 1) (b := 40) (by omega) (by decide) (by decide)
      rw [show (f - 1) % 40 = (f + 39) % 40 by omega] at fm
      simp (disch := first | omega | assumption) only [s3_0, s3_1, s3_4, s3_5, s3_6, s3_8, s3_11, s3_12, s3_13, s3_16, s3_17, s3_18, s3_19, s3_20, s3_23, s3_26, s3_27, s3_27n, s3_30, s3_31, s3_32, s3_35, s3_36, s3_37, s3_40, s3_41, s3_42, s3_45, s3_46, s3_47, s3_50, nI_le2, nI_lt2, nI_eq2, nI_lt0, nI_0le, nI_0lt, nI_le0, nI_eq0, nI_clamp, nI_add, bu_nI, bb_0, bb_1, rf_s, rf_n, tl_s, tl_n, am_th_some, if_true, if_false, sI_eq, uI_eq, and_self, true_and, and_true, not_false_eq_true, not_true_eq_false, Nat.reduceEqDiff, Nat.reduceLeDiff, Nat.reduceLT, Nat.reduceAdd, Nat.reduceMul, Nat.reduceSub, Nat.zero_add, hf, hk, e0, fm, r0, e, a1, hk', e3, sI_eq, sI_sI, uI_ne, h5]
  refine ⟨_, fin, ?_, ?_, ?_, ?_⟩
  · refine fr_g (fr_mo a2 fun a b j w => Or.inl (by unfold pp_S at w; exact w)) fun j q => ?_
    have : ¬ j = 1 := fun e => q (Or.inr ⟨rfl, Or.inl e⟩)
    have : ¬ j = 2 := fun e => q (Or.inr ⟨rfl, Or.inr e⟩)
    rw [uI_ne (by omega), uI_ne (by omega)]
    exact a2 _ _ _ (fun w => by unfold pp_S at w; omega)
  · exact pl_fr (S := fun a _ _ => a = 0) a3 (fr_f fr_rf fun _ => rfl) (fun a j ha w => by omega)
  · rw [sI_eq, uI_ne (by omega), uI_eq]
  · rw [sI_eq, uI_eq]
theorem c_write (hr : lo_R R v) {x y z : Int32} (ht : t < 2 ^ 31) : ∃ J, am_cal (d + 1) 45 [.ref (am_mk 5 v), .int (nI t), .int x, .int y, .int z] I R Q = some (none, J, R, Q) ∧ am_fr (lo_S v) I J ∧ (∀ w i, w < 3 → ¬ i = t % 100 → J (35 + w) v i = I (35 + w) v i) ∧ J 35 v (t % 100) = x ∧ J 36 v (t % 100) = y ∧ J 37 v (t % 100) = z := by
  obtain ⟨r0, r1, r2⟩ := hr
  have fm := c_fmod (d := d) (I := I) (R := R) (Q := Q) (a := t) (b := 100) ht (by decide) (by decide)
  have h5 : t % 100 < 100 := Nat.mod_lt _ (by decide)
  have h := s45 (d := d + 1) (a0 := am_mk 5 v) (a1 := nI t) (a2 := x) (a3 := y) (a4 := z) (I := I) (R := R) (Q := Q)
  simp (disch := first | omega | assumption) only [s45_0, s45_1, s45_3, s45_6, s45_8, s45_9, s45_12, s45_14, s45_15, s45_16, s45_17, s45_20, s45_22, s45_23, s45_24, s45_25, s45_28, s45_30, s45_32, s45_33, nI_le2, nI_lt2, nI_eq2, nI_lt0, nI_0le, nI_0lt, nI_le0, nI_eq0, nI_clamp, nI_add, bu_nI, bb_0, bb_1, rf_s, rf_n, tl_s, tl_n, am_th_some, if_true, if_false, sI_eq, uI_eq, and_self, true_and, and_true, not_false_eq_true, not_true_eq_false, Nat.reduceEqDiff, Nat.reduceLeDiff, Nat.reduceLT, Nat.reduceAdd, Nat.reduceMul, Nat.reduceSub, Nat.zero_add, fm, r0, r1, r2, h5, sI_na] at h
  refine ⟨_, h, ?_, ?_, ?_, ?_, ?_⟩
  · refine fr_h (fr_h (fr_h fr_rf ?_) ?_) ?_ <;> · unfold lo_S; omega
  · intro w i hw hi
    rcases (show w = 0 ∨ w = 1 ∨ w = 2 by omega) with rfl | rfl | rfl <;> simp (disch := first | decide | omega | assumption) only [sI_eq, sI_na, uI_ne]
  · simp (disch := first | decide | omega | assumption) only [sI_eq, sI_na, uI_eq]
  · simp (disch := first | decide | omega | assumption) only [sI_eq, sI_na, uI_eq]
  · simp (disch := first | decide | omega | assumption) only [sI_eq, sI_na, uI_eq]
theorem c_entry (hr : lo_R R v) (hL : lo_at I v lo t E) {x : Nat} (hx1 : lo < x) (hx2 : x ≤ t) (ht : t < 2 ^ 31) {w : Int32} : am_cal (d + 1) 46 [.ref (am_mk 5 v), .int (nI x), .int w] I R Q = some (some (.int (if w = nI 0 then E x 0 else if w = nI 1 then E x 1 else if w = nI 2 then E x 2 else -nI 1)), I, R, Q) := by
  obtain ⟨r0, r1, r2⟩ := hr
  have fm := c_fmod (d := d) (I := I) (R := R) (Q := Q) (a := x) (b := 100) (by omega) (by decide) (by decide)
  have h5 : x % 100 < 100 := Nat.mod_lt _ (by decide)
  have q0 : I 35 v (x % 100) = E x 0 := hL x hx1 hx2 0 (by decide)
  have q1 : I 36 v (x % 100) = E x 1 := hL x hx1 hx2 1 (by decide)
  have q2 : I 37 v (x % 100) = E x 2 := hL x hx1 hx2 2 (by decide)
  rw [s46]
  by_cases w0 : w = nI 0
  · subst w0
    rw [if_pos rfl]
    simp (disch := first | omega | assumption) only [s46_0, s46_1, s46_3, s46_6, s46_7, s46_8c0, s46_8c1, s46_8c2, s46_8d, s46_36, s46_37, s46_40, s46_41, s46_42, s46_43, s46_44, s46_47, s46_48, s46_49, s46_50, s46_51, s46_54, s46_55, s46_56, s46_57, s46_58, nI_le2, nI_lt2, nI_eq2, nI_lt0, nI_0le, nI_0lt, nI_le0, nI_eq0, nI_clamp, nI_add, bu_nI, bb_0, bb_1, rf_s, rf_n, tl_s, tl_n, am_th_some, if_true, if_false, sI_eq, uI_eq, and_self, true_and, and_true, not_false_eq_true, not_true_eq_false, Nat.reduceEqDiff, Nat.reduceLeDiff, Nat.reduceLT, Nat.reduceAdd, Nat.reduceMul, Nat.reduceSub, Nat.zero_add, fm, r0, r1, r2, h5, q0, q1, q2, e46_0]
  · rw [if_neg w0]
    by_cases w1 : w = nI 1
    · subst w1
      rw [if_pos rfl]
      simp (disch := first | omega | assumption) only [s46_0, s46_1, s46_3, s46_6, s46_7, s46_8c0, s46_8c1, s46_8c2, s46_8d, s46_36, s46_37, s46_40, s46_41, s46_42, s46_43, s46_44, s46_47, s46_48, s46_49, s46_50, s46_51, s46_54, s46_55, s46_56, s46_57, s46_58, nI_le2, nI_lt2, nI_eq2, nI_lt0, nI_0le, nI_0lt, nI_le0, nI_eq0, nI_clamp, nI_add, bu_nI, bb_0, bb_1, rf_s, rf_n, tl_s, tl_n, am_th_some, if_true, if_false, sI_eq, uI_eq, and_self, true_and, and_true, not_false_eq_true, not_true_eq_false, Nat.reduceEqDiff, Nat.reduceLeDiff, Nat.reduceLT, Nat.reduceAdd, Nat.reduceMul, Nat.reduceSub, Nat.zero_add, fm, r0, r1, r2, h5, q0, q1, q2, e46_1]
    · rw [if_neg w1]
      by_cases w2 : w = nI 2
      · subst w2
        rw [if_pos rfl]
        simp (disch := first | omega | assumption) only [s46_0, s46_1, s46_3, s46_6, s46_7, s46_8c0, s46_8c1, s46_8c2, s46_8d, s46_36, s46_37, s46_40, s46_41, s46_42, s46_43, s46_44, s46_47, s46_48, s46_49, s46_50, s46_51, s46_54, s46_55, s46_56, s46_57, s46_58, nI_le2, nI_lt2, nI_eq2, nI_lt0, nI_0le, nI_0lt, nI_le0, nI_eq0, nI_clamp, nI_add, bu_nI, bb_0, bb_1, rf_s, rf_n, tl_s, tl_n, am_th_some, if_true, if_false, sI_eq, uI_eq, and_self, true_and, and_true, not_false_eq_true, not_true_eq_false, Nat.reduceEqDiff, Nat.reduceLeDiff, Nat.reduceLT, Nat.reduceAdd, Nat.reduceMul, Nat.reduceSub, Nat.zero_add, fm, r0, r1, r2, h5, q0, q1, q2, e46_2]
      · rw [if_neg w2]
        have hout : w.toInt < 0 ∨ 2 < w.toInt := tsw_out (n := 2) (by decide) fun k hk => by
          rcases (show k = 0 ∨ k = 1 ∨ k = 2 by omega) with rfl | rfl | rfl <;> assumption
        simp (disch := first | omega | assumption) only [s46_0, s46_1, s46_3, s46_6, s46_7, s46_8c0, s46_8c1, s46_8c2, s46_8d, s46_36, s46_37, s46_40, s46_41, s46_42, s46_43, s46_44, s46_47, s46_48, s46_49, s46_50, s46_51, s46_54, s46_55, s46_56, s46_57, s46_58, nI_le2, nI_lt2, nI_eq2, nI_lt0, nI_0le, nI_0lt, nI_le0, nI_eq0, nI_clamp, nI_add, bu_nI, bb_0, bb_1, rf_s, rf_n, tl_s, tl_n, am_th_some, if_true, if_false, sI_eq, uI_eq, and_self, true_and, and_true, not_false_eq_true, not_true_eq_false, Nat.reduceEqDiff, Nat.reduceLeDiff, Nat.reduceLT, Nat.reduceAdd, Nat.reduceMul, Nat.reduceSub, Nat.zero_add, fm, r0, r1, r2, h5, q0, q1, q2, s46_8d hout]
end
