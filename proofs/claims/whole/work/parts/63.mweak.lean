/-! The model's WEAK; the class's LOOK. -/
theorem nI_ushr {a c : Nat} (ha : a < 2 ^ 31) (hc : c < 32) : ((nI a).toUInt32 >>> ((nI c).toUInt32 &&& Int32.toUInt32 31)).toInt32 = nI (a >>> c) := by
  have key : ∀ c, c < 32 → (((nI c).toUInt32 &&& Int32.toUInt32 31).toBitVec % 32).toNat = c := by decide +kernel
  apply Int32.toBitVec_inj.mp
  show ((nI a).toUInt32 >>> ((nI c).toUInt32 &&& Int32.toUInt32 31)).toBitVec = BitVec.ofNat 32 (a >>> c)
  rw [UInt32.toBitVec_shiftRight, BitVec.ushiftRight_eq', key c hc]
  show BitVec.ofNat 32 a >>> c = BitVec.ofNat 32 (a >>> c)
  apply BitVec.eq_of_toNat_eq
  have h2 : a >>> c ≤ a := by rw [Nat.shiftRight_eq_div_pow]; exact Nat.div_le_self _ _
  rw [BitVec.toNat_ushiftRight, BitVec.toNat_ofNat, BitVec.toNat_ofNat, Nat.mod_eq_of_lt (by omega), Nat.mod_eq_of_lt (by omega)]
theorem nI_us16 {a : Nat} (ha : a < 2 ^ 31) : ((nI a).toUInt32 >>> ((nI 16).toUInt32 &&& Int32.toUInt32 31)).toInt32 = nI (a / 65536) := by rw [nI_ushr ha (by decide), Nat.shiftRight_eq_div_pow]
theorem nI_us8 {a : Nat} (ha : a < 2 ^ 31) : ((nI a).toUInt32 >>> ((nI 8).toUInt32 &&& Int32.toUInt32 31)).toInt32 = nI (a / 256) := by rw [nI_ushr ha (by decide), Nat.shiftRight_eq_div_pow]
theorem nI_us4 {a : Nat} (ha : a < 2 ^ 31) : ((nI a).toUInt32 >>> ((nI 4).toUInt32 &&& Int32.toUInt32 31)).toInt32 = nI (a / 16) := by rw [nI_ushr ha (by decide), Nat.shiftRight_eq_div_pow]
theorem nI_us2 {a : Nat} (ha : a < 2 ^ 31) : ((nI a).toUInt32 >>> ((nI 2).toUInt32 &&& Int32.toUInt32 31)).toInt32 = nI (a / 4) := by rw [nI_ushr ha (by decide), Nat.shiftRight_eq_div_pow]
theorem nI_us1 {a : Nat} (ha : a < 2 ^ 31) : ((nI a).toUInt32 >>> ((nI 1).toUInt32 &&& Int32.toUInt32 31)).toInt32 = nI (a / 2) := by rw [nI_ushr ha (by decide), Nat.shiftRight_eq_div_pow]
section
variable {d : Nat} {I : am_I} {R : am_R} {Q : am_Q}
theorem nlz_4 {s t x : Nat} {y : Int32} (hx : 1 ≤ x ∧ x < 16) (ht : t * x ≤ s) {g : Nat} (hg : t = 2 ^ g) (hy : nI 31 - y = nI g) (hg2 : g ≤ 28) : ∃ f, f ≤ 31 ∧ 2 ^ f ≤ s ∧ ∃ z, nI 31 - z = nI f ∧ am_ev d 281 61 [.int (nI x), .int y] [] I R Q = some (some (.int z), I, R, Q) := by
  have e2 : ∀ (u : Int32) (a b : Nat), nI 31 - u = nI a → nI 31 - (u - nI b) = nI (a + b) := fun u a b h => by
    rw [← nI_add, ← h, Int32.sub_eq_add_neg, Int32.neg_sub, Int32.sub_eq_add_neg, Int32.sub_eq_add_neg, Int32.add_comm (nI b), ← Int32.add_assoc]
  by_cases h4 : 4 ≤ x
  · have hx1 : x / 4 = 1 ∨ x / 4 = 2 ∨ x / 4 = 3 := by omega
    have h4' : ¬ x < 4 := by omega
    refine ⟨g + 2 + x / 4 / 2, by omega, ?_, y + -nI 2 - nI (x / 4 / 2), ?_, ?_⟩
    · have : 2 ^ (g + 2 + x / 4 / 2) = t * (4 * 2 ^ (x / 4 / 2)) := by rw [hg, Nat.pow_add, Nat.pow_add, Nat.mul_assoc]
      rw [this]
      refine Nat.le_trans (Nat.mul_le_mul_left _ ?_) ht
      rcases hx1 with e | e | e <;> rw [e] <;> omega
    · exact e2 _ _ _ (by rw [← Int32.sub_eq_add_neg]; exact e2 _ _ _ hy)
    · simp (disch := first | omega | assumption) only [s281_0, s281_1, s281_4, s281_5, s281_8, s281_10, s281_13, s281_14, s281_15, s281_17, s281_18, s281_19, s281_22, s281_25, s281_28, s281_29, s281_31, s281_32, s281_33, s281_34, s281_37, s281_40, s281_43, s281_44, s281_46, s281_47, s281_48, s281_49, s281_51, s281_54, s281_57, s281_58, s281_59, s281_60, s281_61, s281_62, s281_63, s281_66, s281_69, s281_70, s281_71, s281_72, s281_73, s281_74, s281_75, s281_76, s281_77, s281_78, nI_le2, nI_lt2, nI_eq2, nI_lt0, nI_0le, nI_0lt, nI_le0, nI_eq0, nI_clamp, nI_add, bu_nI, bb_0, bb_1, rf_s, rf_n, tl_s, tl_n, am_th_some, if_true, if_false, sI_eq, uI_eq, and_self, true_and, and_true, not_false_eq_true, not_true_eq_false, Nat.reduceEqDiff, Nat.reduceLeDiff, Nat.reduceLT, Nat.reduceAdd, Nat.reduceMul, Nat.reduceSub, Nat.zero_add, h4', nI_us2, nI_us1]
  · have hx1 : x = 1 ∨ x = 2 ∨ x = 3 := by omega
    have h4' : (x < 4) = True := eq_true (by omega)
    refine ⟨g + x / 2, by omega, ?_, y - nI (x / 2), e2 _ _ _ hy, ?_⟩
    · have : 2 ^ (g + x / 2) = t * 2 ^ (x / 2) := by rw [hg, Nat.pow_add]
      rw [this]
      refine Nat.le_trans (Nat.mul_le_mul_left _ ?_) ht
      rcases hx1 with e | e | e <;> rw [e] <;> omega
    · simp (disch := first | omega | assumption) only [s281_0, s281_1, s281_4, s281_5, s281_8, s281_10, s281_13, s281_14, s281_15, s281_17, s281_18, s281_19, s281_22, s281_25, s281_28, s281_29, s281_31, s281_32, s281_33, s281_34, s281_37, s281_40, s281_43, s281_44, s281_46, s281_47, s281_48, s281_49, s281_51, s281_54, s281_57, s281_58, s281_59, s281_60, s281_61, s281_62, s281_63, s281_66, s281_69, s281_70, s281_71, s281_72, s281_73, s281_74, s281_75, s281_76, s281_77, s281_78, nI_le2, nI_lt2, nI_eq2, nI_lt0, nI_0le, nI_0lt, nI_le0, nI_eq0, nI_clamp, nI_add, bu_nI, bb_0, bb_1, rf_s, rf_n, tl_s, tl_n, am_th_some, if_true, if_false, sI_eq, uI_eq, and_self, true_and, and_true, not_false_eq_true, not_true_eq_false, Nat.reduceEqDiff, Nat.reduceLeDiff, Nat.reduceLT, Nat.reduceAdd, Nat.reduceMul, Nat.reduceSub, Nat.zero_add, h4', nI_us1]
theorem c_nlz {s : Nat} (h0 : 0 < s) (hs : s < 2 ^ 31) : ∃ f, f ≤ 31 ∧ 2 ^ f ≤ s ∧ ∃ z, nI 31 - z = nI f ∧ am_cal d 281 [.int (nI s)] I R Q = some (some (.int z), I, R, Q) := by
  have e2 : ∀ (u : Int32) (a b : Nat), nI 31 - u = nI a → nI 31 - (u + -nI b) = nI (a + b) := fun u a b h => by
    rw [← Int32.sub_eq_add_neg, ← nI_add, ← h, Int32.sub_eq_add_neg, Int32.neg_sub, Int32.sub_eq_add_neg, Int32.sub_eq_add_neg, Int32.add_comm (nI b), ← Int32.add_assoc]
  have st4 : ∀ (x t g : Nat) (y : Int32), 1 ≤ x → x < 256 → t * x ≤ s → t = 2 ^ g → nI 31 - y = nI g → g ≤ 24 → ∃ f, f ≤ 31 ∧ 2 ^ f ≤ s ∧ ∃ z, nI 31 - z = nI f ∧ am_ev d 281 48 [.int (nI x), .int y] [] I R Q = some (some (.int z), I, R, Q) := by
    intro x t g y hx1 hx2 ht hg hy hg2
    by_cases h16 : 16 ≤ x
    · have h' : ¬ x < 16 := by omega
      obtain ⟨f, f1, f2, z, f3, f4⟩ := nlz_4 (d := d) (I := I) (R := R) (Q := Q) (s := s) (t := t * 16) (x := x / 16) (y := y + -nI 4) (by omega) (Nat.le_trans (by rw [Nat.mul_assoc]; exact Nat.mul_le_mul_left _ (by omega)) ht) (g := g + 4) (by rw [hg, Nat.pow_add]) (e2 _ _ _ hy) (by omega)
      refine ⟨f, f1, f2, z, f3, ?_⟩
      rw [← f4]
      simp (disch := first | omega | assumption) only [s281_0, s281_1, s281_4, s281_5, s281_8, s281_10, s281_13, s281_14, s281_15, s281_17, s281_18, s281_19, s281_22, s281_25, s281_28, s281_29, s281_31, s281_32, s281_33, s281_34, s281_37, s281_40, s281_43, s281_44, s281_46, s281_47, s281_48, s281_49, s281_51, s281_54, s281_57, s281_58, s281_59, s281_60, s281_62, s281_63, s281_66, s281_69, s281_70, s281_71, s281_72, s281_73, s281_74, s281_75, s281_76, s281_77, s281_78, nI_le2, nI_lt2, nI_eq2, nI_lt0, nI_0le, nI_0lt, nI_le0, nI_eq0, nI_clamp, nI_add, bu_nI, bb_0, bb_1, rf_s, rf_n, tl_s, tl_n, am_th_some, if_true, if_false, sI_eq, uI_eq, and_self, true_and, and_true, not_false_eq_true, not_true_eq_false, Nat.reduceEqDiff, Nat.reduceLeDiff, Nat.reduceLT, Nat.reduceAdd, Nat.reduceMul, Nat.reduceSub, Nat.zero_add, h', nI_us4]
    · have h' : (x < 16) = True := eq_true (by omega)
      obtain ⟨f, f1, f2, z, f3, f4⟩ := nlz_4 (d := d) (I := I) (R := R) (Q := Q) (s := s) (t := t) (x := x) (y := y) (by omega) ht hg hy (by omega)
      refine ⟨f, f1, f2, z, f3, ?_⟩
      rw [← f4]
      simp (disch := first | omega | assumption) only [s281_0, s281_1, s281_4, s281_5, s281_8, s281_10, s281_13, s281_14, s281_15, s281_17, s281_18, s281_19, s281_22, s281_25, s281_28, s281_29, s281_31, s281_32, s281_33, s281_34, s281_37, s281_40, s281_43, s281_44, s281_46, s281_47, s281_48, s281_49, s281_51, s281_54, s281_57, s281_58, s281_59, s281_60, s281_62, s281_63, s281_66, s281_69, s281_70, s281_71, s281_72, s281_73, s281_74, s281_75, s281_76, s281_77, s281_78, nI_le2, nI_lt2, nI_eq2, nI_lt0, nI_0le, nI_0lt, nI_le0, nI_eq0, nI_clamp, nI_add, bu_nI, bb_0, bb_1, rf_s, rf_n, tl_s, tl_n, am_th_some, if_true, if_false, sI_eq, uI_eq, and_self, true_and, and_true, not_false_eq_true, not_true_eq_false, Nat.reduceEqDiff, Nat.reduceLeDiff, Nat.reduceLT, Nat.reduceAdd, Nat.reduceMul, Nat.reduceSub, Nat.zero_add, h']
  have st8 : ∀ (x t g : Nat) (y : Int32), 1 ≤ x → x < 65536 → t * x ≤ s → t = 2 ^ g → nI 31 - y = nI g → g ≤ 16 → ∃ f, f ≤ 31 ∧ 2 ^ f ≤ s ∧ ∃ z, nI 31 - z = nI f ∧ am_ev d 281 33 [.int (nI x), .int y] [] I R Q = some (some (.int z), I, R, Q) := by
    intro x t g y hx1 hx2 ht hg hy hg2
    by_cases h16 : 256 ≤ x
    · have h' : ¬ x < 256 := by omega
      obtain ⟨f, f1, f2, z, f3, f4⟩ := st4 (x / 256) (t * 256) (g + 8) (y + -nI 8) (by omega) (by omega) (Nat.le_trans (by rw [Nat.mul_assoc]; exact Nat.mul_le_mul_left _ (by omega)) ht) (by rw [hg, Nat.pow_add]) (e2 _ _ _ hy) (by omega)
      refine ⟨f, f1, f2, z, f3, ?_⟩
      rw [← f4]
      simp (disch := first | omega | assumption) only [s281_0, s281_1, s281_4, s281_5, s281_8, s281_10, s281_13, s281_14, s281_15, s281_17, s281_18, s281_19, s281_22, s281_25, s281_28, s281_29, s281_31, s281_32, s281_33, s281_34, s281_37, s281_40, s281_43, s281_44, s281_46, s281_47, s281_49, s281_51, s281_54, s281_57, s281_58, s281_59, s281_60, s281_61, s281_62, s281_63, s281_66, s281_69, s281_70, s281_71, s281_72, s281_73, s281_74, s281_75, s281_76, s281_77, s281_78, nI_le2, nI_lt2, nI_eq2, nI_lt0, nI_0le, nI_0lt, nI_le0, nI_eq0, nI_clamp, nI_add, bu_nI, bb_0, bb_1, rf_s, rf_n, tl_s, tl_n, am_th_some, if_true, if_false, sI_eq, uI_eq, and_self, true_and, and_true, not_false_eq_true, not_true_eq_false, Nat.reduceEqDiff, Nat.reduceLeDiff, Nat.reduceLT, Nat.reduceAdd, Nat.reduceMul, Nat.reduceSub, Nat.zero_add, h', nI_us8]
    · have h' : (x < 256) = True := eq_true (by omega)
      obtain ⟨f, f1, f2, z, f3, f4⟩ := st4 x t g y hx1 (by omega) ht hg hy (by omega)
      refine ⟨f, f1, f2, z, f3, ?_⟩
      rw [← f4]
      simp (disch := first | omega | assumption) only [s281_0, s281_1, s281_4, s281_5, s281_8, s281_10, s281_13, s281_14, s281_15, s281_17, s281_18, s281_19, s281_22, s281_25, s281_28, s281_29, s281_31, s281_32, s281_33, s281_34, s281_37, s281_40, s281_43, s281_44, s281_46, s281_47, s281_49, s281_51, s281_54, s281_57, s281_58, s281_59, s281_60, s281_61, s281_62, s281_63, s281_66, s281_69, s281_70, s281_71, s281_72, s281_73, s281_74, s281_75, s281_76, s281_77, s281_78, nI_le2, nI_lt2, nI_eq2, nI_lt0, nI_0le, nI_0lt, nI_le0, nI_eq0, nI_clamp, nI_add, bu_nI, bb_0, bb_1, rf_s, rf_n, tl_s, tl_n, am_th_some, if_true, if_false, sI_eq, uI_eq, and_self, true_and, and_true, not_false_eq_true, not_true_eq_false, Nat.reduceEqDiff, Nat.reduceLeDiff, Nat.reduceLT, Nat.reduceAdd, Nat.reduceMul, Nat.reduceSub, Nat.zero_add, h']
  have hs0 : ¬ s = 0 := by omega
  rw [s281]
  by_cases h16 : 65536 ≤ s
  · have h' : ¬ s < 65536 := by omega
    obtain ⟨f, f1, f2, z, f3, f4⟩ := st8 (s / 65536) 65536 16 (nI 31 + -nI 16) (by omega) (by omega) (Nat.mul_div_le _ _) rfl (by decide) (by omega)
    refine ⟨f, f1, f2, z, f3, ?_⟩
    rw [← f4]
    simp (disch := first | omega | assumption) only [s281_0, s281_1, s281_4, s281_5, s281_8, s281_10, s281_13, s281_14, s281_15, s281_17, s281_18, s281_19, s281_22, s281_25, s281_28, s281_29, s281_31, s281_32, s281_34, s281_37, s281_40, s281_43, s281_44, s281_46, s281_47, s281_48, s281_49, s281_51, s281_54, s281_57, s281_58, s281_59, s281_60, s281_61, s281_62, s281_63, s281_66, s281_69, s281_70, s281_71, s281_72, s281_73, s281_74, s281_75, s281_76, s281_77, s281_78, nI_le2, nI_lt2, nI_eq2, nI_lt0, nI_0le, nI_0lt, nI_le0, nI_eq0, nI_clamp, nI_add, bu_nI, bb_0, bb_1, rf_s, rf_n, tl_s, tl_n, am_th_some, if_true, if_false, sI_eq, uI_eq, and_self, true_and, and_true, not_false_eq_true, not_true_eq_false, Nat.reduceEqDiff, Nat.reduceLeDiff, Nat.reduceLT, Nat.reduceAdd, Nat.reduceMul, Nat.reduceSub, Nat.zero_add, h', h0, nI_us16]
  · have h' : (s < 65536) = True := eq_true (by omega)
    obtain ⟨f, f1, f2, z, f3, f4⟩ := st8 s 1 0 (nI 31) (by omega) (by omega) (by omega) rfl (by decide) (by omega)
    refine ⟨f, f1, f2, z, f3, ?_⟩
    rw [← f4]
    simp (disch := first | omega | assumption) only [s281_0, s281_1, s281_4, s281_5, s281_8, s281_10, s281_13, s281_14, s281_15, s281_17, s281_18, s281_19, s281_22, s281_25, s281_28, s281_29, s281_31, s281_32, s281_34, s281_37, s281_40, s281_43, s281_44, s281_46, s281_47, s281_48, s281_49, s281_51, s281_54, s281_57, s281_58, s281_59, s281_60, s281_61, s281_62, s281_63, s281_66, s281_69, s281_70, s281_71, s281_72, s281_73, s281_74, s281_75, s281_76, s281_77, s281_78, nI_le2, nI_lt2, nI_eq2, nI_lt0, nI_0le, nI_0lt, nI_le0, nI_eq0, nI_clamp, nI_add, bu_nI, bb_0, bb_1, rf_s, rf_n, tl_s, tl_n, am_th_some, if_true, if_false, sI_eq, uI_eq, and_self, true_and, and_true, not_false_eq_true, not_true_eq_false, Nat.reduceEqDiff, Nat.reduceLeDiff, Nat.reduceLT, Nat.reduceAdd, Nat.reduceMul, Nat.reduceSub, Nat.zero_add, h', h0]
end
/-- the model's cups -/
def mn_at (I : am_I) (k : Nat) (N : Nat → Nat → Nat) : Prop := I 12 0 43 = nI k ∧ ∀ i, i < k → I 65 0 i = nI (N 0 i) ∧ I 66 0 i = nI (N 2 i)
theorem ws_lt {kk n x : Nat} (hx : x ∈ sp_ws kk n) : x < 2 ^ n := by
  induction n with
  | zero => simp [sp_ws] at hx
  | succ n ih =>
    rw [ws_succ] at hx
    rcases List.mem_append.mp hx with h | h
    · exact Nat.lt_trans (ih h) (Nat.pow_lt_pow_right (by decide) (by omega))
    · by_cases e : kk = 1
      · rw [if_pos e] at h
        rw [List.mem_singleton.mp h]
        exact Nat.pow_lt_pow_right (by decide) (by omega)
      · rw [if_neg e] at h
        obtain ⟨l, hl, rfl⟩ := List.mem_map.mp h
        exact or_lt (Nat.pow_lt_pow_right (by decide) (by omega)) (Nat.pow_lt_pow_right (by decide) (by have := List.mem_range.mp hl; omega))
theorem ws_sort {kk n : Nat} : (sp_ws kk n).Pairwise (· < ·) := by
  induction n with
  | zero => simp [sp_ws]
  | succ n ih =>
    rw [ws_succ, List.pairwise_append]
    have hge : ∀ y, y ∈ (if kk = 1 then [2 ^ n] else (List.range n).map fun l => 2 ^ n ||| 2 ^ l) → 2 ^ n ≤ y := by
      intro y hy
      by_cases e : kk = 1
      · rw [if_pos e] at hy; rw [List.mem_singleton.mp hy]; exact Nat.le_refl _
      · rw [if_neg e] at hy
        obtain ⟨l, hl, rfl⟩ := List.mem_map.mp hy
        exact Nat.left_le_or
    refine ⟨ih, ?_, fun x hx y hy => Nat.lt_of_lt_of_le (ws_lt hx) (hge y hy)⟩
    by_cases e : kk = 1
    · rw [if_pos e]; exact List.pairwise_singleton _ _
    · rw [if_neg e, List.pairwise_map]
      refine List.Pairwise.imp_of_mem ?_ (List.pairwise_lt_range (n := n))
      intro a b ha hb hab
      have ha := List.mem_range.mp ha
      have hb := List.mem_range.mp hb
      have h1 : ∀ l, l < n → 2 ^ n ||| 2 ^ l = 2 ^ n + 2 ^ l := fun l hl => by
        have := Nat.two_pow_add_eq_or_of_lt (i := n) (b := 2 ^ l) (Nat.pow_lt_pow_right (by decide) hl) 1
        rw [Nat.mul_one] at this
        exact this.symm
      rw [h1 a ha, h1 b hb]
      have := Nat.pow_lt_pow_right (a := 2) (by decide) hab
      omega
