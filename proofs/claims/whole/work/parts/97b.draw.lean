/-! Draws: both sides. -/
def sp_nx2 (x : Int64) : Int64 := x * 6364136223846793005 + 1442695040888963407
/-- the upper bits of x, as a number -/
def sp_hb (x : Int64) : Nat := x.toBitVec.toNat >>> 33
theorem hb_lt (x : Int64) : sp_hb x < 2 ^ 31 := by
  have := x.toBitVec.isLt
  rw [sp_hb, Nat.shiftRight_eq_div_pow]
  omega
theorem hb_eq (x : Int64) : (x.toUInt64 >>> ((nI 33).toInt64.toUInt64 &&& Int64.toUInt64 63)).toInt64 = (nI (sp_hb x)).toInt64 := by
  apply Int64.toInt_inj.mp
  have hl := hb_lt x
  rw [Int32.toInt_toInt64, nI_toInt hl]
  show (x.toBitVec >>> (33 : Nat)).toInt = _
  rw [BitVec.toInt_eq_toNat_of_lt (by rw [BitVec.toNat_ushiftRight]; show 2 * sp_hb x < _; omega), BitVec.toNat_ushiftRight]
  rfl
theorem lrem_eq {v k : Nat} (hv : v < 2 ^ 31) (hk : k < 2 ^ 31) : ((nI v).toInt64 - (nI v).toInt64 / (nI k).toInt64 * (nI k).toInt64).toInt32 = nI (v % k) := by
  have hq : v / k ≤ v := Nat.div_le_self _ _
  have hm : v / k * k ≤ v := Nat.div_mul_le_self v k
  have hr : v % k ≤ v := Nat.mod_le _ _
  have hd := Nat.mod_eq_sub_div_mul (x := v) (k := k)
  apply Int32.toInt_inj.mp
  rw [Int64.toInt_toInt32, Int64.toInt_sub, Int64.toInt_mul, Int64.toInt_div, Int32.toInt_toInt64, Int32.toInt_toInt64, nI_toInt hv, nI_toInt hk, nI_toInt (by omega), ← Int.ofNat_tdiv]
  generalize v / k = w at hq hm hd ⊢
  rw [bm_64b (x := (w : Int)) (by omega) (by omega), ← Int.natCast_mul]
  generalize hz : w * k = z at hm hd
  rw [bm_64b (x := (z : Int)) (by omega) (by omega), bm_64b (by omega) (by omega), bm_32 (by omega) (by omega)]
  omega
section
variable {d k : Nat} {I : am_I} {R : am_R} {Q : am_Q} {x : Int64}
theorem c_nextx : am_cal d 123 [.long x] I R Q = some (some (.long (sp_nx2 x)), I, R, Q) := by
  rw [s123]
  simp (disch := first | omega | assumption) only [s123_0, s123_1, s123_4, s123_5, s123_8, s123_9, nI_le2, nI_lt2, nI_eq2, nI_lt0, nI_0le, nI_0lt, nI_le0, nI_eq0, nI_clamp, nI_add, bu_nI, bb_0, bb_1, rf_s, rf_n, tl_s, tl_n, am_th_some, if_true, if_false, sI_eq, uI_eq, and_self, true_and, and_true, not_false_eq_true, not_true_eq_false, Nat.reduceEqDiff, Nat.reduceLeDiff, Nat.reduceLT, Nat.reduceAdd, Nat.reduceMul, Nat.reduceSub, Nat.zero_add]
  rfl
theorem l64_ne {k : Nat} (hk : 0 < k) (hk2 : k < 2 ^ 31) : ¬ (nI k).toInt64 = 0 := by
  rw [show (0 : Int64) = (0 : Int32).toInt64 from rfl, l64_inj, nI_eq0 hk2]
  omega
theorem c_drawn (hk : 0 < k) (hk2 : k < 2 ^ 31) : am_cal d 124 [.long x, .int (nI k)] I R Q = some (some (.int (nI (sp_hb x % k))), I, R, Q) := by
  have h0 : ¬ k = 0 := by omega
  have hne := l64_ne hk hk2
  have e := lrem_eq (hb_lt x) hk2
  rw [s124]
  simp (disch := first | omega | assumption) only [s124_0, s124_1, s124_4, s124_5, s124_8, s124_9, s124_11, s124_12, s124_13, s124_14, s124_15, s124_16, nI_le2, nI_lt2, nI_eq2, nI_lt0, nI_0le, nI_0lt, nI_le0, nI_eq0, nI_clamp, nI_add, bu_nI, bb_0, bb_1, rf_s, rf_n, tl_s, tl_n, am_th_some, if_true, if_false, sI_eq, uI_eq, and_self, true_and, and_true, not_false_eq_true, not_true_eq_false, Nat.reduceEqDiff, Nat.reduceLeDiff, Nat.reduceLT, Nat.reduceAdd, Nat.reduceMul, Nat.reduceSub, Nat.zero_add, h0, hk, hb_eq, hne, e]
theorem m_draw (hk : 0 < k) (hk2 : k < 2 ^ 31) (hx : Q 12 0 38 = x) : ∃ Q', am_cal d 233 [.ref (am_mk 12 0), .int (nI k)] I R Q = some (some (.int (nI (sp_hb (sp_nx2 x) % k))), I, R, Q') ∧ Q' 12 0 38 = sp_nx2 x ∧ ∀ a b j, ¬ (a = 12 ∧ b = 0 ∧ j = 38) → Q' a b j = Q a b j := by
  have hne := l64_ne hk hk2
  have e := lrem_eq (hb_lt (sp_nx2 x)) hk2
  have hq : ∀ y, am_sQ Q 12 0 (am_uQ (Q 12 0) 38 y) 12 0 38 = y := fun y => by unfold am_sQ am_uQ; simp
  refine ⟨am_sQ Q 12 0 (am_uQ (Q 12 0) 38 (sp_nx2 x)), ?_, hq _, fun a b j w => ?_⟩
  · have e2 : x * 6364136223846793005 + 1442695040888963407 = sp_nx2 x := rfl
    rw [s233]
    simp (disch := first | omega | assumption) only [s233_0, s233_1, s233_2, s233_5, s233_8, s233_9, s233_12, s233_13, s233_16, s233_17, s233_20, s233_22, s233_23, s233_24, s233_25, s233_26, s233_27, nI_le2, nI_lt2, nI_eq2, nI_lt0, nI_0le, nI_0lt, nI_le0, nI_eq0, nI_clamp, nI_add, bu_nI, bb_0, bb_1, rf_s, rf_n, tl_s, tl_n, am_th_some, if_true, if_false, sI_eq, uI_eq, and_self, true_and, and_true, not_false_eq_true, not_true_eq_false, Nat.reduceEqDiff, Nat.reduceLeDiff, Nat.reduceLT, Nat.reduceAdd, Nat.reduceMul, Nat.reduceSub, Nat.zero_add, hx, e2, hq, hb_eq, hne, e]
  · unfold am_sQ am_uQ
    by_cases q : a = 12 ∧ b = 0
    · rw [if_pos q, if_neg (fun v => w ⟨q.1, q.2, v⟩), q.1, q.2]
    · rw [if_neg q]
end
