/-! FEED, END: both sides. -/
def sp_by (x : Int32) (s : Nat) : Nat := (x.toBitVec.toNat >>> s) % 256
theorem by_lt (x : Int32) (s : Nat) : sp_by x s < 256 := Nat.mod_lt _ (by decide)
theorem and255 (y : BitVec 32) : y &&& 255#32 = BitVec.ofNat 32 (y.toNat % 256) := by
  apply BitVec.eq_of_toNat_eq
  rw [BitVec.toNat_and, BitVec.toNat_ofNat, BitVec.toNat_ofNat, show 255 % 2 ^ 32 = 2 ^ 8 - 1 from rfl, Nat.and_two_pow_sub_one_eq_mod, Nat.mod_eq_of_lt (show y.toNat % 256 < 2 ^ 32 by omega)]
theorem by_u (x : Int32) {s : Nat} (hs : s = 24 ∨ s = 16 ∨ s = 8 ∨ s = 0) : (x.toUInt32 >>> ((nI s).toUInt32 &&& Int32.toUInt32 31)).toInt32 &&& nI 255 = nI (sp_by x s) := by
  apply Int32.toBitVec_inj.mp
  have key : ∀ k : Nat, (x.toBitVec >>> k) &&& 255#32 = BitVec.ofNat 32 (sp_by x k) := fun k => by
    rw [and255, BitVec.toNat_ushiftRight]; rfl
  rcases hs with rfl | rfl | rfl | rfl
  · exact key 24
  · exact key 16
  · exact key 8
  · exact key 0
theorem sshr255 (y : BitVec 32) {k : Nat} (hk : k ≤ 24) : y.sshiftRight k &&& 255#32 = (y >>> k) &&& 255#32 := by
  apply BitVec.eq_of_getLsbD_eq
  intro i hi
  rw [BitVec.getLsbD_and, BitVec.getLsbD_and, BitVec.getLsbD_sshiftRight, BitVec.getLsbD_ushiftRight]
  by_cases e : i < 8
  · rw [decide_eq_false (show ¬ 32 ≤ i by omega), if_pos (show k + i < 32 by omega)]
    rfl
  · have : (255#32).getLsbD i = false := by
      rw [BitVec.getLsbD_ofNat, show (255 : Nat) = 2 ^ 8 - 1 from rfl, Nat.testBit_two_pow_sub_one, decide_eq_false e, Bool.and_false]
    rw [this, Bool.and_false, Bool.and_false]
theorem by_s (x : Int32) {s : Nat} (hs : s = 24 ∨ s = 16 ∨ s = 8 ∨ s = 0) : (x >>> (nI s &&& 31)) &&& nI 255 = nI (sp_by x s) := by
  apply Int32.toBitVec_inj.mp
  have key : ∀ k : Nat, k ≤ 24 → x.toBitVec.sshiftRight k &&& 255#32 = BitVec.ofNat 32 (sp_by x k) := fun k hk => by
    rw [sshr255 _ hk, and255, BitVec.toNat_ushiftRight]; rfl
  rw [Int32.toBitVec_and, Int32.toBitVec_shiftRight]
  rcases hs with rfl | rfl | rfl | rfl
  · exact key 24 (by decide)
  · exact key 16 (by decide)
  · exact key 8 (by decide)
  · exact key 0 (by decide)
/-- a byte more, unless it is 0 -/
def sp_ad (s : Nat × (Nat → Nat)) (v : Nat) : Nat × (Nat → Nat) := if v = 0 then s else (s.1 + 1, fun i => if i = s.1 then v else s.2 i)
def sp_o (v : Nat) : Nat := if v = 0 then 0 else 1
def sp_ct (x : Int32) : Nat := sp_o (sp_by x 24) + sp_o (sp_by x 16) + sp_o (sp_by x 8) + sp_o (sp_by x 0)
def sp_aw (s : Nat × (Nat → Nat)) (x : Int32) : Nat × (Nat → Nat) := sp_ad (sp_ad (sp_ad (sp_ad s (sp_by x 24)) (sp_by x 16)) (sp_by x 8)) (sp_by x 0)
theorem ad_len (s : Nat × (Nat → Nat)) (v : Nat) : (sp_ad s v).1 = s.1 + sp_o v := by
  unfold sp_ad sp_o
  by_cases e : v = 0
  · rw [if_pos e, if_pos e]; rfl
  · rw [if_neg e, if_neg e]
theorem aw_len (s : Nat × (Nat → Nat)) (x : Int32) : (sp_aw s x).1 = s.1 + sp_ct x := by
  unfold sp_aw sp_ct
  rw [ad_len, ad_len, ad_len, ad_len]
  omega
theorem ad_ok {s : Nat × (Nat → Nat)} {v : Nat} (h : tp_ok s.1 s.2) (hv : v < 256) (hl : s.1 + sp_o v ≤ 240) : tp_ok (sp_ad s v).1 (sp_ad s v).2 := by
  unfold sp_ad
  unfold sp_o at hl
  by_cases e : v = 0
  · rw [if_pos e]; exact h
  · rw [if_neg e] at hl ⊢
    refine ⟨hl, fun i hi => ?_⟩
    have hi : i < s.1 + 1 := hi
    show 1 ≤ (if i = s.1 then v else s.2 i) ∧ (if i = s.1 then v else s.2 i) ≤ 255
    by_cases q : i = s.1
    · rw [if_pos q]; omega
    · rw [if_neg q]; exact h.2 i (by omega)
def tf_S : Nat → Nat → Nat → Prop := fun a _ j => a = 13 ∨ (a = 10 ∧ j = 1)
section
variable {d : Nat} {I : am_I} {R : am_R} {Q : am_Q} {x : Int32} {s : Nat × (Nat → Nat)}
theorem c_signsIn : am_cal d 98 [.int x] I R Q = some (some (.int (nI (sp_ct x))), I, R, Q) := by
  have st : ∀ (k c : Nat), (k = 24 ∨ k = 16 ∨ k = 8 ∨ k = 0) → am_ev d 98 5 [.int x, .int (nI c), .int (nI k)] [] I R Q = am_ev d 98 5 [.int x, .int (nI (c + sp_o (sp_by x k))), .int (nI k + -nI 8)] [] I R Q := by
    intro k c hk
    have hb := by_u x hk
    have hlt := by_lt x k
    rw [s98_5]
    have hk0 : ¬ nI k < 0 := nI_pos (by omega)
    by_cases e : sp_by x k = 0
    · rw [sp_o, if_pos e, Nat.add_zero]
      rw [e] at hb
      simp (disch := first | omega | assumption) only [s98_0, s98_1, s98_2, s98_4, s98_6, s98_9, s98_10, s98_11, s98_12, s98_15, s98_16, s98_19, s98_22, s98_25, s98_28, s98_29, nI_le2, nI_lt2, nI_eq2, nI_lt0, nI_0le, nI_0lt, nI_le0, nI_eq0, nI_clamp, nI_add, bu_nI, bb_0, bb_1, rf_s, rf_n, tl_s, tl_n, am_th_some, if_true, if_false, sI_eq, uI_eq, and_self, true_and, and_true, not_false_eq_true, not_true_eq_false, Nat.reduceEqDiff, Nat.reduceLeDiff, Nat.reduceLT, Nat.reduceAdd, Nat.reduceMul, Nat.reduceSub, Nat.zero_add, hk0, hb]
    · rw [sp_o, if_neg e]
      have e' : (nI (sp_by x k) = 0) = False := by rw [nI_eq0 (by omega)]; exact eq_false e
      simp (disch := first | omega | assumption) only [s98_0, s98_1, s98_2, s98_4, s98_6, s98_9, s98_10, s98_11, s98_12, s98_15, s98_16, s98_19, s98_22, s98_25, s98_28, s98_29, nI_le2, nI_lt2, nI_eq2, nI_lt0, nI_0le, nI_0lt, nI_le0, nI_eq0, nI_clamp, nI_add, bu_nI, bb_0, bb_1, rf_s, rf_n, tl_s, tl_n, am_th_some, if_true, if_false, sI_eq, uI_eq, and_self, true_and, and_true, not_false_eq_true, not_true_eq_false, Nat.reduceEqDiff, Nat.reduceLeDiff, Nat.reduceLT, Nat.reduceAdd, Nat.reduceMul, Nat.reduceSub, Nat.zero_add, hk0, hb, e']
  have e1 : nI 24 + -nI 8 = nI 16 := by decide
  have e2 : nI 16 + -nI 8 = nI 8 := by decide
  have e3 : nI 8 + -nI 8 = nI 0 := by decide
  have e4 : nI 0 + -nI 8 < 0 := by decide
  rw [s98]
  simp (disch := first | omega | assumption) only [s98_0, s98_1, s98_2, s98_4, s98_6, s98_9, s98_10, s98_11, s98_12, s98_15, s98_16, s98_19, s98_22, s98_25, s98_28, s98_29, nI_le2, nI_lt2, nI_eq2, nI_lt0, nI_0le, nI_0lt, nI_le0, nI_eq0, nI_clamp, nI_add, bu_nI, bb_0, bb_1, rf_s, rf_n, tl_s, tl_n, am_th_some, if_true, if_false, sI_eq, uI_eq, and_self, true_and, and_true, not_false_eq_true, not_true_eq_false, Nat.reduceEqDiff, Nat.reduceLeDiff, Nat.reduceLT, Nat.reduceAdd, Nat.reduceMul, Nat.reduceSub, Nat.zero_add]
  rw [st 24 0 (by decide), e1, st 16 _ (by decide), e2, st 8 _ (by decide), e3, st 0 _ (by decide), s98_5]
  simp (disch := first | omega | assumption) only [s98_0, s98_1, s98_2, s98_4, s98_6, s98_9, s98_10, s98_11, s98_12, s98_15, s98_16, s98_19, s98_22, s98_25, s98_28, s98_29, nI_le2, nI_lt2, nI_eq2, nI_lt0, nI_0le, nI_0lt, nI_le0, nI_eq0, nI_clamp, nI_add, bu_nI, bb_0, bb_1, rf_s, rf_n, tl_s, tl_n, am_th_some, if_true, if_false, sI_eq, uI_eq, and_self, true_and, and_true, not_false_eq_true, not_true_eq_false, Nat.reduceEqDiff, Nat.reduceLeDiff, Nat.reduceLT, Nat.reduceAdd, Nat.reduceMul, Nat.reduceSub, Nat.zero_add, e4]
  rfl
theorem c_tadd (hr : tc_R R) (hk : tp_ok s.1 s.2) (h : tc_at I s.1 s.2) (hl : s.1 + sp_ct x ≤ 240) : ∃ J, am_cal d 88 [.ref (am_mk 10 0), .int x] I R Q = some (none, J, R, Q) ∧ am_fr tf_S I J ∧ tc_at J (sp_aw s x).1 (sp_aw s x).2 ∧ tp_ok (sp_aw s x).1 (sp_aw s x).2 := by
  have hr : R 10 0 0 = some (am_mk 13 0) := hr
  have one : ∀ (k : Nat) (s : Nat × (Nat → Nat)) (I : am_I) (l3 : Value), (k = 24 ∨ k = 16 ∨ k = 8 ∨ k = 0) → tp_ok s.1 s.2 → tc_at I s.1 s.2 → s.1 + sp_o (sp_by x k) ≤ 240 → ∃ (J : am_I) (l3' : Value), am_ev d 88 3 [.ref (am_mk 10 0), .int x, .int (nI k), l3] [] I R Q = am_ev d 88 3 [.ref (am_mk 10 0), .int x, .int (nI k + -nI 8), l3'] [] J R Q ∧ am_fr tf_S I J ∧ tc_at J (sp_ad s (sp_by x k)).1 (sp_ad s (sp_by x k)).2 ∧ tp_ok (sp_ad s (sp_by x k)).1 (sp_ad s (sp_by x k)).2 := by
    intro k s I l3 hk hok h hl
    have hb := by_u x hk
    have hlt := by_lt x k
    have hk0 : ¬ nI k < 0 := nI_pos (by omega)
    have hok' := ad_ok hok hlt hl
    obtain ⟨h1, h2⟩ := h
    have hL := hok.1
    by_cases e : sp_by x k = 0
    · have es : sp_ad s (sp_by x k) = s := by rw [sp_ad, if_pos e]
      rw [es] at hok' ⊢
      rw [e] at hb
      refine ⟨I, .int (nI 0), ?_, fr_rf, ⟨h1, h2⟩, hok'⟩
      rw [s88_3]
      simp (disch := first | omega | assumption) only [s88_0, s88_2, s88_4, s88_7, s88_8, s88_9, s88_10, s88_13, s88_14, s88_15, s88_16, s88_19, s88_20, s88_23, s88_26, s88_27, s88_30, s88_31, s88_34, s88_35, s88_38, s88_39, s88_42, s88_43, s88_46, s88_47, s88_48, s88_49, s88_50, s88_53, s88_54, s88_55, s88_58, s88_61, s88_64, nI_le2, nI_lt2, nI_eq2, nI_lt0, nI_0le, nI_0lt, nI_le0, nI_eq0, nI_clamp, nI_add, bu_nI, bb_0, bb_1, rf_s, rf_n, tl_s, tl_n, am_th_some, if_true, if_false, sI_eq, uI_eq, and_self, true_and, and_true, not_false_eq_true, not_true_eq_false, Nat.reduceEqDiff, Nat.reduceLeDiff, Nat.reduceLT, Nat.reduceAdd, Nat.reduceMul, Nat.reduceSub, Nat.zero_add, hk0, hb]
    · have es : sp_ad s (sp_by x k) = (s.1 + 1, fun i => if i = s.1 then sp_by x k else s.2 i) := by rw [sp_ad, if_neg e]
      rw [sp_o, if_neg e] at hl
      rw [es] at hok' ⊢
      have e' : (nI (sp_by x k) = 0) = False := by rw [nI_eq0 (by omega)]; exact eq_false e
      have e1 : ¬ 240 ≤ s.1 := by omega
      have e2 : s.1 < 240 := by omega
      refine ⟨am_sI (am_sI I 13 0 (am_uI (I 13 0) s.1 (nI (sp_by x k)))) 10 0 (am_uI (I 10 0) 1 (nI (s.1 + 1))), .int (nI (sp_by x k)), ?_, ?_, ⟨?_, fun i hi => ?_⟩, hok'⟩
      · rw [s88_3]
        simp (disch := first | omega | assumption) only [s88_0, s88_2, s88_4, s88_7, s88_8, s88_9, s88_10, s88_13, s88_14, s88_15, s88_16, s88_19, s88_20, s88_23, s88_26, s88_27, s88_30, s88_31, s88_34, s88_35, s88_38, s88_39, s88_42, s88_43, s88_46, s88_47, s88_48, s88_49, s88_50, s88_53, s88_54, s88_55, s88_58, s88_61, s88_64, nI_le2, nI_lt2, nI_eq2, nI_lt0, nI_0le, nI_0lt, nI_le0, nI_eq0, nI_clamp, nI_add, bu_nI, bb_0, bb_1, rf_s, rf_n, tl_s, tl_n, am_th_some, if_true, if_false, sI_eq, uI_eq, and_self, true_and, and_true, not_false_eq_true, not_true_eq_false, Nat.reduceEqDiff, Nat.reduceLeDiff, Nat.reduceLT, Nat.reduceAdd, Nat.reduceMul, Nat.reduceSub, Nat.zero_add, hr, hk0, hb, e', h1, e1, e2, sI_na]
      · exact fr_h (fr_s fr_rf (Or.inl rfl)) (Or.inr ⟨rfl, rfl⟩)
      · rw [sI_eq, uI_eq]
      · have hi : i < s.1 + 1 := hi
        show _ = nI (if i = s.1 then sp_by x k else s.2 i)
        rw [sI_na (by omega), sI_eq]
        by_cases q : i = s.1
        · rw [q, uI_eq, if_pos rfl]
        · rw [uI_ne q, if_neg q]; exact h2 i (by omega)
  have e1 : nI 24 + -nI 8 = nI 16 := by decide
  have e2 : nI 16 + -nI 8 = nI 8 := by decide
  have e3 : nI 8 + -nI 8 = nI 0 := by decide
  have e4 : nI 0 + -nI 8 < 0 := by decide
  unfold sp_ct at hl
  obtain ⟨J1, l1, a1, a2, a3, a4⟩ := one 24 s I am_J (by decide) hk h (by omega)
  obtain ⟨J2, l2, b1, b2, b3, b4⟩ := one 16 _ J1 l1 (by decide) a4 a3 (by rw [ad_len]; omega)
  obtain ⟨J3, l3, c1, c2, c3, c4⟩ := one 8 _ J2 l2 (by decide) b4 b3 (by rw [ad_len, ad_len]; omega)
  obtain ⟨J4, l4, d1, d2, d3, d4⟩ := one 0 _ J3 l3 (by decide) c4 c3 (by rw [ad_len, ad_len, ad_len]; omega)
  refine ⟨J4, ?_, fr_tr (fr_tr (fr_tr a2 b2) c2) d2, d3, d4⟩
  rw [s88]
  simp (disch := first | omega | assumption) only [s88_0, s88_2, s88_4, s88_7, s88_8, s88_9, s88_10, s88_13, s88_14, s88_15, s88_16, s88_19, s88_20, s88_23, s88_26, s88_27, s88_30, s88_31, s88_34, s88_35, s88_38, s88_39, s88_42, s88_43, s88_46, s88_47, s88_48, s88_49, s88_50, s88_53, s88_54, s88_55, s88_58, s88_61, s88_64, nI_le2, nI_lt2, nI_eq2, nI_lt0, nI_0le, nI_0lt, nI_le0, nI_eq0, nI_clamp, nI_add, bu_nI, bb_0, bb_1, rf_s, rf_n, tl_s, tl_n, am_th_some, if_true, if_false, sI_eq, uI_eq, and_self, true_and, and_true, not_false_eq_true, not_true_eq_false, Nat.reduceEqDiff, Nat.reduceLeDiff, Nat.reduceLT, Nat.reduceAdd, Nat.reduceMul, Nat.reduceSub, Nat.zero_add]
  rw [a1, e1, b1, e2, c1, e3, d1, s88_3]
  simp (disch := first | omega | assumption) only [s88_0, s88_2, s88_4, s88_7, s88_8, s88_9, s88_10, s88_13, s88_14, s88_15, s88_16, s88_19, s88_20, s88_23, s88_26, s88_27, s88_30, s88_31, s88_34, s88_35, s88_38, s88_39, s88_42, s88_43, s88_46, s88_47, s88_48, s88_49, s88_50, s88_53, s88_54, s88_55, s88_58, s88_61, s88_64, nI_le2, nI_lt2, nI_eq2, nI_lt0, nI_0le, nI_0lt, nI_le0, nI_eq0, nI_clamp, nI_add, bu_nI, bb_0, bb_1, rf_s, rf_n, tl_s, tl_n, am_th_some, if_true, if_false, sI_eq, uI_eq, and_self, true_and, and_true, not_false_eq_true, not_true_eq_false, Nat.reduceEqDiff, Nat.reduceLeDiff, Nat.reduceLT, Nat.reduceAdd, Nat.reduceMul, Nat.reduceSub, Nat.zero_add, e4]
end
