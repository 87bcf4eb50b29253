/-! LAW texts: what is read, the model. -/
def zl_t (x : Nat) : Nat := if x = 112 then 0 else if x = 109 then 1 else if x = 116 then 2 else if x = 105 then 3 else if x = 100 then 4 else if x = 101 then 5 else 6
def zl_k (t : Nat) : Nat := if t < 10000 then 0 else if zl_t (t - 10000) < 6 then 1 else if t = 10033 then 9 else sp_oc (t - 10000)
def zl_v (t : Nat) : Nat := if t < 10000 then t else if zl_t (t - 10000) < 6 then zl_t (t - 10000) else 0
theorem zt_in : ∀ x, x < 256 → (zl_t x < 6 ↔ sp_in 5 x) := by decide +kernel
theorem zi_4 {x : Nat} : sp_in 4 x ↔ x = 42 ∨ x = 47 := by show x ∈ [42, 47] ↔ _; simp
theorem zi_3 {x : Nat} : sp_in 3 x ↔ x = 43 ∨ x = 45 := by show x ∈ [43, 45] ↔ _; simp
theorem zi_2 {x : Nat} : sp_in 2 x ↔ x = 61 ∨ x = 60 ∨ x = 62 := by show x ∈ [61, 60, 62] ↔ _; simp
theorem zi_1 {x : Nat} : sp_in 1 x ↔ x = 33 ∨ x = 40 := by show x ∈ [33, 40] ↔ _; simp
def zm_ml (I : am_I) (n : Nat) (C : List Nat) : Prop := I 45 0 n = nI C.length ∧ ∀ i (h : i < C.length), I 43 0 (520 * n + i) = nI (zl_k C[i]) ∧ I 44 0 (520 * n + i) = nI (zl_v C[i])
def zp_S (n : Nat) : Nat → Nat → Nat → Prop := fun a _ j => ((a = 43 ∨ a = 44) ∧ 520 * n ≤ j ∧ j < 520 * n + 520) ∨ (a = 45 ∧ j = n)
def zm_S (n : Nat) : Nat → Nat → Nat → Prop := fun a _ j => (a = 12 ∧ (j = 3 ∨ j = 4 ∨ j = 5)) ∨ ((a = 43 ∨ a = 44) ∧ 520 * n ≤ j ∧ j < 520 * n + 520) ∨ (a = 45 ∧ j = n)
def zf_at (I : am_I) (n : Nat) (C : List Nat) : Prop := I 12 0 14 = nI n ∧ zm_ml I n C
def zm_at (I : am_I) (L : Nat) (B : Nat → Nat) (n a dp : Nat) (C : List Nat) : Prop := tm_at I L B ∧ I 12 0 3 = nI a ∧ I 12 0 4 = -nI 1 ∧ I 12 0 5 = nI dp ∧ zf_at I n C
def zm_P (L : Nat) (B : Nat → Nat) (n dp a : Nat) (C0 : List Nat) (ok : Bool) (a' : Nat) (C : List Nat) (I J : am_I) (C1 : List Nat) : Prop := am_fr (zm_S n) I J ∧ (ok = true → zm_at J L B n a' dp (C0 ++ C)) ∧ (ok = false → zf_at J n C1 ∧ J 12 0 4 = nI a' ∧ C1.length + a ≤ C0.length + a')
def zm_K (L : Nat) (B : Nat → Nat) (N M dp a : Nat) (ok : Bool) (a' : Nat) (C : List Nat) : Prop := ∀ (d : Nat) (I : am_I) (R : am_R) (Q : am_Q) (n : Nat) (C0 : List Nat), N ≤ d → mm_R R → n < 5 → zm_at I L B n a dp C0 → C0.length ≤ a → ∃ (J : am_I) (C1 : List Nat), am_cal d M [.ref (am_mk 12 0)] I R Q = some (none, J, R, Q) ∧ zm_P L B n dp a C0 ok a' C I J C1
def zm_W (L : Nat) (B : Nat → Nat) (N M dp a : Nat) (ok : Bool) (a' : Nat) (C : List Nat) : Prop := ∀ (d : Nat) (I : am_I) (R : am_R) (Q : am_Q) (n : Nat) (C0 : List Nat), N ≤ d → mm_R R → n < 5 → zm_at I L B n (sp_sk L B a) dp C0 → C0.length ≤ a → ∃ (J : am_I) (C1 : List Nat), am_ev d M 21 [.ref (am_mk 12 0), .int (sp_hm L B (sp_sk L B a))] [] I R Q = some (none, J, R, Q) ∧ zm_P L B n dp a C0 ok a' C I J C1
theorem hm_eq {L : Nat} {B : Nat → Nat} {a x : Nat} (hk : tp_ok L B) (h0 : 0 < x) (h1 : x < 2 ^ 31) : (sp_hm L B a = nI x) = (sp_hr L B a = x) := by
  rw [sp_hm, sp_hr]
  by_cases e : a < L
  · rw [if_pos e, if_pos e, nI_eq2 (by have := (hk.2 a e).2; omega) h1]
  · rw [if_neg e, if_neg e]
    exact propext ⟨fun w => absurd w.symm (m1_ne h1), fun w => by omega⟩
theorem hm_m1 {L : Nat} {B : Nat → Nat} {a : Nat} (hk : tp_ok L B) : (sp_hm L B a = -nI 1) = ¬ a < L := by
  rw [sp_hm]
  by_cases e : a < L
  · rw [if_pos e]; exact propext ⟨fun w => absurd w (m1_ne (by have := (hk.2 a e).2; omega)), fun w => absurd e w⟩
  · rw [if_neg e]; exact propext ⟨fun _ => e, fun _ => rfl⟩
theorem zf_fr {Z : Nat → Nat → Nat → Prop} {I J : am_I} {n : Nat} {C : List Nat} (h : zf_at I n C) (hf : am_fr Z I J) (h1 : ¬ Z 12 0 14) (h2 : ¬ Z 45 0 n) (h3 : ∀ j, ¬ Z 43 0 j) (h4 : ∀ j, ¬ Z 44 0 j) : zf_at J n C := ⟨(hf _ _ _ h1).trans h.1, (hf _ _ _ h2).trans h.2.1, fun i hi => ⟨(hf _ _ _ (h3 _)).trans (h.2.2 i hi).1, (hf _ _ _ (h4 _)).trans (h.2.2 i hi).2⟩⟩
section
variable {d L a n dp : Nat} {I : am_I} {R : am_R} {Q : am_Q} {B : Nat → Nat} {C : List Nat} {x : Int32}
theorem zf_3 (h : zf_at I n C) : am_fr (zm_S n) I (am_sI I 12 0 (am_uI (I 12 0) 3 x)) ∧ zf_at (am_sI I 12 0 (am_uI (I 12 0) 3 x)) n C ∧ (am_sI I 12 0 (am_uI (I 12 0) 3 x)) 12 0 4 = I 12 0 4 := by
  have hf : am_fr (fun a _ j => a = 12 ∧ j = 3) I (am_sI I 12 0 (am_uI (I 12 0) 3 x)) := fr_s fr_rf ⟨rfl, rfl⟩
  exact ⟨fr_mo hf fun a b j w => Or.inl ⟨w.1, Or.inl w.2⟩, zf_fr h hf (fun w => by omega) (fun w => by omega) (fun j w => by omega) (fun j w => by omega), hf _ _ _ (fun w => by omega)⟩
theorem zf_5 (h : zf_at I n C) : am_fr (zm_S n) I (am_sI I 12 0 (am_uI (I 12 0) 5 x)) ∧ zf_at (am_sI I 12 0 (am_uI (I 12 0) 5 x)) n C ∧ (am_sI I 12 0 (am_uI (I 12 0) 5 x)) 12 0 4 = I 12 0 4 := by
  have hf : am_fr (fun a _ j => a = 12 ∧ j = 5) I (am_sI I 12 0 (am_uI (I 12 0) 5 x)) := fr_s fr_rf ⟨rfl, rfl⟩
  exact ⟨fr_mo hf fun a b j w => Or.inl ⟨w.1, Or.inr (Or.inr w.2)⟩, zf_fr h hf (fun w => by omega) (fun w => by omega) (fun j w => by omega) (fun j w => by omega), hf _ _ _ (fun w => by omega)⟩
theorem zm_3 (h : zm_at I L B n a dp C) {a' : Nat} : am_fr (zm_S n) I (am_sI I 12 0 (am_uI (I 12 0) 3 (nI a'))) ∧ zm_at (am_sI I 12 0 (am_uI (I 12 0) 3 (nI a'))) L B n a' dp C := by
  obtain ⟨h1, h2, h3, h4, h5⟩ := h
  have hf : am_fr (fun a _ j => a = 12 ∧ j = 3) I (am_sI I 12 0 (am_uI (I 12 0) 3 (nI a'))) := fr_s fr_rf ⟨rfl, rfl⟩
  obtain ⟨k1, k2, k3⟩ := zf_3 (x := nI a') h5
  exact ⟨k1, tm_fr h1 hf (fun w => by omega) (fun j w => by omega), by rw [sI_eq, uI_eq], k3.trans h3, (hf _ _ _ (fun w => by omega)).trans h4, k2⟩
theorem zm_5 (h : zm_at I L B n a dp C) {a' : Nat} : am_fr (zm_S n) I (am_sI I 12 0 (am_uI (I 12 0) 5 (nI a'))) ∧ zm_at (am_sI I 12 0 (am_uI (I 12 0) 5 (nI a'))) L B n a a' C := by
  obtain ⟨h1, h2, h3, h4, h5⟩ := h
  have hf : am_fr (fun a _ j => a = 12 ∧ j = 5) I (am_sI I 12 0 (am_uI (I 12 0) 5 (nI a'))) := fr_s fr_rf ⟨rfl, rfl⟩
  obtain ⟨k1, k2, k3⟩ := zf_5 (x := nI a') h5
  exact ⟨k1, tm_fr h1 hf (fun w => by omega) (fun j w => by omega), (hf _ _ _ (fun w => by omega)).trans h2, k3.trans h3, by rw [sI_eq, uI_eq], k2⟩
theorem zm_look (hr : mm_R R) (hk : tp_ok L B) (h : zm_at I L B n a dp C) (haL : a ≤ L) : ∃ J, am_cal (d + 1) 164 [.ref (am_mk 12 0)] I R Q = some (some (.int (sp_hm L B (sp_sk L B a))), J, R, Q) ∧ am_fr (zm_S n) I J ∧ zm_at J L B n (sp_sk L B a) dp C := by
  obtain ⟨h1, h2, h3, h4, h5⟩ := h
  obtain ⟨J, g1, g2, g3⟩ := m_look (d := d) (Q := Q) hr hk h1 h2 haL
  have ht : ∀ (a b j : Nat), tm_S a b j → a = 12 ∧ j = 3 := fun a b j w => w
  exact ⟨J, g1, fr_mo g2 fun a b j w => Or.inl ⟨(ht _ _ _ w).1, Or.inl (ht _ _ _ w).2⟩, tm_fr h1 g2 (fun w => by have := ht _ _ _ w; omega) (fun j w => by have := ht _ _ _ w; omega), g3, (g2 _ _ _ (fun w => by have := ht _ _ _ w; omega)).trans h3, (g2 _ _ _ (fun w => by have := ht _ _ _ w; omega)).trans h4, zf_fr h5 g2 (fun w => by have := ht _ _ _ w; omega) (fun w => by have := ht _ _ _ w; omega) (fun j w => by have := ht _ _ _ w; omega) (fun j w => by have := ht _ _ _ w; omega)⟩
theorem zm_bad (h : zm_at I L B n a dp C) : ∃ J, am_cal d 165 [.ref (am_mk 12 0)] I R Q = some (none, J, R, Q) ∧ am_fr (zm_S n) I J ∧ zf_at J n C ∧ J 12 0 4 = nI a := by
  obtain ⟨h1, h2, h3, h4, h5⟩ := h
  obtain ⟨J, g1, g2, g3⟩ := m_bad (d := d) (R := R) (Q := Q) h2 h3
  rw [sp_bad, if_pos rfl] at g3
  exact ⟨J, g1, fr_mo g2 fun a b j w => Or.inl ⟨w.1, Or.inr (Or.inl w.2)⟩, zf_fr h5 g2 (fun w => by omega) (fun w => by omega) (fun j w => by omega) (fun j w => by omega), g3⟩
theorem zf_put (hr : mm_R R) (hn : n < 5) (h : zf_at I n C) (hl : C.length < 520) (t : Nat) : ∃ J, am_cal d 167 [.ref (am_mk 12 0), .int (nI (zl_k t)), .int (nI (zl_v t))] I R Q = some (none, J, R, Q) ∧ am_fr (zp_S n) I J ∧ zf_at J n (C ++ [t]) := by
  obtain ⟨h1, h2, h3⟩ := h
  have hin : 520 * n + C.length < 2600 := by omega
  have r6 := mr6 hr
  have r7 := mr7 hr
  have r8 := mr8 hr
  refine ⟨am_sI (am_sI (am_sI I 43 0 (am_uI (I 43 0) (520 * n + C.length) (nI (zl_k t)))) 44 0 (am_uI (I 44 0) (520 * n + C.length) (nI (zl_v t)))) 45 0 (am_uI (I 45 0) n (nI (C.length + 1))), ?_, ?_, ?_, ?_, fun i hi => ?_⟩
  · rw [s167]
    simp (disch := first | omega | assumption) only [s167_0, s167_1, s167_4, s167_7, s167_8, s167_11, s167_12, s167_13, s167_16, s167_17, s167_20, s167_21, s167_22, s167_23, s167_24, s167_25, s167_28, s167_31, s167_32, s167_35, s167_36, s167_37, s167_40, s167_41, s167_44, s167_45, s167_46, s167_47, s167_48, s167_49, s167_52, s167_53, s167_56, s167_57, s167_58, s167_59, s167_60, s167_61, nI_le2, nI_lt2, nI_eq2, nI_lt0, nI_0le, nI_0lt, nI_le0, nI_eq0, nI_clamp, nI_add, bu_nI, bb_0, bb_1, rf_s, rf_n, tl_s, tl_n, am_th_some, if_true, if_false, sI_eq, uI_eq, and_self, true_and, and_true, not_false_eq_true, not_true_eq_false, Nat.reduceEqDiff, Nat.reduceLeDiff, Nat.reduceLT, Nat.reduceAdd, Nat.reduceMul, Nat.reduceSub, Nat.zero_add, r6, r7, r8, h1, h2, nI_mul, sI_na]
  · exact fr_h (fr_h (fr_s fr_rf (Or.inl ⟨Or.inl rfl, by omega, by omega⟩)) (Or.inl ⟨Or.inr rfl, by omega, by omega⟩)) (Or.inr ⟨rfl, rfl⟩)
  · rw [sI_na (by omega), sI_na (by omega), sI_na (by omega)]; exact h1
  · rw [sI_eq, uI_eq, List.length_append, List.length_singleton]
  · have hi2 : i < C.length + 1 := by rw [List.length_append, List.length_singleton] at hi; exact hi
    rw [sI_na (by omega), sI_na (by omega), sI_eq, sI_na (by omega), sI_eq]
    by_cases e : i = C.length
    · subst e
      rw [uI_eq, uI_eq, List.getElem_append_right (Nat.le_refl _)]
      simp
    · rw [uI_ne (by omega), uI_ne (by omega), List.getElem_append_left (show i < C.length by omega)]
      exact h3 i (by omega)
theorem zm_put (hr : mm_R R) (hn : n < 5) (h : zm_at I L B n a dp C) (hl : C.length < 520) (t : Nat) : ∃ J, am_cal d 167 [.ref (am_mk 12 0), .int (nI (zl_k t)), .int (nI (zl_v t))] I R Q = some (none, J, R, Q) ∧ am_fr (zm_S n) I J ∧ zm_at J L B n a dp (C ++ [t]) := by
  obtain ⟨h1, h2, h3, h4, h5⟩ := h
  obtain ⟨J, g1, g2, g3⟩ := zf_put (d := d) (Q := Q) hr hn h5 hl t
  have ht : ∀ (a b j : Nat), zp_S n a b j → a = 43 ∨ a = 44 ∨ a = 45 := fun a b j w => by unfold zp_S at w; omega
  exact ⟨J, g1, fr_mo g2 fun a b j w => Or.inr w, tm_fr h1 g2 (fun w => by have := ht _ _ _ w; omega) (fun j w => by have := ht _ _ _ w; omega), (g2 _ _ _ (fun w => by have := ht _ _ _ w; omega)).trans h2, (g2 _ _ _ (fun w => by have := ht _ _ _ w; omega)).trans h3, (g2 _ _ _ (fun w => by have := ht _ _ _ w; omega)).trans h4, g3⟩
theorem zw_put (hr : mm_R R) (hn : n < 5) (h : zf_at I n C) (hl : C.length < 520) (t : Nat) : ∃ J, am_cal d 167 [.ref (am_mk 12 0), .int (nI (zl_k t)), .int (nI (zl_v t))] I R Q = some (none, J, R, Q) ∧ am_fr (zm_S n) I J ∧ zf_at J n (C ++ [t]) ∧ J 12 0 4 = I 12 0 4 := by
  obtain ⟨J, g1, g2, g3⟩ := zf_put (d := d) (Q := Q) hr hn h hl t
  exact ⟨J, g1, fr_mo g2 fun a b j w => Or.inr w, g3, g2 _ _ _ (fun w => by unfold zp_S at w; omega)⟩
theorem zm_opens (h : zm_at I L B n a dp C) (hd : dp < 6) : ∃ J, am_cal (d + 1) 169 [.ref (am_mk 12 0)] I R Q = some (none, J, R, Q) ∧ am_fr (zm_S n) I J ∧ zm_at J L B n (a + 1) (dp + 1) C := by
  have h2 := h.2.1
  have h4 := h.2.2.2.1
  obtain ⟨f1, k1⟩ := zm_5 (a' := dp + 1) h
  obtain ⟨f2, k2⟩ := zm_3 (a' := a + 1) k1
  have q : ¬ dp = 6 := by omega
  refine ⟨_, ?_, fr_tr f1 f2, k2⟩
  rw [s169]
  simp (disch := first | omega | assumption) only [s169_0, s169_1, s169_4, s169_6, s169_9, s169_10, s169_13, s169_14, s169_15, s169_18, s169_19, s169_20, s169_23, s169_24, s169_25, s169_28, s169_29, s169_30, s169_33, nI_le2, nI_lt2, nI_eq2, nI_lt0, nI_0le, nI_0lt, nI_le0, nI_eq0, nI_clamp, nI_add, bu_nI, bb_0, bb_1, rf_s, rf_n, tl_s, tl_n, am_th_some, if_true, if_false, sI_eq, uI_eq, and_self, true_and, and_true, not_false_eq_true, not_true_eq_false, Nat.reduceEqDiff, Nat.reduceLeDiff, Nat.reduceLT, Nat.reduceAdd, Nat.reduceMul, Nat.reduceSub, Nat.zero_add, h2, h4, q, uI_ne]
theorem zm_opensBad (h : zm_at I L B n a 6 C) : ∃ J, am_cal (d + 1) 169 [.ref (am_mk 12 0)] I R Q = some (none, J, R, Q) ∧ am_fr (zm_S n) I J ∧ zf_at J n C ∧ J 12 0 4 = nI a := by
  have h4 := h.2.2.2.1
  obtain ⟨J, g1, f1, k1, w1⟩ := zm_bad (d := d) (R := R) (Q := Q) h
  obtain ⟨f2, k2, w2⟩ := zf_5 (x := J 12 0 5 + nI 1) k1
  obtain ⟨f3, k3, w3⟩ := zf_3 (x := J 12 0 3 + nI 1) k2
  refine ⟨_, ?_, fr_tr (fr_tr f1 f2) f3, k3, w3.trans (w2.trans w1)⟩
  rw [s169]
  simp (disch := first | omega | assumption) only [s169_0, s169_1, s169_4, s169_6, s169_9, s169_10, s169_13, s169_14, s169_15, s169_18, s169_19, s169_20, s169_23, s169_24, s169_25, s169_28, s169_29, s169_30, s169_33, nI_le2, nI_lt2, nI_eq2, nI_lt0, nI_0le, nI_0lt, nI_le0, nI_eq0, nI_clamp, nI_add, bu_nI, bb_0, bb_1, rf_s, rf_n, tl_s, tl_n, am_th_some, if_true, if_false, sI_eq, uI_eq, and_self, true_and, and_true, not_false_eq_true, not_true_eq_false, Nat.reduceEqDiff, Nat.reduceLeDiff, Nat.reduceLT, Nat.reduceAdd, Nat.reduceMul, Nat.reduceSub, Nat.zero_add, h4, g1, uI_ne]
theorem zm_closes (hr : mm_R R) (hk : tp_ok L B) (h : zm_at I L B n a (dp + 1) C) (haL : a ≤ L) {c : Nat} (h0 : 0 < c) (h1 : c < 2 ^ 31) (e : sp_hr L B (sp_sk L B a) = c) : ∃ J, am_cal (d + 2) 170 [.ref (am_mk 12 0), .int (nI c)] I R Q = some (none, J, R, Q) ∧ am_fr (zm_S n) I J ∧ zm_at J L B n (sp_sk L B a + 1) dp C := by
  have hw := h.2.2.1
  obtain ⟨J, g1, f1, k1⟩ := zm_look (d := d) (Q := Q) hr hk h haL
  have h2 := k1.2.1
  have h4 := k1.2.2.2.1
  obtain ⟨f2, k2⟩ := zm_3 (a' := sp_sk L B a + 1) k1
  obtain ⟨f3, k3⟩ := zm_5 (a' := dp) k2
  have q := (hm_eq (a := sp_sk L B a) hk h0 h1).trans (eq_true e)
  have e1 : nI (dp + 1) - nI 1 = nI dp := nI_sub (by omega)
  refine ⟨_, ?_, fr_tr (fr_tr f1 f2) f3, k3⟩
  rw [s170]
  simp (disch := first | omega | assumption) only [s170_0, s170_1, s170_4, s170_5, s170_8, s170_9, s170_12, s170_13, s170_16, s170_17, s170_20, s170_21, s170_22, s170_25, s170_26, s170_27, s170_30, s170_31, s170_32, s170_35, s170_36, s170_37, s170_40, nI_le2, nI_lt2, nI_eq2, nI_lt0, nI_0le, nI_0lt, nI_le0, nI_eq0, nI_clamp, nI_add, bu_nI, bb_0, bb_1, rf_s, rf_n, tl_s, tl_n, am_th_some, if_true, if_false, sI_eq, uI_eq, and_self, true_and, and_true, not_false_eq_true, not_true_eq_false, Nat.reduceEqDiff, Nat.reduceLeDiff, Nat.reduceLT, Nat.reduceAdd, Nat.reduceMul, Nat.reduceSub, Nat.zero_add, hw, h2, h4, g1, q, e1, uI_ne]
theorem zm_closesNo (hr : mm_R R) (hk : tp_ok L B) (h : zm_at I L B n a dp C) (haL : a ≤ L) {c : Nat} (h0 : 0 < c) (h1 : c < 2 ^ 31) (e : ¬ sp_hr L B (sp_sk L B a) = c) : ∃ J, am_cal (d + 2) 170 [.ref (am_mk 12 0), .int (nI c)] I R Q = some (none, J, R, Q) ∧ am_fr (zm_S n) I J ∧ zf_at J n C ∧ J 12 0 4 = nI (sp_sk L B a) := by
  have hw := h.2.2.1
  obtain ⟨J, g1, f1, k1⟩ := zm_look (d := d) (Q := Q) hr hk h haL
  obtain ⟨J2, g2, f2, k2, w2⟩ := zm_bad (d := d + 1) (R := R) (Q := Q) k1
  obtain ⟨f3, k3, w3⟩ := zf_3 (x := J2 12 0 3 + nI 1) k2
  obtain ⟨f4, k4, w4⟩ := zf_5 (x := J2 12 0 5 - nI 1) k3
  have q := (hm_eq (a := sp_sk L B a) hk h0 h1).trans (eq_false e)
  refine ⟨_, ?_, fr_tr (fr_tr (fr_tr f1 f2) f3) f4, k4, w4.trans (w3.trans w2)⟩
  rw [s170]
  simp (disch := first | omega | assumption) only [s170_0, s170_1, s170_4, s170_5, s170_8, s170_9, s170_12, s170_13, s170_16, s170_17, s170_20, s170_21, s170_22, s170_25, s170_26, s170_27, s170_30, s170_31, s170_32, s170_35, s170_36, s170_37, s170_40, nI_le2, nI_lt2, nI_eq2, nI_lt0, nI_0le, nI_0lt, nI_le0, nI_eq0, nI_clamp, nI_add, bu_nI, bb_0, bb_1, rf_s, rf_n, tl_s, tl_n, am_th_some, if_true, if_false, sI_eq, uI_eq, and_self, true_and, and_true, not_false_eq_true, not_true_eq_false, Nat.reduceEqDiff, Nat.reduceLeDiff, Nat.reduceLT, Nat.reduceAdd, Nat.reduceMul, Nat.reduceSub, Nat.zero_add, hw, g1, g2, q, uI_ne]
theorem zw_closes (h : zf_at I n C) {w : Nat} (hw : I 12 0 4 = nI w) (hwl : w < 2 ^ 31) {c : Int32} : ∃ J, am_cal d 170 [.ref (am_mk 12 0), .int c] I R Q = some (none, J, R, Q) ∧ am_fr (zm_S n) I J ∧ zf_at J n C ∧ J 12 0 4 = nI w := by
  obtain ⟨f3, k3, w3⟩ := zf_3 (x := I 12 0 3 + nI 1) h
  obtain ⟨f4, k4, w4⟩ := zf_5 (x := I 12 0 5 - nI 1) k3
  have q : ¬ nI w = -nI 1 := m1_ne hwl
  refine ⟨_, ?_, fr_tr f3 f4, k4, w4.trans (w3.trans hw)⟩
  rw [s170]
  simp (disch := first | omega | assumption) only [s170_0, s170_1, s170_4, s170_5, s170_8, s170_9, s170_12, s170_13, s170_16, s170_17, s170_20, s170_21, s170_22, s170_25, s170_26, s170_27, s170_30, s170_31, s170_32, s170_35, s170_36, s170_37, s170_40, nI_le2, nI_lt2, nI_eq2, nI_lt0, nI_0le, nI_0lt, nI_le0, nI_eq0, nI_clamp, nI_add, bu_nI, bb_0, bb_1, rf_s, rf_n, tl_s, tl_n, am_th_some, if_true, if_false, sI_eq, uI_eq, and_self, true_and, and_true, not_false_eq_true, not_true_eq_false, Nat.reduceEqDiff, Nat.reduceLeDiff, Nat.reduceLT, Nat.reduceAdd, Nat.reduceMul, Nat.reduceSub, Nat.zero_add, hw, q, uI_ne]
theorem m_letterOf (hk : tp_ok L B) : am_cal d 168 [.int (sp_hm L B a)] I R Q = some (some (.int (if zl_t (sp_hr L B a) < 6 then nI (zl_t (sp_hr L B a)) else -nI 1)), I, R, Q) := by
  have e1 := hm_eq (a := a) (x := 112) hk (by decide) (by decide)
  have e2 := hm_eq (a := a) (x := 109) hk (by decide) (by decide)
  have e3 := hm_eq (a := a) (x := 116) hk (by decide) (by decide)
  have e4 := hm_eq (a := a) (x := 105) hk (by decide) (by decide)
  have e5 := hm_eq (a := a) (x := 100) hk (by decide) (by decide)
  have e6 := hm_eq (a := a) (x := 101) hk (by decide) (by decide)
  rw [s168]
  generalize sp_hr L B a = y at *
  unfold zl_t
  by_cases q1 : y = 112
  · simp (disch := first | omega | assumption) only [s168_0, s168_1, s168_3, s168_6, s168_7, s168_10, s168_11, s168_13, s168_16, s168_17, s168_20, s168_21, s168_23, s168_26, s168_27, s168_30, s168_31, s168_33, s168_36, s168_37, s168_40, s168_41, s168_43, s168_46, s168_47, s168_50, s168_51, s168_53, s168_56, s168_57, s168_60, s168_61, nI_le2, nI_lt2, nI_eq2, nI_lt0, nI_0le, nI_0lt, nI_le0, nI_eq0, nI_clamp, nI_add, bu_nI, bb_0, bb_1, rf_s, rf_n, tl_s, tl_n, am_th_some, if_true, if_false, sI_eq, uI_eq, and_self, true_and, and_true, not_false_eq_true, not_true_eq_false, Nat.reduceEqDiff, Nat.reduceLeDiff, Nat.reduceLT, Nat.reduceAdd, Nat.reduceMul, Nat.reduceSub, Nat.zero_add, e1, q1]
  · by_cases q2 : y = 109
    · simp (disch := first | omega | assumption) only [s168_0, s168_1, s168_3, s168_6, s168_7, s168_10, s168_11, s168_13, s168_16, s168_17, s168_20, s168_21, s168_23, s168_26, s168_27, s168_30, s168_31, s168_33, s168_36, s168_37, s168_40, s168_41, s168_43, s168_46, s168_47, s168_50, s168_51, s168_53, s168_56, s168_57, s168_60, s168_61, nI_le2, nI_lt2, nI_eq2, nI_lt0, nI_0le, nI_0lt, nI_le0, nI_eq0, nI_clamp, nI_add, bu_nI, bb_0, bb_1, rf_s, rf_n, tl_s, tl_n, am_th_some, if_true, if_false, sI_eq, uI_eq, and_self, true_and, and_true, not_false_eq_true, not_true_eq_false, Nat.reduceEqDiff, Nat.reduceLeDiff, Nat.reduceLT, Nat.reduceAdd, Nat.reduceMul, Nat.reduceSub, Nat.zero_add, e1, e2, q1, q2]
    · by_cases q3 : y = 116
      · simp (disch := first | omega | assumption) only [s168_0, s168_1, s168_3, s168_6, s168_7, s168_10, s168_11, s168_13, s168_16, s168_17, s168_20, s168_21, s168_23, s168_26, s168_27, s168_30, s168_31, s168_33, s168_36, s168_37, s168_40, s168_41, s168_43, s168_46, s168_47, s168_50, s168_51, s168_53, s168_56, s168_57, s168_60, s168_61, nI_le2, nI_lt2, nI_eq2, nI_lt0, nI_0le, nI_0lt, nI_le0, nI_eq0, nI_clamp, nI_add, bu_nI, bb_0, bb_1, rf_s, rf_n, tl_s, tl_n, am_th_some, if_true, if_false, sI_eq, uI_eq, and_self, true_and, and_true, not_false_eq_true, not_true_eq_false, Nat.reduceEqDiff, Nat.reduceLeDiff, Nat.reduceLT, Nat.reduceAdd, Nat.reduceMul, Nat.reduceSub, Nat.zero_add, e1, e2, e3, q1, q2, q3]
      · by_cases q4 : y = 105
        · simp (disch := first | omega | assumption) only [s168_0, s168_1, s168_3, s168_6, s168_7, s168_10, s168_11, s168_13, s168_16, s168_17, s168_20, s168_21, s168_23, s168_26, s168_27, s168_30, s168_31, s168_33, s168_36, s168_37, s168_40, s168_41, s168_43, s168_46, s168_47, s168_50, s168_51, s168_53, s168_56, s168_57, s168_60, s168_61, nI_le2, nI_lt2, nI_eq2, nI_lt0, nI_0le, nI_0lt, nI_le0, nI_eq0, nI_clamp, nI_add, bu_nI, bb_0, bb_1, rf_s, rf_n, tl_s, tl_n, am_th_some, if_true, if_false, sI_eq, uI_eq, and_self, true_and, and_true, not_false_eq_true, not_true_eq_false, Nat.reduceEqDiff, Nat.reduceLeDiff, Nat.reduceLT, Nat.reduceAdd, Nat.reduceMul, Nat.reduceSub, Nat.zero_add, e1, e2, e3, e4, q1, q2, q3, q4]
        · by_cases q5 : y = 100
          · simp (disch := first | omega | assumption) only [s168_0, s168_1, s168_3, s168_6, s168_7, s168_10, s168_11, s168_13, s168_16, s168_17, s168_20, s168_21, s168_23, s168_26, s168_27, s168_30, s168_31, s168_33, s168_36, s168_37, s168_40, s168_41, s168_43, s168_46, s168_47, s168_50, s168_51, s168_53, s168_56, s168_57, s168_60, s168_61, nI_le2, nI_lt2, nI_eq2, nI_lt0, nI_0le, nI_0lt, nI_le0, nI_eq0, nI_clamp, nI_add, bu_nI, bb_0, bb_1, rf_s, rf_n, tl_s, tl_n, am_th_some, if_true, if_false, sI_eq, uI_eq, and_self, true_and, and_true, not_false_eq_true, not_true_eq_false, Nat.reduceEqDiff, Nat.reduceLeDiff, Nat.reduceLT, Nat.reduceAdd, Nat.reduceMul, Nat.reduceSub, Nat.zero_add, e1, e2, e3, e4, e5, q1, q2, q3, q4, q5]
          · by_cases q6 : y = 101
            · simp (disch := first | omega | assumption) only [s168_0, s168_1, s168_3, s168_6, s168_7, s168_10, s168_11, s168_13, s168_16, s168_17, s168_20, s168_21, s168_23, s168_26, s168_27, s168_30, s168_31, s168_33, s168_36, s168_37, s168_40, s168_41, s168_43, s168_46, s168_47, s168_50, s168_51, s168_53, s168_56, s168_57, s168_60, s168_61, nI_le2, nI_lt2, nI_eq2, nI_lt0, nI_0le, nI_0lt, nI_le0, nI_eq0, nI_clamp, nI_add, bu_nI, bb_0, bb_1, rf_s, rf_n, tl_s, tl_n, am_th_some, if_true, if_false, sI_eq, uI_eq, and_self, true_and, and_true, not_false_eq_true, not_true_eq_false, Nat.reduceEqDiff, Nat.reduceLeDiff, Nat.reduceLT, Nat.reduceAdd, Nat.reduceMul, Nat.reduceSub, Nat.zero_add, e1, e2, e3, e4, e5, e6, q1, q2, q3, q4, q5, q6]
            · simp (disch := first | omega | assumption) only [s168_0, s168_1, s168_3, s168_6, s168_7, s168_10, s168_11, s168_13, s168_16, s168_17, s168_20, s168_21, s168_23, s168_26, s168_27, s168_30, s168_31, s168_33, s168_36, s168_37, s168_40, s168_41, s168_43, s168_46, s168_47, s168_50, s168_51, s168_53, s168_56, s168_57, s168_60, s168_61, nI_le2, nI_lt2, nI_eq2, nI_lt0, nI_0le, nI_0lt, nI_le0, nI_eq0, nI_clamp, nI_add, bu_nI, bb_0, bb_1, rf_s, rf_n, tl_s, tl_n, am_th_some, if_true, if_false, sI_eq, uI_eq, and_self, true_and, and_true, not_false_eq_true, not_true_eq_false, Nat.reduceEqDiff, Nat.reduceLeDiff, Nat.reduceLT, Nat.reduceAdd, Nat.reduceMul, Nat.reduceSub, Nat.zero_add, e1, e2, e3, e4, e5, e6, q1, q2, q3, q4, q5, q6]
theorem m_isSign (hk : tp_ok L B) : am_cal d 175 [.int (sp_hm L B a)] I R Q = some (some (.int (if sp_in 2 (sp_hr L B a) then nI 1 else nI 0)), I, R, Q) := by
  have e1 := hm_eq (a := a) (x := 61) hk (by decide) (by decide)
  have e2 := hm_eq (a := a) (x := 60) hk (by decide) (by decide)
  have e3 := hm_eq (a := a) (x := 62) hk (by decide) (by decide)
  rw [s175]
  generalize sp_hr L B a = y at *
  by_cases q1 : y = 61
  · rw [if_pos (zi_2.mpr (Or.inl q1))]
    simp (disch := first | omega | assumption) only [s175_0, s175_1, s175_3, s175_6, s175_7, s175_9, s175_12, s175_13, s175_15, s175_18, s175_19, s175_22, s175_23, nI_le2, nI_lt2, nI_eq2, nI_lt0, nI_0le, nI_0lt, nI_le0, nI_eq0, nI_clamp, nI_add, bu_nI, bb_0, bb_1, rf_s, rf_n, tl_s, tl_n, am_th_some, if_true, if_false, sI_eq, uI_eq, and_self, true_and, and_true, not_false_eq_true, not_true_eq_false, Nat.reduceEqDiff, Nat.reduceLeDiff, Nat.reduceLT, Nat.reduceAdd, Nat.reduceMul, Nat.reduceSub, Nat.zero_add, e1, q1]
  · by_cases q2 : y = 60
    · rw [if_pos (zi_2.mpr (Or.inr (Or.inl q2)))]
      simp (disch := first | omega | assumption) only [s175_0, s175_1, s175_3, s175_6, s175_7, s175_9, s175_12, s175_13, s175_15, s175_18, s175_19, s175_22, s175_23, nI_le2, nI_lt2, nI_eq2, nI_lt0, nI_0le, nI_0lt, nI_le0, nI_eq0, nI_clamp, nI_add, bu_nI, bb_0, bb_1, rf_s, rf_n, tl_s, tl_n, am_th_some, if_true, if_false, sI_eq, uI_eq, and_self, true_and, and_true, not_false_eq_true, not_true_eq_false, Nat.reduceEqDiff, Nat.reduceLeDiff, Nat.reduceLT, Nat.reduceAdd, Nat.reduceMul, Nat.reduceSub, Nat.zero_add, e1, e2, q1, q2]
    · by_cases q3 : y = 62
      · rw [if_pos (zi_2.mpr (Or.inr (Or.inr q3)))]
        simp (disch := first | omega | assumption) only [s175_0, s175_1, s175_3, s175_6, s175_7, s175_9, s175_12, s175_13, s175_15, s175_18, s175_19, s175_22, s175_23, nI_le2, nI_lt2, nI_eq2, nI_lt0, nI_0le, nI_0lt, nI_le0, nI_eq0, nI_clamp, nI_add, bu_nI, bb_0, bb_1, rf_s, rf_n, tl_s, tl_n, am_th_some, if_true, if_false, sI_eq, uI_eq, and_self, true_and, and_true, not_false_eq_true, not_true_eq_false, Nat.reduceEqDiff, Nat.reduceLeDiff, Nat.reduceLT, Nat.reduceAdd, Nat.reduceMul, Nat.reduceSub, Nat.zero_add, e1, e2, e3, q1, q2, q3]
      · rw [if_neg (fun w => by rw [zi_2] at w; omega)]
        simp (disch := first | omega | assumption) only [s175_0, s175_1, s175_3, s175_6, s175_7, s175_9, s175_12, s175_13, s175_15, s175_18, s175_19, s175_22, s175_23, nI_le2, nI_lt2, nI_eq2, nI_lt0, nI_0le, nI_0lt, nI_le0, nI_eq0, nI_clamp, nI_add, bu_nI, bb_0, bb_1, rf_s, rf_n, tl_s, tl_n, am_th_some, if_true, if_false, sI_eq, uI_eq, and_self, true_and, and_true, not_false_eq_true, not_true_eq_false, Nat.reduceEqDiff, Nat.reduceLeDiff, Nat.reduceLT, Nat.reduceAdd, Nat.reduceMul, Nat.reduceSub, Nat.zero_add, e1, e2, e3, q1, q2, q3]
end
