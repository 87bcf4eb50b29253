/-! NOTES: one more; are all so? Both sides. -/
theorem fr_g {S : Nat → Nat → Nat → Prop} {I J : am_I} {a b : Nat} {f : Nat → Int32} (h : am_fr S I J) (g : ∀ j, ¬ S a b j → f j = I a b j) : am_fr S I (am_sI J a b f) := fun y z j q => by
  unfold am_sI
  by_cases e : y = a ∧ z = b
  · obtain ⟨rfl, rfl⟩ := e
    rw [if_pos ⟨rfl, rfl⟩]
    exact g j q
  · rw [if_neg e]
    exact h y z j q
/-- the same for one place -/
theorem fr_h {S : Nat → Nat → Nat → Prop} {I J : am_I} {a b k : Nat} {x : Int32} (h : am_fr S I J) (g : S a b k) : am_fr S I (am_sI J a b (am_uI (I a b) k x)) := fr_g h fun j q => uI_ne fun e => q (by rw [e]; exact g)
def sp_nt (k : Nat) (N : Nat → Nat → Nat) (c g u : Nat) : Nat → Nat → Nat := fun a i => if i = k then (if a = 0 then c else if a = 1 then g else u) else N a i
def na_S (v : Nat) : Nat → Nat → Nat → Prop := fun a b j => ((a = 38 ∨ a = 39 ∨ a = 40) ∧ b = v) ∨ (a = 8 ∧ b = v ∧ j = 4)
/-- has each CELL the DEGREES set of it, or has not, as set? -/
abbrev sp_hs (k : Nat) (N : Nat → Nat → Nat) (P : Nat → Nat → Int32) : Prop := ∀ i, i < k → (if nI (N 1 i) ≤ P 2 (N 0 i) then 1 else 0) = N 2 i
theorem bb_u {u : Nat} (h : u ≤ 1) : am_bb (nI u) = True := by
  rcases (show u = 0 ∨ u = 1 by omega) with e | e <;> rw [e]
  · exact bb_0
  · exact bb_1
theorem nt_ok1 {k c g u : Nat} {N : Nat → Nat → Nat} (h : nt_ok k N) (hk : k < 10) (hc : c < 25) (hg : g ≤ 99) (hu : u ≤ 1) : nt_ok (k + 1) (sp_nt k N c g u) := by
  refine ⟨hk, fun i hi => ?_⟩
  by_cases e : i = k
  · simp only [sp_nt, e, if_true, Nat.one_ne_zero, if_false]; exact ⟨hc, hg, hu⟩
  · simp only [sp_nt, e, if_false]; exact h.2 i (by omega)
section
variable {d n b m u v k p c g : Nat} {I : am_I} {R : am_R} {Q : am_Q} {N : Nat → Nat → Nat} {P : Nat → Nat → Int32}
theorem c_nforget : ∃ J, am_cal d 68 [.ref (am_mk 8 v)] I R Q = some (none, J, R, Q) ∧ am_fr (na_S v) I J ∧ nt_at J v 0 N := by
  refine ⟨am_sI I 8 v (am_uI (I 8 v) 4 (nI 0)), ?_, ?_, ?_⟩
  · rw [s68]
    simp (disch := first | omega | assumption) only [s68_0, s68_1, s68_2, s68_5, nI_le2, nI_lt2, nI_eq2, nI_lt0, nI_0le, nI_0lt, nI_le0, nI_eq0, nI_clamp, nI_add, bu_nI, bb_0, bb_1, rf_s, rf_n, tl_s, tl_n, am_th_some, if_true, if_false, sI_eq, uI_eq, and_self, true_and, and_true, not_false_eq_true, not_true_eq_false, Nat.reduceEqDiff, Nat.reduceLeDiff, Nat.reduceLT, Nat.reduceAdd, Nat.reduceMul, Nat.reduceSub, Nat.zero_add]
  · exact fr_h fr_rf (by unfold na_S; omega)
  · exact ⟨by rw [sI_eq, uI_eq], fun i hi => absurd hi (Nat.not_lt_zero _)⟩
theorem c_add (hr : nt_R R v) (h : nt_at I v k N) (hk : k < 10) (hu : u ≤ 1) : ∃ J, am_cal d 69 [.ref (am_mk 8 v), .int (nI c), .int (nI g), .int (nI u)] I R Q = some (some (.int (nI 1)), J, R, Q) ∧ am_fr (na_S v) I J ∧ nt_at J v (k + 1) (sp_nt k N c g u) := by
  obtain ⟨r0, r1, r2, r3⟩ := hr
  obtain ⟨h4, hA⟩ := h
  have h1 : ¬ 10 ≤ k := by omega
  have h := s69 (d := d) (a0 := am_mk 8 v) (a1 := nI c) (a2 := nI g) (a3 := nI u) (I := I) (R := R) (Q := Q)
  have hbu := bb_u hu
  simp (disch := first | omega | assumption) only [s69_0, s69_1, s69_4, s69_7, s69_8, s69_11, s69_13, s69_16, s69_17, s69_18, s69_19, s69_22, s69_23, s69_26, s69_27, s69_28, s69_29, s69_32, s69_33, s69_36, s69_37, s69_38, s69_39, s69_42, s69_43, s69_46, s69_47, s69_48, s69_49, s69_50, s69_53, s69_54, s69_55, s69_58, s69_59, nI_le2, nI_lt2, nI_eq2, nI_lt0, nI_0le, nI_0lt, nI_le0, nI_eq0, nI_clamp, nI_add, bu_nI, bb_0, bb_1, rf_s, rf_n, tl_s, tl_n, am_th_some, if_true, if_false, sI_eq, uI_eq, and_self, true_and, and_true, not_false_eq_true, not_true_eq_false, Nat.reduceEqDiff, Nat.reduceLeDiff, Nat.reduceLT, Nat.reduceAdd, Nat.reduceMul, Nat.reduceSub, Nat.zero_add, r0, r1, r2, h4, h1, hbu, sI_na] at h
  rw [if_pos hk] at h
  refine ⟨_, h, ?_, ?_⟩
  · refine fr_h (fr_h (fr_h (fr_h fr_rf ?_) ?_) ?_) ?_ <;> · unfold na_S; omega
  · refine ⟨?_, fun i hi => ?_⟩
    · simp (disch := first | decide | omega | assumption) only [sI_eq, sI_na, sI_nb, uI_eq, uI_ne, h4]
    · by_cases e : i = k
      · subst e
        refine ⟨?_, ?_, ?_⟩ <;> simp (disch := first | decide | omega | assumption) only [sI_eq, sI_na, sI_nb, uI_eq, uI_ne, sp_nt, if_true, Nat.one_ne_zero, if_false, show ¬ (2 : Nat) = 0 by decide, show ¬ (2 : Nat) = 1 by decide]
      · obtain ⟨a0, a1, a2⟩ := hA i (by omega)
        refine ⟨?_, ?_, ?_⟩ <;> simp (disch := first | decide | omega | assumption) only [sI_eq, sI_na, sI_nb, uI_eq, uI_ne, sp_nt, if_false, e, a0, a1, a2]
theorem c_addNo (h : nt_at I v 10 N) {x y z : Int32} : am_cal d 69 [.ref (am_mk 8 v), .int x, .int y, .int z] I R Q = some (some (.int (nI 0)), I, R, Q) := by
  obtain ⟨h4, hA⟩ := h
  rw [s69]
  simp (disch := first | omega | assumption) only [s69_0, s69_1, s69_4, s69_7, s69_8, s69_11, s69_13, s69_16, s69_17, s69_18, s69_19, s69_22, s69_23, s69_26, s69_27, s69_28, s69_29, s69_32, s69_33, s69_36, s69_37, s69_38, s69_39, s69_42, s69_43, s69_46, s69_47, s69_48, s69_49, s69_50, s69_53, s69_54, s69_55, s69_58, s69_59, nI_le2, nI_lt2, nI_eq2, nI_lt0, nI_0le, nI_0lt, nI_le0, nI_eq0, nI_clamp, nI_add, bu_nI, bb_0, bb_1, rf_s, rf_n, tl_s, tl_n, am_th_some, if_true, if_false, sI_eq, uI_eq, and_self, true_and, and_true, not_false_eq_true, not_true_eq_false, Nat.reduceEqDiff, Nat.reduceLeDiff, Nat.reduceLT, Nat.reduceAdd, Nat.reduceMul, Nat.reduceSub, Nat.zero_add, h4]
theorem c_isSo (hr : nt_R R v) (hk : nt_ok k N) (h : nt_at I v k N) (hp : pp_R R p) (hP : pp_at I p P) (hI : pt_I n b m P) (hn2 : n ≤ 25) (hF : ∀ i, i < k → N 0 i < n ∧ ¬ P 0 (N 0 i) ≤ 0) : am_cal (d + 1) 70 [.ref (am_mk 8 v), .ref (am_mk 9 p)] I R Q = some (some (.int (if sp_hs k N P then nI 1 else nI 0)), I, R, Q) := by
  obtain ⟨r0, r1, r2, r3⟩ := hr
  obtain ⟨p0, p1, p2, p3⟩ := hp
  obtain ⟨hk10, hN⟩ := hk
  obtain ⟨h4, hA⟩ := h
  have loop : ∀ l3 : Value, am_ev (d + 1) 70 2 [.ref (am_mk 8 v), .ref (am_mk 9 p), .int (nI 0), l3] [] I R Q = some (some (.int (if sp_hs k N P then nI 1 else nI 0)), I, R, Q) := by
    intro l3
    refine loop_inv (f := fun (a : Value) c => am_ev (d + 1) 70 2 [.ref (am_mk 8 v), .ref (am_mk 9 p), .int (nI c), a] [] I R Q) (Inv := fun c _ => ∀ i, i < c → (if nI (N 1 i) ≤ P 2 (N 0 i) then 1 else 0) = N 2 i) (Post := fun y => y = some (some (.int (if sp_hs k N P then nI 1 else nI 0)), I, R, Q)) (n := k) ?_ ?_ (Nat.zero_le _) (a := l3) (fun i hi => absurd hi (Nat.not_lt_zero _))
    · intro c a hc hi
      obtain ⟨n0, n1, n2⟩ := hN c hc
      obtain ⟨a0, a1, a2⟩ := hA c hc
      obtain ⟨f1, f2⟩ := hF c hc
      have h1 : ¬ k ≤ c := by omega
      have h2 : ¬ 10 ≤ c := by omega
      have h3 : ¬ 25 ≤ N 0 c := by omega
      have hf := c_hasFood_k (d := d) (Q := Q) p0 hP hI.1 hn2 f1
      rw [if_neg f2] at hf
      have hd := (hP.1 (N 0 c) n0).2.2.1
      rw [s70_2]
      by_cases ht : nI (N 1 c) ≤ P 2 (N 0 c)
      · have ht' := Int32.not_lt.mpr ht
        by_cases e : N 2 c = 1
        · left
          refine ⟨.int (nI (N 0 c)), ?_, fun i hi' => (Nat.lt_succ_iff_lt_or_eq.mp hi').elim (hi i) (fun q => by rw [q, if_pos ht, e])⟩
          simp (disch := first | omega | assumption) only [s70_0, s70_1, s70_3, s70_4, s70_7, s70_10, s70_11, s70_13, s70_16, s70_17, s70_20, s70_21, s70_22, s70_23, s70_24, s70_25, s70_28, s70_31, s70_32, s70_35, s70_36, s70_37, s70_38, s70_41, s70_42, s70_43, s70_46, s70_47, s70_50, s70_51, s70_52, s70_55, s70_56, s70_57, s70_60, s70_61, s70_62, s70_65, s70_68, s70_69, nI_le2, nI_lt2, nI_eq2, nI_lt0, nI_0le, nI_0lt, nI_le0, nI_eq0, nI_clamp, nI_add, bu_nI, bb_0, bb_1, rf_s, rf_n, tl_s, tl_n, am_th_some, if_true, if_false, sI_eq, uI_eq, and_self, true_and, and_true, not_false_eq_true, not_true_eq_false, Nat.reduceEqDiff, Nat.reduceLeDiff, Nat.reduceLT, Nat.reduceAdd, Nat.reduceMul, Nat.reduceSub, Nat.zero_add, r0, r1, r2, p2, h4, h1, h2, h3, a0, a1, a2, hf, hd, ht', e]
        · right
          have e0 : N 2 c = 0 := by omega
          rw [if_neg (fun w => by have := w c hc; rw [if_pos ht] at this; omega)]
          simp (disch := first | omega | assumption) only [s70_0, s70_1, s70_3, s70_4, s70_7, s70_10, s70_11, s70_13, s70_16, s70_17, s70_20, s70_21, s70_22, s70_23, s70_24, s70_25, s70_28, s70_31, s70_32, s70_35, s70_36, s70_37, s70_38, s70_41, s70_42, s70_43, s70_46, s70_47, s70_50, s70_51, s70_52, s70_55, s70_56, s70_57, s70_60, s70_61, s70_62, s70_65, s70_68, s70_69, nI_le2, nI_lt2, nI_eq2, nI_lt0, nI_0le, nI_0lt, nI_le0, nI_eq0, nI_clamp, nI_add, bu_nI, bb_0, bb_1, rf_s, rf_n, tl_s, tl_n, am_th_some, if_true, if_false, sI_eq, uI_eq, and_self, true_and, and_true, not_false_eq_true, not_true_eq_false, Nat.reduceEqDiff, Nat.reduceLeDiff, Nat.reduceLT, Nat.reduceAdd, Nat.reduceMul, Nat.reduceSub, Nat.zero_add, r0, r1, r2, p2, h4, h1, h2, h3, a0, a1, a2, hf, hd, ht', e0]
      · have ht' := Int32.not_le.mp ht
        by_cases e : N 2 c = 0
        · left
          refine ⟨.int (nI (N 0 c)), ?_, fun i hi' => (Nat.lt_succ_iff_lt_or_eq.mp hi').elim (hi i) (fun q => by rw [q, if_neg ht, e])⟩
          simp (disch := first | omega | assumption) only [s70_0, s70_1, s70_3, s70_4, s70_7, s70_10, s70_11, s70_13, s70_16, s70_17, s70_20, s70_21, s70_22, s70_23, s70_24, s70_25, s70_28, s70_31, s70_32, s70_35, s70_36, s70_37, s70_38, s70_41, s70_42, s70_43, s70_46, s70_47, s70_50, s70_51, s70_52, s70_55, s70_56, s70_57, s70_60, s70_61, s70_62, s70_65, s70_68, s70_69, nI_le2, nI_lt2, nI_eq2, nI_lt0, nI_0le, nI_0lt, nI_le0, nI_eq0, nI_clamp, nI_add, bu_nI, bb_0, bb_1, rf_s, rf_n, tl_s, tl_n, am_th_some, if_true, if_false, sI_eq, uI_eq, and_self, true_and, and_true, not_false_eq_true, not_true_eq_false, Nat.reduceEqDiff, Nat.reduceLeDiff, Nat.reduceLT, Nat.reduceAdd, Nat.reduceMul, Nat.reduceSub, Nat.zero_add, r0, r1, r2, p2, h4, h1, h2, h3, a0, a1, a2, hf, hd, ht', e]
        · right
          have e0 : N 2 c = 1 := by omega
          rw [if_neg (fun w => by have := w c hc; rw [if_neg ht] at this; omega)]
          simp (disch := first | omega | assumption) only [s70_0, s70_1, s70_3, s70_4, s70_7, s70_10, s70_11, s70_13, s70_16, s70_17, s70_20, s70_21, s70_22, s70_23, s70_24, s70_25, s70_28, s70_31, s70_32, s70_35, s70_36, s70_37, s70_38, s70_41, s70_42, s70_43, s70_46, s70_47, s70_50, s70_51, s70_52, s70_55, s70_56, s70_57, s70_60, s70_61, s70_62, s70_65, s70_68, s70_69, nI_le2, nI_lt2, nI_eq2, nI_lt0, nI_0le, nI_0lt, nI_le0, nI_eq0, nI_clamp, nI_add, bu_nI, bb_0, bb_1, rf_s, rf_n, tl_s, tl_n, am_th_some, if_true, if_false, sI_eq, uI_eq, and_self, true_and, and_true, not_false_eq_true, not_true_eq_false, Nat.reduceEqDiff, Nat.reduceLeDiff, Nat.reduceLT, Nat.reduceAdd, Nat.reduceMul, Nat.reduceSub, Nat.zero_add, r0, r1, r2, p2, h4, h1, h2, h3, a0, a1, a2, hf, hd, ht', e0]
    · intro a hi
      rw [if_pos hi, s70_2]
      simp (disch := first | omega | assumption) only [s70_0, s70_1, s70_3, s70_4, s70_7, s70_10, s70_11, s70_13, s70_16, s70_17, s70_20, s70_21, s70_22, s70_23, s70_24, s70_25, s70_28, s70_31, s70_32, s70_35, s70_36, s70_37, s70_38, s70_41, s70_42, s70_43, s70_46, s70_47, s70_50, s70_51, s70_52, s70_55, s70_56, s70_57, s70_60, s70_61, s70_62, s70_65, s70_68, s70_69, nI_le2, nI_lt2, nI_eq2, nI_lt0, nI_0le, nI_0lt, nI_le0, nI_eq0, nI_clamp, nI_add, bu_nI, bb_0, bb_1, rf_s, rf_n, tl_s, tl_n, am_th_some, if_true, if_false, sI_eq, uI_eq, and_self, true_and, and_true, not_false_eq_true, not_true_eq_false, Nat.reduceEqDiff, Nat.reduceLeDiff, Nat.reduceLT, Nat.reduceAdd, Nat.reduceMul, Nat.reduceSub, Nat.zero_add, h4, Nat.le_refl]
  rw [s70]
  simp (disch := first | omega | assumption) only [s70_0, s70_1, s70_3, s70_4, s70_7, s70_10, s70_11, s70_13, s70_16, s70_17, s70_20, s70_21, s70_22, s70_23, s70_24, s70_25, s70_28, s70_31, s70_32, s70_35, s70_36, s70_37, s70_38, s70_41, s70_42, s70_43, s70_46, s70_47, s70_50, s70_51, s70_52, s70_55, s70_56, s70_57, s70_60, s70_61, s70_62, s70_65, s70_68, s70_69, nI_le2, nI_lt2, nI_eq2, nI_lt0, nI_0le, nI_0lt, nI_le0, nI_eq0, nI_clamp, nI_add, bu_nI, bb_0, bb_1, rf_s, rf_n, tl_s, tl_n, am_th_some, if_true, if_false, sI_eq, uI_eq, and_self, true_and, and_true, not_false_eq_true, not_true_eq_false, Nat.reduceEqDiff, Nat.reduceLeDiff, Nat.reduceLT, Nat.reduceAdd, Nat.reduceMul, Nat.reduceSub, Nat.zero_add]
  exact loop am_J
/-- the model's settings -/
def ms_at (I : am_I) (k : Nat) (N : Nat → Nat → Nat) : Prop := I 12 0 49 = nI k ∧ ∀ i, i < k → I 67 0 i = nI (N 0 i) ∧ I 68 0 i = nI (N 1 i) ∧ I 69 0 i = nI (N 2 i)
def ms_S : Nat → Nat → Nat → Prop := fun a _ j => a = 67 ∨ a = 68 ∨ a = 69 ∨ (a = 12 ∧ j = 49)
def mt_S : Nat → Nat → Nat → Prop := fun a _ j => a = 65 ∨ a = 66 ∨ (a = 12 ∧ j = 43)
theorem m_isSetSo (hr : mm_R R) (hk : nt_ok k N) (h : ms_at I k N) (hP : mm_at I P) : am_cal d 269 [.ref (am_mk 12 0)] I R Q = some (some (.int (if sp_hs k N P then nI 1 else nI 0)), I, R, Q) := by
  obtain ⟨hk10, hN⟩ := hk
  obtain ⟨h4, hA⟩ := h
  rw [s269]
  simp (disch := first | omega | assumption) only [s269_0, s269_1, s269_3, s269_4, s269_7, s269_10, s269_11, s269_14, s269_16, s269_17, s269_20, s269_21, s269_22, s269_23, s269_24, s269_25, s269_28, s269_29, s269_30, s269_33, s269_34, s269_37, s269_38, s269_39, s269_42, s269_43, s269_44, s269_47, s269_48, s269_49, s269_52, s269_55, s269_56, nI_le2, nI_lt2, nI_eq2, nI_lt0, nI_0le, nI_0lt, nI_le0, nI_eq0, nI_clamp, nI_add, bu_nI, bb_0, bb_1, rf_s, rf_n, tl_s, tl_n, am_th_some, if_true, if_false, sI_eq, uI_eq, and_self, true_and, and_true, not_false_eq_true, not_true_eq_false, Nat.reduceEqDiff, Nat.reduceLeDiff, Nat.reduceLT, Nat.reduceAdd, Nat.reduceMul, Nat.reduceSub, Nat.zero_add]
  refine loop_inv (f := fun (_ : Unit) c => am_ev d 269 2 [.ref (am_mk 12 0), .int (nI c)] [] I R Q) (Inv := fun c _ => ∀ i, i < c → (if nI (N 1 i) ≤ P 2 (N 0 i) then 1 else 0) = N 2 i) (Post := fun y => y = some (some (.int (if sp_hs k N P then nI 1 else nI 0)), I, R, Q)) (n := k) ?_ ?_ (Nat.zero_le _) (a := ()) (fun i hi => absurd hi (Nat.not_lt_zero _))
  · intro c _ hc hi
    obtain ⟨n0, n1, n2⟩ := hN c hc
    obtain ⟨a0, a1, a2⟩ := hA c hc
    have h1 : ¬ k ≤ c := by omega
    have h2 : ¬ 10 ≤ c := by omega
    have h3 : ¬ 25 ≤ N 0 c := by omega
    have h5 : 50 + N 0 c < 102 := by omega
    have hd := (hP.1 (N 0 c) n0).2.2.1
    rw [s269_2]
    by_cases ht : nI (N 1 c) ≤ P 2 (N 0 c)
    · have ht' := Int32.not_lt.mpr ht
      by_cases e : N 2 c = 1
      · left
        refine ⟨(), ?_, fun i hi' => (Nat.lt_succ_iff_lt_or_eq.mp hi').elim (hi i) (fun q => by rw [q, if_pos ht, e])⟩
        simp (disch := first | omega | assumption) only [s269_0, s269_1, s269_3, s269_4, s269_7, s269_10, s269_11, s269_14, s269_16, s269_17, s269_20, s269_21, s269_22, s269_23, s269_24, s269_25, s269_28, s269_29, s269_30, s269_33, s269_34, s269_37, s269_38, s269_39, s269_42, s269_43, s269_44, s269_47, s269_48, s269_49, s269_52, s269_55, s269_56, nI_le2, nI_lt2, nI_eq2, nI_lt0, nI_0le, nI_0lt, nI_le0, nI_eq0, nI_clamp, nI_add, bu_nI, bb_0, bb_1, rf_s, rf_n, tl_s, tl_n, am_th_some, if_true, if_false, sI_eq, uI_eq, and_self, true_and, and_true, not_false_eq_true, not_true_eq_false, Nat.reduceEqDiff, Nat.reduceLeDiff, Nat.reduceLT, Nat.reduceAdd, Nat.reduceMul, Nat.reduceSub, Nat.zero_add, mr31 hr, mr46 hr, mr47 hr, mr48 hr, h4, h1, h2, h3, a0, a1, a2, hd, ht', e]
      · right
        have e0 : N 2 c = 0 := by omega
        rw [if_neg (fun w => by have := w c hc; rw [if_pos ht] at this; omega)]
        simp (disch := first | omega | assumption) only [s269_0, s269_1, s269_3, s269_4, s269_7, s269_10, s269_11, s269_14, s269_16, s269_17, s269_20, s269_21, s269_22, s269_23, s269_24, s269_25, s269_28, s269_29, s269_30, s269_33, s269_34, s269_37, s269_38, s269_39, s269_42, s269_43, s269_44, s269_47, s269_48, s269_49, s269_52, s269_55, s269_56, nI_le2, nI_lt2, nI_eq2, nI_lt0, nI_0le, nI_0lt, nI_le0, nI_eq0, nI_clamp, nI_add, bu_nI, bb_0, bb_1, rf_s, rf_n, tl_s, tl_n, am_th_some, if_true, if_false, sI_eq, uI_eq, and_self, true_and, and_true, not_false_eq_true, not_true_eq_false, Nat.reduceEqDiff, Nat.reduceLeDiff, Nat.reduceLT, Nat.reduceAdd, Nat.reduceMul, Nat.reduceSub, Nat.zero_add, mr31 hr, mr46 hr, mr47 hr, mr48 hr, h4, h1, h2, h3, a0, a1, a2, hd, ht', e0]
    · have ht' := Int32.not_le.mp ht
      by_cases e : N 2 c = 0
      · left
        refine ⟨(), ?_, fun i hi' => (Nat.lt_succ_iff_lt_or_eq.mp hi').elim (hi i) (fun q => by rw [q, if_neg ht, e])⟩
        simp (disch := first | omega | assumption) only [s269_0, s269_1, s269_3, s269_4, s269_7, s269_10, s269_11, s269_14, s269_16, s269_17, s269_20, s269_21, s269_22, s269_23, s269_24, s269_25, s269_28, s269_29, s269_30, s269_33, s269_34, s269_37, s269_38, s269_39, s269_42, s269_43, s269_44, s269_47, s269_48, s269_49, s269_52, s269_55, s269_56, nI_le2, nI_lt2, nI_eq2, nI_lt0, nI_0le, nI_0lt, nI_le0, nI_eq0, nI_clamp, nI_add, bu_nI, bb_0, bb_1, rf_s, rf_n, tl_s, tl_n, am_th_some, if_true, if_false, sI_eq, uI_eq, and_self, true_and, and_true, not_false_eq_true, not_true_eq_false, Nat.reduceEqDiff, Nat.reduceLeDiff, Nat.reduceLT, Nat.reduceAdd, Nat.reduceMul, Nat.reduceSub, Nat.zero_add, mr31 hr, mr46 hr, mr47 hr, mr48 hr, h4, h1, h2, h3, a0, a1, a2, hd, ht', e]
      · right
        have e0 : N 2 c = 1 := by omega
        rw [if_neg (fun w => by have := w c hc; rw [if_neg ht] at this; omega)]
        simp (disch := first | omega | assumption) only [s269_0, s269_1, s269_3, s269_4, s269_7, s269_10, s269_11, s269_14, s269_16, s269_17, s269_20, s269_21, s269_22, s269_23, s269_24, s269_25, s269_28, s269_29, s269_30, s269_33, s269_34, s269_37, s269_38, s269_39, s269_42, s269_43, s269_44, s269_47, s269_48, s269_49, s269_52, s269_55, s269_56, nI_le2, nI_lt2, nI_eq2, nI_lt0, nI_0le, nI_0lt, nI_le0, nI_eq0, nI_clamp, nI_add, bu_nI, bb_0, bb_1, rf_s, rf_n, tl_s, tl_n, am_th_some, if_true, if_false, sI_eq, uI_eq, and_self, true_and, and_true, not_false_eq_true, not_true_eq_false, Nat.reduceEqDiff, Nat.reduceLeDiff, Nat.reduceLT, Nat.reduceAdd, Nat.reduceMul, Nat.reduceSub, Nat.zero_add, mr31 hr, mr46 hr, mr47 hr, mr48 hr, h4, h1, h2, h3, a0, a1, a2, hd, ht', e0]
  · intro _ hi
    rw [if_pos hi, s269_2]
    simp (disch := first | omega | assumption) only [s269_0, s269_1, s269_3, s269_4, s269_7, s269_10, s269_11, s269_14, s269_16, s269_17, s269_20, s269_21, s269_22, s269_23, s269_24, s269_25, s269_28, s269_29, s269_30, s269_33, s269_34, s269_37, s269_38, s269_39, s269_42, s269_43, s269_44, s269_47, s269_48, s269_49, s269_52, s269_55, s269_56, nI_le2, nI_lt2, nI_eq2, nI_lt0, nI_0le, nI_0lt, nI_le0, nI_eq0, nI_clamp, nI_add, bu_nI, bb_0, bb_1, rf_s, rf_n, tl_s, tl_n, am_th_some, if_true, if_false, sI_eq, uI_eq, and_self, true_and, and_true, not_false_eq_true, not_true_eq_false, Nat.reduceEqDiff, Nat.reduceLeDiff, Nat.reduceLT, Nat.reduceAdd, Nat.reduceMul, Nat.reduceSub, Nat.zero_add, h4, Nat.le_refl]
end
