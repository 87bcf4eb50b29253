/-! What was told of CELLS one by one: the class Notes, and the model's. -/
def nt_R (R : am_R) (v : Nat) : Prop := R 8 v 0 = some (am_mk 38 v) ∧ R 8 v 1 = some (am_mk 39 v) ∧ R 8 v 2 = some (am_mk 40 v) ∧ R 8 v 3 = some (am_mk 41 v)
/-- k notes: N 0 the CELL, N 1 the DEGREES, N 2 whether -/
def nt_ok (k : Nat) (N : Nat → Nat → Nat) : Prop := k ≤ 10 ∧ ∀ i, i < k → N 0 i < 25 ∧ N 1 i ≤ 99 ∧ N 2 i ≤ 1
def nt_at (I : am_I) (v k : Nat) (N : Nat → Nat → Nat) : Prop := I 8 v 4 = nI k ∧ ∀ i, i < k → I 38 v i = nI (N 0 i) ∧ I 39 v i = nI (N 1 i) ∧ I 40 v i = nI (N 2 i)
theorem nt_fr {S : Nat → Nat → Nat → Prop} {I J : am_I} {v k : Nat} {N : Nat → Nat → Nat} (h : nt_at I v k N) (hf : am_fr S I J) (h1 : ¬ S 8 v 4) (h2 : ∀ a i, (a = 38 ∨ a = 39 ∨ a = 40) → ¬ S a v i) : nt_at J v k N := ⟨(hf _ _ _ h1).trans h.1, fun i hi => ⟨(hf _ _ _ (h2 _ _ (by omega))).trans (h.2 i hi).1, (hf _ _ _ (h2 _ _ (by omega))).trans (h.2 i hi).2.1, (hf _ _ _ (h2 _ _ (by omega))).trans (h.2 i hi).2.2⟩⟩
/-- do all cups agree with these weak CELLS? -/
abbrev sp_so (k : Nat) (N : Nat → Nat → Nat) (s : Nat) : Prop := ∀ i, i < k → ¬ (if s.testBit (N 0 i) = true then 1 else 0) = N 2 i
/-- the sets of kk weak CELLS of n, rising -/
def sp_ws (kk n : Nat) : List Nat := (List.range n).flatMap fun h => if kk = 1 then [2 ^ h] else (List.range h).map fun l => 2 ^ h ||| 2 ^ l
theorem ws_succ (kk n : Nat) : sp_ws kk (n + 1) = sp_ws kk n ++ (if kk = 1 then [2 ^ n] else (List.range n).map fun l => 2 ^ n ||| 2 ^ l) := by
  simp [sp_ws, List.range_succ]
section
variable {d n b m u q v k : Nat} {I : am_I} {R : am_R} {Q : am_Q} {N : Nat → Nat → Nat}
theorem c_isSoWith (hr : nt_R R v) (hk : nt_ok k N) (h : nt_at I v k N) {s : Nat} (hs : s < 2 ^ 25) : am_cal d 71 [.ref (am_mk 8 v), .int (nI s)] I R Q = some (some (.int (if sp_so k N s then nI 1 else nI 0)), I, R, Q) := by
  obtain ⟨r0, r1, r2, r3⟩ := hr
  obtain ⟨hk10, hN⟩ := hk
  obtain ⟨h4, hA⟩ := h
  rw [s71]
  simp (disch := first | omega | assumption) only [s71_0, s71_1, s71_3, s71_4, s71_7, s71_10, s71_11, s71_13, s71_16, s71_17, s71_18, s71_19, s71_22, s71_23, s71_24, s71_25, s71_26, s71_29, s71_30, s71_33, s71_34, s71_35, s71_36, s71_37, s71_40, s71_41, s71_42, s71_45, s71_46, s71_47, s71_50, s71_53, s71_54, nI_le2, nI_lt2, nI_eq2, nI_lt0, nI_0le, nI_0lt, nI_le0, nI_eq0, nI_clamp, nI_add, bu_nI, bb_0, bb_1, rf_s, rf_n, tl_s, tl_n, am_th_some, if_true, if_false, sI_eq, uI_eq, and_self, true_and, and_true, not_false_eq_true, not_true_eq_false, Nat.reduceEqDiff, Nat.reduceLeDiff, Nat.reduceLT, Nat.reduceAdd, Nat.reduceMul, Nat.reduceSub, Nat.zero_add]
  have loop : ∀ l3 : Value, am_ev d 71 2 [.ref (am_mk 8 v), .int (nI s), .int (nI 0), l3] [] I R Q = some (some (.int (if sp_so k N s then nI 1 else nI 0)), I, R, Q) := by
    intro l3
    refine loop_inv (f := fun (a : Value) c => am_ev d 71 2 [.ref (am_mk 8 v), .int (nI s), .int (nI c), a] [] I R Q) (Inv := fun c _ => ∀ i, i < c → ¬ (if s.testBit (N 0 i) = true then 1 else 0) = N 2 i) (Post := fun y => y = some (some (.int (if sp_so k N s then nI 1 else nI 0)), I, R, Q)) (n := k) ?_ ?_ (Nat.zero_le _) (a := l3) (fun i hi => absurd hi (Nat.not_lt_zero _))
    · intro c a hc hi
      obtain ⟨n0, n1, n2⟩ := hN c hc
      obtain ⟨a0, a1, a2⟩ := hA c hc
      have h1 : ¬ k ≤ c := by omega
      have h2 : ¬ 10 ≤ c := by omega
      have hbit := bit_and (s := s) (c := N 0 c) (by omega) (by omega)
      rw [s71_2]
      cases ht : s.testBit (N 0 c) with
      | true =>
        rw [ht] at hbit
        have hbit := hbit.trans (eq_false (by decide))
        by_cases e : N 2 c = 1
        · right
          rw [if_neg (fun w => w c hc (by rw [ht, if_pos rfl, e]))]
          simp (disch := first | omega | assumption) only [s71_0, s71_1, s71_3, s71_4, s71_7, s71_10, s71_11, s71_13, s71_16, s71_17, s71_18, s71_19, s71_22, s71_23, s71_24, s71_25, s71_26, s71_29, s71_30, s71_33, s71_34, s71_35, s71_36, s71_37, s71_40, s71_41, s71_42, s71_45, s71_46, s71_47, s71_50, s71_53, s71_54, nI_le2, nI_lt2, nI_eq2, nI_lt0, nI_0le, nI_0lt, nI_le0, nI_eq0, nI_clamp, nI_add, bu_nI, bb_0, bb_1, rf_s, rf_n, tl_s, tl_n, am_th_some, if_true, if_false, sI_eq, uI_eq, and_self, true_and, and_true, not_false_eq_true, not_true_eq_false, Nat.reduceEqDiff, Nat.reduceLeDiff, Nat.reduceLT, Nat.reduceAdd, Nat.reduceMul, Nat.reduceSub, Nat.zero_add, r0, r2, h4, h1, h2, a0, a2, hbit, e]
        · left
          have e0 : N 2 c = 0 := by omega
          refine ⟨.int (nI 1), ?_, fun i hi' => (Nat.lt_succ_iff_lt_or_eq.mp hi').elim (hi i) (fun q => by rw [q, ht, if_pos rfl]; omega)⟩
          simp (disch := first | omega | assumption) only [s71_0, s71_1, s71_3, s71_4, s71_7, s71_10, s71_11, s71_13, s71_16, s71_17, s71_18, s71_19, s71_22, s71_23, s71_24, s71_25, s71_26, s71_29, s71_30, s71_33, s71_34, s71_35, s71_36, s71_37, s71_40, s71_41, s71_42, s71_45, s71_46, s71_47, s71_50, s71_53, s71_54, nI_le2, nI_lt2, nI_eq2, nI_lt0, nI_0le, nI_0lt, nI_le0, nI_eq0, nI_clamp, nI_add, bu_nI, bb_0, bb_1, rf_s, rf_n, tl_s, tl_n, am_th_some, if_true, if_false, sI_eq, uI_eq, and_self, true_and, and_true, not_false_eq_true, not_true_eq_false, Nat.reduceEqDiff, Nat.reduceLeDiff, Nat.reduceLT, Nat.reduceAdd, Nat.reduceMul, Nat.reduceSub, Nat.zero_add, r0, r2, h4, h1, h2, a0, a2, hbit, e0]
      | false =>
        rw [ht] at hbit
        have hbit := hbit.trans (eq_true rfl)
        by_cases e : N 2 c = 0
        · right
          rw [if_neg (fun w => w c hc (by rw [ht, if_neg (by decide), e]))]
          simp (disch := first | omega | assumption) only [s71_0, s71_1, s71_3, s71_4, s71_7, s71_10, s71_11, s71_13, s71_16, s71_17, s71_18, s71_19, s71_22, s71_23, s71_24, s71_25, s71_26, s71_29, s71_30, s71_33, s71_34, s71_35, s71_36, s71_37, s71_40, s71_41, s71_42, s71_45, s71_46, s71_47, s71_50, s71_53, s71_54, nI_le2, nI_lt2, nI_eq2, nI_lt0, nI_0le, nI_0lt, nI_le0, nI_eq0, nI_clamp, nI_add, bu_nI, bb_0, bb_1, rf_s, rf_n, tl_s, tl_n, am_th_some, if_true, if_false, sI_eq, uI_eq, and_self, true_and, and_true, not_false_eq_true, not_true_eq_false, Nat.reduceEqDiff, Nat.reduceLeDiff, Nat.reduceLT, Nat.reduceAdd, Nat.reduceMul, Nat.reduceSub, Nat.zero_add, r0, r2, h4, h1, h2, a0, a2, hbit, e]
        · left
          have e1 : N 2 c = 1 := by omega
          refine ⟨.int (nI 0), ?_, fun i hi' => (Nat.lt_succ_iff_lt_or_eq.mp hi').elim (hi i) (fun q => by rw [q, ht, if_neg (by decide)]; omega)⟩
          simp (disch := first | omega | assumption) only [s71_0, s71_1, s71_3, s71_4, s71_7, s71_10, s71_11, s71_13, s71_16, s71_17, s71_18, s71_19, s71_22, s71_23, s71_24, s71_25, s71_26, s71_29, s71_30, s71_33, s71_34, s71_35, s71_36, s71_37, s71_40, s71_41, s71_42, s71_45, s71_46, s71_47, s71_50, s71_53, s71_54, nI_le2, nI_lt2, nI_eq2, nI_lt0, nI_0le, nI_0lt, nI_le0, nI_eq0, nI_clamp, nI_add, bu_nI, bb_0, bb_1, rf_s, rf_n, tl_s, tl_n, am_th_some, if_true, if_false, sI_eq, uI_eq, and_self, true_and, and_true, not_false_eq_true, not_true_eq_false, Nat.reduceEqDiff, Nat.reduceLeDiff, Nat.reduceLT, Nat.reduceAdd, Nat.reduceMul, Nat.reduceSub, Nat.zero_add, r0, r2, h4, h1, h2, a0, a2, hbit, e1]
    · intro a hi
      rw [if_pos hi, s71_2]
      simp (disch := first | omega | assumption) only [s71_0, s71_1, s71_3, s71_4, s71_7, s71_10, s71_11, s71_13, s71_16, s71_17, s71_18, s71_19, s71_22, s71_23, s71_24, s71_25, s71_26, s71_29, s71_30, s71_33, s71_34, s71_35, s71_36, s71_37, s71_40, s71_41, s71_42, s71_45, s71_46, s71_47, s71_50, s71_53, s71_54, nI_le2, nI_lt2, nI_eq2, nI_lt0, nI_0le, nI_0lt, nI_le0, nI_eq0, nI_clamp, nI_add, bu_nI, bb_0, bb_1, rf_s, rf_n, tl_s, tl_n, am_th_some, if_true, if_false, sI_eq, uI_eq, and_self, true_and, and_true, not_false_eq_true, not_true_eq_false, Nat.reduceEqDiff, Nat.reduceLeDiff, Nat.reduceLT, Nat.reduceAdd, Nat.reduceMul, Nat.reduceSub, Nat.zero_add, h4, Nat.le_refl]
  exact loop am_J
/-- the fitting sets -/
def sp_fit (k : Nat) (N : Nat → Nat → Nat) (kk n : Nat) : List Nat := (sp_ws kk n).filter fun s => decide (sp_so k N s)
/-- how many of these hold a CELL -/
def sp_cnt (L : List Nat) (c : Nat) : Nat := (L.filter fun s => s.testBit c).length
theorem cnt_app (L M : List Nat) (c : Nat) : sp_cnt (L ++ M) c = sp_cnt L c + sp_cnt M c := by simp [sp_cnt, List.filter_append]
/-- an answer of WEAK: how many (i below 0), the i-th -/
def sp_weak (L : List Nat) (i : Int32) : Int32 := if i = -nI 1 then nI L.length else if i < 0 then -nI 1 else match L[i.toNatClampNeg]? with
  | some s => nI s
  | none => -nI 1
theorem fit_len {k : Nat} {N : Nat → Nat → Nat} {kk n : Nat} : (sp_fit k N kk n).length ≤ (sp_ws kk n).length := List.length_filter_le _ _
theorem ws_len {kk n : Nat} (hn : n ≤ 25) : (sp_ws kk n).length ≤ n * 25 := by
  induction n with
  | zero => exact Nat.le_refl _
  | succ n ih =>
    rw [ws_succ, List.length_append]
    have := ih (by omega)
    by_cases e : kk = 1
    · rw [if_pos e, List.length_singleton]; omega
    · rw [if_neg e, List.length_map, List.length_range]; omega
theorem fit_succ {k : Nat} {N : Nat → Nat → Nat} {kk n : Nat} : sp_fit k N kk (n + 1) = sp_fit k N kk n ++ (if kk = 1 then [2 ^ n] else (List.range n).map fun l => 2 ^ n ||| 2 ^ l).filter fun s => decide (sp_so k N s) := by
  rw [sp_fit, ws_succ, List.filter_append]; rfl
end
