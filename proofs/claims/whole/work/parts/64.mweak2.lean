/-! The model's WEAK and LOOK. -/
abbrev sp_gt (p : Option Nat) (x : Nat) : Prop := match p with
  | none => True
  | some s => s < x
def sp_pi (p : Option Nat) : Int32 := match p with
  | none => -nI 1
  | some s => nI s
theorem gt_dec (p : Option Nat) (x : Nat) : sp_gt p x ∨ ¬ sp_gt p x := Classical.em _
section
variable {d n k kk : Nat} {I : am_I} {R : am_R} {Q : am_Q} {N : Nat → Nat → Nat}
theorem m_isSo (hr : mm_R R) (hk : nt_ok k N) (h : mn_at I k N) {s : Nat} (hs : s < 2 ^ 25) : am_cal (d + 1) 254 [.ref (am_mk 12 0), .int (nI s)] I R Q = some (some (.int (if sp_so k N s then nI 1 else nI 0)), I, R, Q) := by
  obtain ⟨hk10, hN⟩ := hk
  obtain ⟨h4, hA⟩ := h
  rw [s254]
  simp (disch := first | omega | assumption) only [s254_0, s254_1, s254_3, s254_4, s254_7, s254_10, s254_11, s254_12, s254_15, s254_16, s254_17, s254_20, s254_21, s254_24, s254_25, s254_26, s254_29, s254_30, s254_31, s254_34, s254_37, s254_38, nI_le2, nI_lt2, nI_eq2, nI_lt0, nI_0le, nI_0lt, nI_le0, nI_eq0, nI_clamp, nI_add, bu_nI, bb_0, bb_1, rf_s, rf_n, tl_s, tl_n, am_th_some, if_true, if_false, sI_eq, uI_eq, and_self, true_and, and_true, not_false_eq_true, not_true_eq_false, Nat.reduceEqDiff, Nat.reduceLeDiff, Nat.reduceLT, Nat.reduceAdd, Nat.reduceMul, Nat.reduceSub, Nat.zero_add]
  refine loop_inv (f := fun (_ : Unit) c => am_ev (d + 1) 254 2 [.ref (am_mk 12 0), .int (nI s), .int (nI c)] [] I R Q) (Inv := fun c _ => ∀ i, i < c → ¬ (if s.testBit (N 0 i) = true then 1 else 0) = N 2 i) (Post := fun y => y = some (some (.int (if sp_so k N s then nI 1 else nI 0)), I, R, Q)) (n := k) ?_ ?_ (Nat.zero_le _) (a := ()) (fun i hi => absurd hi (Nat.not_lt_zero _))
  · intro c a hc hi
    obtain ⟨n0, n1, n2⟩ := hN c hc
    obtain ⟨a0, a2⟩ := hA c hc
    have h1 : ¬ k ≤ c := by omega
    have hbit := bit_has (s := s) (c := N 0 c) (by omega) (by omega)
    have hh := m_has (d := d) (a := nI s) (b := nI (N 0 c)) (I := I) (R := R) (Q := Q)
    rw [s254_2]
    cases ht : s.testBit (N 0 c) with
    | true =>
      rw [if_pos (by rw [hbit]; exact ht)] at hh
      by_cases e : N 2 c = 1
      · right
        rw [if_neg (fun w => w c hc (by rw [ht, if_pos rfl, e]))]
        simp (disch := first | omega | assumption) only [s254_0, s254_1, s254_3, s254_4, s254_7, s254_10, s254_11, s254_12, s254_15, s254_16, s254_17, s254_20, s254_21, s254_24, s254_25, s254_26, s254_29, s254_30, s254_31, s254_34, s254_37, s254_38, nI_le2, nI_lt2, nI_eq2, nI_lt0, nI_0le, nI_0lt, nI_le0, nI_eq0, nI_clamp, nI_add, bu_nI, bb_0, bb_1, rf_s, rf_n, tl_s, tl_n, am_th_some, if_true, if_false, sI_eq, uI_eq, and_self, true_and, and_true, not_false_eq_true, not_true_eq_false, Nat.reduceEqDiff, Nat.reduceLeDiff, Nat.reduceLT, Nat.reduceAdd, Nat.reduceMul, Nat.reduceSub, Nat.zero_add, mr41 hr, mr42 hr, h4, h1, a0, a2, hh, e]
      · left
        have e0 : N 2 c = 0 := by omega
        refine ⟨(), ?_, fun i hi' => (Nat.lt_succ_iff_lt_or_eq.mp hi').elim (hi i) (fun q => by rw [q, ht, if_pos rfl]; omega)⟩
        simp (disch := first | omega | assumption) only [s254_0, s254_1, s254_3, s254_4, s254_7, s254_10, s254_11, s254_12, s254_15, s254_16, s254_17, s254_20, s254_21, s254_24, s254_25, s254_26, s254_29, s254_30, s254_31, s254_34, s254_37, s254_38, nI_le2, nI_lt2, nI_eq2, nI_lt0, nI_0le, nI_0lt, nI_le0, nI_eq0, nI_clamp, nI_add, bu_nI, bb_0, bb_1, rf_s, rf_n, tl_s, tl_n, am_th_some, if_true, if_false, sI_eq, uI_eq, and_self, true_and, and_true, not_false_eq_true, not_true_eq_false, Nat.reduceEqDiff, Nat.reduceLeDiff, Nat.reduceLT, Nat.reduceAdd, Nat.reduceMul, Nat.reduceSub, Nat.zero_add, mr41 hr, mr42 hr, h4, h1, a0, a2, hh, e0]
    | false =>
      rw [if_neg (by rw [hbit, ht]; decide)] at hh
      by_cases e : N 2 c = 0
      · right
        rw [if_neg (fun w => w c hc (by rw [ht, if_neg (by decide), e]))]
        simp (disch := first | omega | assumption) only [s254_0, s254_1, s254_3, s254_4, s254_7, s254_10, s254_11, s254_12, s254_15, s254_16, s254_17, s254_20, s254_21, s254_24, s254_25, s254_26, s254_29, s254_30, s254_31, s254_34, s254_37, s254_38, nI_le2, nI_lt2, nI_eq2, nI_lt0, nI_0le, nI_0lt, nI_le0, nI_eq0, nI_clamp, nI_add, bu_nI, bb_0, bb_1, rf_s, rf_n, tl_s, tl_n, am_th_some, if_true, if_false, sI_eq, uI_eq, and_self, true_and, and_true, not_false_eq_true, not_true_eq_false, Nat.reduceEqDiff, Nat.reduceLeDiff, Nat.reduceLT, Nat.reduceAdd, Nat.reduceMul, Nat.reduceSub, Nat.zero_add, mr41 hr, mr42 hr, h4, h1, a0, a2, hh, e]
      · left
        have e1 : N 2 c = 1 := by omega
        refine ⟨(), ?_, fun i hi' => (Nat.lt_succ_iff_lt_or_eq.mp hi').elim (hi i) (fun q => by rw [q, ht, if_neg (by decide)]; omega)⟩
        simp (disch := first | omega | assumption) only [s254_0, s254_1, s254_3, s254_4, s254_7, s254_10, s254_11, s254_12, s254_15, s254_16, s254_17, s254_20, s254_21, s254_24, s254_25, s254_26, s254_29, s254_30, s254_31, s254_34, s254_37, s254_38, nI_le2, nI_lt2, nI_eq2, nI_lt0, nI_0le, nI_0lt, nI_le0, nI_eq0, nI_clamp, nI_add, bu_nI, bb_0, bb_1, rf_s, rf_n, tl_s, tl_n, am_th_some, if_true, if_false, sI_eq, uI_eq, and_self, true_and, and_true, not_false_eq_true, not_true_eq_false, Nat.reduceEqDiff, Nat.reduceLeDiff, Nat.reduceLT, Nat.reduceAdd, Nat.reduceMul, Nat.reduceSub, Nat.zero_add, mr41 hr, mr42 hr, h4, h1, a0, a2, hh, e1]
  · intro a hi
    rw [if_pos hi, s254_2]
    simp (disch := first | omega | assumption) only [s254_0, s254_1, s254_3, s254_4, s254_7, s254_10, s254_11, s254_12, s254_15, s254_16, s254_17, s254_20, s254_21, s254_24, s254_25, s254_26, s254_29, s254_30, s254_31, s254_34, s254_37, s254_38, nI_le2, nI_lt2, nI_eq2, nI_lt0, nI_0le, nI_0lt, nI_le0, nI_eq0, nI_clamp, nI_add, bu_nI, bb_0, bb_1, rf_s, rf_n, tl_s, tl_n, am_th_some, if_true, if_false, sI_eq, uI_eq, and_self, true_and, and_true, not_false_eq_true, not_true_eq_false, Nat.reduceEqDiff, Nat.reduceLeDiff, Nat.reduceLT, Nat.reduceAdd, Nat.reduceMul, Nat.reduceSub, Nat.zero_add, h4, Nat.le_refl]
theorem find_at {p : Nat → Bool} {A r : List Nat} {x : Nat} (hA : ∀ y, y ∈ A → p y = false) (hx : p x = true) : (A ++ x :: r).find? p = some x := by
  rw [List.find?_append, List.find?_eq_none.mpr (fun y hy => by rw [hA y hy]; decide), Option.none_or, List.find?_cons_of_pos hx]
/-- the next set that fits -/
noncomputable def sp_nx (k : Nat) (N : Nat → Nat → Nat) (kk n : Nat) (p : Option Nat) : Option Nat := @List.find? Nat (fun x => @decide (sp_so k N x ∧ sp_gt p x) (Classical.propDecidable _)) (sp_ws kk n)
theorem m_nextWeak (hr : mm_R R) (hk : nt_ok k N) (h : mn_at I k N) (hn : n ≤ 25) (hc4 : I 12 0 30 = nI n) (hkk : kk = 1 ∨ kk = 2) {p : Option Nat} (hp : ∀ s, p = some s → 0 < s ∧ s < 2 ^ 25) : am_cal (d + 2) 255 [.ref (am_mk 12 0), .int (nI kk), .int (sp_pi p)] I R Q = some (some (.int (sp_pi (sp_nx k N kk n p))), I, R, Q) := by
  let pr : Nat → Bool := fun x => @decide (sp_so k N x ∧ sp_gt p x) (Classical.propDecidable _)
  have prT : ∀ x, sp_so k N x → sp_gt p x → pr x = true := fun x h1 h2 => @decide_eq_true _ (Classical.propDecidable _) ⟨h1, h2⟩
  have prF : ∀ x, ¬ (sp_so k N x ∧ sp_gt p x) → pr x = false := fun x h1 => @decide_eq_false _ (Classical.propDecidable _) h1
  have hnx : sp_nx k N kk n p = (sp_ws kk n).find? pr := rfl
  have one : (nI 1 : Int32) = nI 1 := rfl
  -- the int test of above p
  have gtI : ∀ x, x < 2 ^ 25 → (nI x ≤ sp_pi p) = ¬ sp_gt p x := by
    intro x hx
    cases p with
    | none =>
      refine propext ⟨fun q => ?_, fun q => absurd trivial q⟩
      exact absurd (Int32.le_trans (nI_pos' (show x < 2 ^ 31 by omega)) q) (by decide)
    | some s =>
      obtain ⟨h1, h2⟩ := hp s rfl
      show (nI x ≤ nI s) = _
      rw [nI_le2 (by omega) (by omega)]
      exact propext ⟨fun q v => Nat.not_lt.mpr q v, fun q => Nat.not_lt.mp q⟩
  obtain ⟨f, hf, hf2, hstart⟩ : ∃ f, (∀ x, x < 2 ^ f → ¬ sp_gt p x ∨ f = 0) ∧ f ≤ 31 ∧ am_cal (d + 2) 255 [.ref (am_mk 12 0), .int (nI kk), .int (sp_pi p)] I R Q = am_ev (d + 2) 255 19 [.ref (am_mk 12 0), .int (nI kk), .int (sp_pi p), .int (nI f), .int (nI f), am_J, am_J] [] I R Q := by
    cases p with
    | none =>
      refine ⟨0, fun x _ => Or.inr rfl, by decide, ?_⟩
      rw [s255]
      have : (0 < -nI 1) = False := eq_false (by decide)
      have e : sp_pi none = -nI 1 := rfl
      rw [e]
      simp (disch := first | omega | assumption) only [s255_0, s255_1, s255_4, s255_5, s255_8, s255_10, s255_11, s255_14, s255_15, s255_16, s255_17, s255_21, s255_22, s255_25, s255_28, s255_29, s255_31, s255_33, s255_34, s255_35, s255_38, s255_39, s255_42, s255_44, s255_47, s255_48, s255_49, s255_52, s255_53, s255_55, s255_56, s255_59, s255_60, s255_62, s255_63, s255_64, s255_66, s255_67, s255_68, s255_70, s255_72, s255_73, s255_76, s255_77, s255_79, s255_82, s255_85, s255_87, s255_88, s255_91, s255_94, s255_97, s255_100, s255_101, nI_le2, nI_lt2, nI_eq2, nI_lt0, nI_0le, nI_0lt, nI_le0, nI_eq0, nI_clamp, nI_add, bu_nI, bb_0, bb_1, rf_s, rf_n, tl_s, tl_n, am_th_some, if_true, if_false, sI_eq, uI_eq, and_self, true_and, and_true, not_false_eq_true, not_true_eq_false, Nat.reduceEqDiff, Nat.reduceLeDiff, Nat.reduceLT, Nat.reduceAdd, Nat.reduceMul, Nat.reduceSub, Nat.zero_add, this]
    | some s =>
      obtain ⟨h1, h2⟩ := hp s rfl
      obtain ⟨f, f1, f2, z, f3, f4⟩ := c_nlz (d := d + 1) (I := I) (R := R) (Q := Q) h1 (show s < 2 ^ 31 by omega)
      refine ⟨f, fun x hx => Or.inl (fun v => ?_), f1, ?_⟩
      · have v : s < x := v
        omega
      · rw [s255]
        have e : sp_pi (some s) = nI s := rfl
        rw [e]
        simp (disch := first | omega | assumption) only [s255_0, s255_1, s255_4, s255_5, s255_8, s255_10, s255_11, s255_14, s255_15, s255_16, s255_17, s255_21, s255_22, s255_25, s255_28, s255_29, s255_31, s255_33, s255_34, s255_35, s255_38, s255_39, s255_42, s255_44, s255_47, s255_48, s255_49, s255_52, s255_53, s255_55, s255_56, s255_59, s255_60, s255_62, s255_63, s255_64, s255_66, s255_67, s255_68, s255_70, s255_72, s255_73, s255_76, s255_77, s255_79, s255_82, s255_85, s255_87, s255_88, s255_91, s255_94, s255_97, s255_100, s255_101, nI_le2, nI_lt2, nI_eq2, nI_lt0, nI_0le, nI_0lt, nI_le0, nI_eq0, nI_clamp, nI_add, bu_nI, bb_0, bb_1, rf_s, rf_n, tl_s, tl_n, am_th_some, if_true, if_false, sI_eq, uI_eq, and_self, true_and, and_true, not_false_eq_true, not_true_eq_false, Nat.reduceEqDiff, Nat.reduceLeDiff, Nat.reduceLT, Nat.reduceAdd, Nat.reduceMul, Nat.reduceSub, Nat.zero_add, h1, f4, f3]
  rw [hstart, hnx]
  have none_f : ∀ y, y ∈ sp_ws kk f → pr y = false := fun y hy => by
    rcases hf y (ws_lt hy) with q | q
    · exact prF y (fun v => q v.2)
    · rw [q] at hy; simp [sp_ws] at hy
  -- from a high CELL on
  have outer : ∀ l5 l6 : Value, f ≤ n → am_ev (d + 2) 255 19 [.ref (am_mk 12 0), .int (nI kk), .int (sp_pi p), .int (nI f), .int (nI f), l5, l6] [] I R Q = some (some (.int (sp_pi ((sp_ws kk n).find? pr))), I, R, Q) := by
    intro l5 l6 hfn
    refine loop_inv (f := fun (a : Value × Value) c => am_ev (d + 2) 255 19 [.ref (am_mk 12 0), .int (nI kk), .int (sp_pi p), .int (nI f), .int (nI c), a.1, a.2] [] I R Q) (Inv := fun c _ => ∀ y, y ∈ sp_ws kk c → pr y = false) (Post := fun y => y = some (some (.int (sp_pi ((sp_ws kk n).find? pr))), I, R, Q)) (n := n) ?_ ?_ (c := f) hfn (a := (l5, l6)) none_f
    · intro c ⟨l5, l6⟩ hc hi
      have h1 : ¬ n ≤ c := by omega
      obtain ⟨rr, hrr⟩ := ws_mono (kk := kk) (show c + 1 ≤ n by omega)
      have bc : nI 1 <<< (nI c &&& 31) = nI (2 ^ c) := nI_bit (by omega)
      have hpc : 2 ^ c < 2 ^ 25 := p25 (by omega)
      have hfc : sp_pi ((sp_ws kk n).find? pr) = nI (2 ^ c) → True := fun _ => trivial
      rcases hkk with e | e
      · subst e
        have hs1 : sp_ws 1 n = sp_ws 1 c ++ 2 ^ c :: rr := by rw [hrr, ws_succ, if_pos rfl, List.append_assoc]; rfl
        have hso := m_isSo (d := d) (Q := Q) hr hk h hpc
        by_cases q : sp_so k N (2 ^ c) ∧ sp_gt p (2 ^ c)
        · right
          rw [if_pos q.1] at hso
          have hg := gtI _ hpc
          rw [hs1, find_at hi (prT _ q.1 q.2), s255_19]
          have hg' : (nI (2 ^ c) ≤ sp_pi p) = False := hg.trans (eq_false (fun w => w q.2))
          simp (disch := first | omega | assumption) only [s255_0, s255_1, s255_4, s255_5, s255_8, s255_10, s255_11, s255_14, s255_15, s255_16, s255_17, s255_21, s255_22, s255_25, s255_28, s255_29, s255_33, s255_34, s255_35, s255_38, s255_39, s255_42, s255_44, s255_47, s255_48, s255_49, s255_52, s255_53, s255_55, s255_56, s255_59, s255_60, s255_62, s255_63, s255_64, s255_66, s255_67, s255_68, s255_70, s255_72, s255_73, s255_76, s255_77, s255_79, s255_82, s255_85, s255_87, s255_88, s255_91, s255_94, s255_97, s255_100, s255_101, nI_le2, nI_lt2, nI_eq2, nI_lt0, nI_0le, nI_0lt, nI_le0, nI_eq0, nI_clamp, nI_add, bu_nI, bb_0, bb_1, rf_s, rf_n, tl_s, tl_n, am_th_some, if_true, if_false, sI_eq, uI_eq, and_self, true_and, and_true, not_false_eq_true, not_true_eq_false, Nat.reduceEqDiff, Nat.reduceLeDiff, Nat.reduceLT, Nat.reduceAdd, Nat.reduceMul, Nat.reduceSub, Nat.zero_add, hc4, h1]
          rw [s255_31]
          simp (disch := first | omega | assumption) only [s255_0, s255_1, s255_4, s255_5, s255_8, s255_10, s255_11, s255_14, s255_15, s255_16, s255_17, s255_21, s255_22, s255_25, s255_28, s255_29, s255_33, s255_34, s255_35, s255_38, s255_39, s255_42, s255_44, s255_47, s255_48, s255_49, s255_52, s255_53, s255_55, s255_56, s255_59, s255_60, s255_62, s255_63, s255_64, s255_66, s255_67, s255_68, s255_70, s255_72, s255_73, s255_76, s255_77, s255_79, s255_82, s255_85, s255_87, s255_88, s255_91, s255_94, s255_97, s255_100, s255_101, nI_le2, nI_lt2, nI_eq2, nI_lt0, nI_0le, nI_0lt, nI_le0, nI_eq0, nI_clamp, nI_add, bu_nI, bb_0, bb_1, rf_s, rf_n, tl_s, tl_n, am_th_some, if_true, if_false, sI_eq, uI_eq, and_self, true_and, and_true, not_false_eq_true, not_true_eq_false, Nat.reduceEqDiff, Nat.reduceLeDiff, Nat.reduceLT, Nat.reduceAdd, Nat.reduceMul, Nat.reduceSub, Nat.zero_add, bc, hg', hso]
          rfl
        · left
          have hpf := prF _ q
          have back : am_ev (d + 2) 255 31 [.ref (am_mk 12 0), .int (nI 1), .int (sp_pi p), .int (nI f), .int (nI c), .int (nI 1), .int (nI (2 ^ c))] [] I R Q = am_ev (d + 2) 255 19 [.ref (am_mk 12 0), .int (nI 1), .int (sp_pi p), .int (nI f), .int (nI (c + 1)), .int (nI 1), .int (nI (2 ^ c))] [] I R Q := by
            rw [s255_31]
            simp (disch := first | omega | assumption) only [s255_0, s255_1, s255_4, s255_5, s255_8, s255_10, s255_11, s255_14, s255_15, s255_16, s255_17, s255_21, s255_22, s255_25, s255_28, s255_29, s255_33, s255_34, s255_35, s255_38, s255_39, s255_42, s255_44, s255_47, s255_48, s255_49, s255_52, s255_53, s255_55, s255_56, s255_59, s255_60, s255_62, s255_63, s255_64, s255_66, s255_67, s255_68, s255_70, s255_72, s255_73, s255_76, s255_77, s255_79, s255_82, s255_85, s255_87, s255_88, s255_91, s255_94, s255_97, s255_100, s255_101, nI_le2, nI_lt2, nI_eq2, nI_lt0, nI_0le, nI_0lt, nI_le0, nI_eq0, nI_clamp, nI_add, bu_nI, bb_0, bb_1, rf_s, rf_n, tl_s, tl_n, am_th_some, if_true, if_false, sI_eq, uI_eq, and_self, true_and, and_true, not_false_eq_true, not_true_eq_false, Nat.reduceEqDiff, Nat.reduceLeDiff, Nat.reduceLT, Nat.reduceAdd, Nat.reduceMul, Nat.reduceSub, Nat.zero_add]
          refine ⟨(.int (nI 1), .int (nI (2 ^ c))), Eq.trans ?_ back, fun y hy => ?_⟩
          · rw [s255_19]
            simp (disch := first | omega | assumption) only [s255_0, s255_1, s255_4, s255_5, s255_8, s255_10, s255_11, s255_14, s255_15, s255_16, s255_17, s255_21, s255_22, s255_25, s255_28, s255_29, s255_33, s255_34, s255_35, s255_38, s255_39, s255_42, s255_44, s255_47, s255_48, s255_49, s255_52, s255_53, s255_55, s255_56, s255_59, s255_60, s255_62, s255_63, s255_64, s255_66, s255_67, s255_68, s255_70, s255_72, s255_73, s255_76, s255_77, s255_79, s255_82, s255_85, s255_87, s255_88, s255_91, s255_94, s255_97, s255_100, s255_101, nI_le2, nI_lt2, nI_eq2, nI_lt0, nI_0le, nI_0lt, nI_le0, nI_eq0, nI_clamp, nI_add, bu_nI, bb_0, bb_1, rf_s, rf_n, tl_s, tl_n, am_th_some, if_true, if_false, sI_eq, uI_eq, and_self, true_and, and_true, not_false_eq_true, not_true_eq_false, Nat.reduceEqDiff, Nat.reduceLeDiff, Nat.reduceLT, Nat.reduceAdd, Nat.reduceMul, Nat.reduceSub, Nat.zero_add, hc4, h1]
            rw [s255_31]
            by_cases q2 : sp_gt p (2 ^ c)
            · have hg' : (nI (2 ^ c) ≤ sp_pi p) = False := (gtI _ hpc).trans (eq_false (fun w => w q2))
              rw [if_neg (fun w => q ⟨w, q2⟩)] at hso
              simp (disch := first | omega | assumption) only [s255_0, s255_1, s255_4, s255_5, s255_8, s255_10, s255_11, s255_14, s255_15, s255_16, s255_17, s255_21, s255_22, s255_25, s255_28, s255_29, s255_33, s255_34, s255_35, s255_38, s255_39, s255_42, s255_44, s255_47, s255_48, s255_49, s255_52, s255_53, s255_55, s255_56, s255_59, s255_60, s255_62, s255_63, s255_64, s255_66, s255_67, s255_68, s255_70, s255_72, s255_73, s255_76, s255_77, s255_79, s255_82, s255_85, s255_87, s255_88, s255_91, s255_94, s255_97, s255_100, s255_101, nI_le2, nI_lt2, nI_eq2, nI_lt0, nI_0le, nI_0lt, nI_le0, nI_eq0, nI_clamp, nI_add, bu_nI, bb_0, bb_1, rf_s, rf_n, tl_s, tl_n, am_th_some, if_true, if_false, sI_eq, uI_eq, and_self, true_and, and_true, not_false_eq_true, not_true_eq_false, Nat.reduceEqDiff, Nat.reduceLeDiff, Nat.reduceLT, Nat.reduceAdd, Nat.reduceMul, Nat.reduceSub, Nat.zero_add, bc, hg', hso]
            · have hg' : (nI (2 ^ c) ≤ sp_pi p) = True := (gtI _ hpc).trans (eq_true q2)
              simp (disch := first | omega | assumption) only [s255_0, s255_1, s255_4, s255_5, s255_8, s255_10, s255_11, s255_14, s255_15, s255_16, s255_17, s255_21, s255_22, s255_25, s255_28, s255_29, s255_33, s255_34, s255_35, s255_38, s255_39, s255_42, s255_44, s255_47, s255_48, s255_49, s255_52, s255_53, s255_55, s255_56, s255_59, s255_60, s255_62, s255_63, s255_64, s255_66, s255_67, s255_68, s255_70, s255_72, s255_73, s255_76, s255_77, s255_79, s255_82, s255_85, s255_87, s255_88, s255_91, s255_94, s255_97, s255_100, s255_101, nI_le2, nI_lt2, nI_eq2, nI_lt0, nI_0le, nI_0lt, nI_le0, nI_eq0, nI_clamp, nI_add, bu_nI, bb_0, bb_1, rf_s, rf_n, tl_s, tl_n, am_th_some, if_true, if_false, sI_eq, uI_eq, and_self, true_and, and_true, not_false_eq_true, not_true_eq_false, Nat.reduceEqDiff, Nat.reduceLeDiff, Nat.reduceLT, Nat.reduceAdd, Nat.reduceMul, Nat.reduceSub, Nat.zero_add, bc, hg']
          · rw [ws_succ, if_pos rfl] at hy
            rcases List.mem_append.mp hy with w | w
            · exact hi y w
            · rw [List.mem_singleton.mp w]; exact hpf
      · subst e
        have inner : ∀ l6 : Value, am_ev (d + 2) 255 31 [.ref (am_mk 12 0), .int (nI 2), .int (sp_pi p), .int (nI f), .int (nI c), .int (nI 0), l6] [] I R Q = some (some (.int (sp_pi ((sp_ws 2 n).find? pr))), I, R, Q) ∨ ∃ l6', am_ev (d + 2) 255 31 [.ref (am_mk 12 0), .int (nI 2), .int (sp_pi p), .int (nI f), .int (nI c), .int (nI 0), l6] [] I R Q = am_ev (d + 2) 255 31 [.ref (am_mk 12 0), .int (nI 2), .int (sp_pi p), .int (nI f), .int (nI c), .int (nI c), l6'] [] I R Q ∧ ∀ y, y ∈ (List.range c).map (fun l => 2 ^ c ||| 2 ^ l) → pr y = false := by
          intro l6
          refine loop_inv (f := fun (a : Value) l => am_ev (d + 2) 255 31 [.ref (am_mk 12 0), .int (nI 2), .int (sp_pi p), .int (nI f), .int (nI c), .int (nI l), a] [] I R Q) (Inv := fun l _ => ∀ y, y ∈ (List.range l).map (fun l => 2 ^ c ||| 2 ^ l) → pr y = false) (Post := fun y => y = some (some (.int (sp_pi ((sp_ws 2 n).find? pr))), I, R, Q) ∨ ∃ l6', y = am_ev (d + 2) 255 31 [.ref (am_mk 12 0), .int (nI 2), .int (sp_pi p), .int (nI f), .int (nI c), .int (nI c), l6'] [] I R Q ∧ ∀ y, y ∈ (List.range c).map (fun l => 2 ^ c ||| 2 ^ l) → pr y = false) (n := c) ?_ ?_ (Nat.zero_le _) (a := l6) (fun y hy => by simp at hy)
          · intro l l6 hl hi2
            have hcl : ¬ c ≤ l := by omega
            have bl : nI 1 <<< (nI l &&& 31) = nI (2 ^ l) := nI_bit (by omega)
            have hs : 2 ^ c ||| 2 ^ l < 2 ^ 25 := or_lt (p25 (by omega)) (p25 (by omega))
            have hso := m_isSo (d := d) (Q := Q) hr hk h hs
            obtain ⟨r1, hr1⟩ := range_split (fun l => 2 ^ c ||| 2 ^ l) hl
            have hcut : sp_ws 2 n = (sp_ws 2 c ++ (List.range l).map (fun l => 2 ^ c ||| 2 ^ l)) ++ (2 ^ c ||| 2 ^ l) :: (r1 ++ rr) := by
              rw [hrr, ws_succ, if_neg (by decide), hr1]
              simp only [List.append_assoc, List.cons_append]
            by_cases q : sp_so k N (2 ^ c ||| 2 ^ l) ∧ sp_gt p (2 ^ c ||| 2 ^ l)
            · right
              left
              rw [if_pos q.1] at hso
              have hg' : (nI (2 ^ c ||| 2 ^ l) ≤ sp_pi p) = False := (gtI _ hs).trans (eq_false (fun w => w q.2))
              rw [hcut, find_at (fun y hy => (List.mem_append.mp hy).elim (hi y) (hi2 y)) (prT _ q.1 q.2), s255_31]
              simp (disch := first | omega | assumption) only [s255_0, s255_1, s255_4, s255_5, s255_8, s255_10, s255_11, s255_14, s255_15, s255_16, s255_17, s255_21, s255_22, s255_25, s255_28, s255_29, s255_33, s255_34, s255_35, s255_38, s255_39, s255_42, s255_44, s255_47, s255_48, s255_49, s255_52, s255_53, s255_55, s255_56, s255_59, s255_60, s255_62, s255_63, s255_64, s255_66, s255_67, s255_68, s255_70, s255_72, s255_73, s255_76, s255_77, s255_79, s255_82, s255_85, s255_87, s255_88, s255_91, s255_94, s255_97, s255_100, s255_101, nI_le2, nI_lt2, nI_eq2, nI_lt0, nI_0le, nI_0lt, nI_le0, nI_eq0, nI_clamp, nI_add, bu_nI, bb_0, bb_1, rf_s, rf_n, tl_s, tl_n, am_th_some, if_true, if_false, sI_eq, uI_eq, and_self, true_and, and_true, not_false_eq_true, not_true_eq_false, Nat.reduceEqDiff, Nat.reduceLeDiff, Nat.reduceLT, Nat.reduceAdd, Nat.reduceMul, Nat.reduceSub, Nat.zero_add, hcl, bc, bl, nI_or, hg', hso]
              rfl
            · left
              have hpf := prF _ q
              refine ⟨.int (nI (2 ^ c ||| 2 ^ l)), ?_, fun y hy => ?_⟩
              · rw [s255_31]
                by_cases q2 : sp_gt p (2 ^ c ||| 2 ^ l)
                · have hg' : (nI (2 ^ c ||| 2 ^ l) ≤ sp_pi p) = False := (gtI _ hs).trans (eq_false (fun w => w q2))
                  rw [if_neg (fun w => q ⟨w, q2⟩)] at hso
                  simp (disch := first | omega | assumption) only [s255_0, s255_1, s255_4, s255_5, s255_8, s255_10, s255_11, s255_14, s255_15, s255_16, s255_17, s255_21, s255_22, s255_25, s255_28, s255_29, s255_33, s255_34, s255_35, s255_38, s255_39, s255_42, s255_44, s255_47, s255_48, s255_49, s255_52, s255_53, s255_55, s255_56, s255_59, s255_60, s255_62, s255_63, s255_64, s255_66, s255_67, s255_68, s255_70, s255_72, s255_73, s255_76, s255_77, s255_79, s255_82, s255_85, s255_87, s255_88, s255_91, s255_94, s255_97, s255_100, s255_101, nI_le2, nI_lt2, nI_eq2, nI_lt0, nI_0le, nI_0lt, nI_le0, nI_eq0, nI_clamp, nI_add, bu_nI, bb_0, bb_1, rf_s, rf_n, tl_s, tl_n, am_th_some, if_true, if_false, sI_eq, uI_eq, and_self, true_and, and_true, not_false_eq_true, not_true_eq_false, Nat.reduceEqDiff, Nat.reduceLeDiff, Nat.reduceLT, Nat.reduceAdd, Nat.reduceMul, Nat.reduceSub, Nat.zero_add, hcl, bc, bl, nI_or, hg', hso]
                · have hg' : (nI (2 ^ c ||| 2 ^ l) ≤ sp_pi p) = True := (gtI _ hs).trans (eq_true q2)
                  simp (disch := first | omega | assumption) only [s255_0, s255_1, s255_4, s255_5, s255_8, s255_10, s255_11, s255_14, s255_15, s255_16, s255_17, s255_21, s255_22, s255_25, s255_28, s255_29, s255_33, s255_34, s255_35, s255_38, s255_39, s255_42, s255_44, s255_47, s255_48, s255_49, s255_52, s255_53, s255_55, s255_56, s255_59, s255_60, s255_62, s255_63, s255_64, s255_66, s255_67, s255_68, s255_70, s255_72, s255_73, s255_76, s255_77, s255_79, s255_82, s255_85, s255_87, s255_88, s255_91, s255_94, s255_97, s255_100, s255_101, nI_le2, nI_lt2, nI_eq2, nI_lt0, nI_0le, nI_0lt, nI_le0, nI_eq0, nI_clamp, nI_add, bu_nI, bb_0, bb_1, rf_s, rf_n, tl_s, tl_n, am_th_some, if_true, if_false, sI_eq, uI_eq, and_self, true_and, and_true, not_false_eq_true, not_true_eq_false, Nat.reduceEqDiff, Nat.reduceLeDiff, Nat.reduceLT, Nat.reduceAdd, Nat.reduceMul, Nat.reduceSub, Nat.zero_add, hcl, bc, bl, nI_or, hg']
              · rw [List.range_succ, List.map_append] at hy
                rcases List.mem_append.mp hy with w | w
                · exact hi2 y w
                · rw [List.mem_singleton.mp w]; exact hpf
          · intro l6 hi2
            exact Or.inr ⟨l6, rfl, hi2⟩
        have enter : am_ev (d + 2) 255 19 [.ref (am_mk 12 0), .int (nI 2), .int (sp_pi p), .int (nI f), .int (nI c), l5, l6] [] I R Q = am_ev (d + 2) 255 31 [.ref (am_mk 12 0), .int (nI 2), .int (sp_pi p), .int (nI f), .int (nI c), .int (nI 0), l6] [] I R Q := by
          rw [s255_19]
          simp (disch := first | omega | assumption) only [s255_0, s255_1, s255_4, s255_5, s255_8, s255_10, s255_11, s255_14, s255_15, s255_16, s255_17, s255_21, s255_22, s255_25, s255_28, s255_29, s255_33, s255_34, s255_35, s255_38, s255_39, s255_42, s255_44, s255_47, s255_48, s255_49, s255_52, s255_53, s255_55, s255_56, s255_59, s255_60, s255_62, s255_63, s255_64, s255_66, s255_67, s255_68, s255_70, s255_72, s255_73, s255_76, s255_77, s255_79, s255_82, s255_85, s255_87, s255_88, s255_91, s255_94, s255_97, s255_100, s255_101, nI_le2, nI_lt2, nI_eq2, nI_lt0, nI_0le, nI_0lt, nI_le0, nI_eq0, nI_clamp, nI_add, bu_nI, bb_0, bb_1, rf_s, rf_n, tl_s, tl_n, am_th_some, if_true, if_false, sI_eq, uI_eq, and_self, true_and, and_true, not_false_eq_true, not_true_eq_false, Nat.reduceEqDiff, Nat.reduceLeDiff, Nat.reduceLT, Nat.reduceAdd, Nat.reduceMul, Nat.reduceSub, Nat.zero_add, hc4, h1]
        rcases inner l6 with g | ⟨l6', g1, g2⟩
        · exact Or.inr (enter.trans g)
        · left
          refine ⟨(.int (nI c), l6'), (enter.trans g1).trans ?_, fun y hy => ?_⟩
          · rw [s255_31]
            simp (disch := first | omega | assumption) only [s255_0, s255_1, s255_4, s255_5, s255_8, s255_10, s255_11, s255_14, s255_15, s255_16, s255_17, s255_21, s255_22, s255_25, s255_28, s255_29, s255_33, s255_34, s255_35, s255_38, s255_39, s255_42, s255_44, s255_47, s255_48, s255_49, s255_52, s255_53, s255_55, s255_56, s255_59, s255_60, s255_62, s255_63, s255_64, s255_66, s255_67, s255_68, s255_70, s255_72, s255_73, s255_76, s255_77, s255_79, s255_82, s255_85, s255_87, s255_88, s255_91, s255_94, s255_97, s255_100, s255_101, nI_le2, nI_lt2, nI_eq2, nI_lt0, nI_0le, nI_0lt, nI_le0, nI_eq0, nI_clamp, nI_add, bu_nI, bb_0, bb_1, rf_s, rf_n, tl_s, tl_n, am_th_some, if_true, if_false, sI_eq, uI_eq, and_self, true_and, and_true, not_false_eq_true, not_true_eq_false, Nat.reduceEqDiff, Nat.reduceLeDiff, Nat.reduceLT, Nat.reduceAdd, Nat.reduceMul, Nat.reduceSub, Nat.zero_add, Nat.le_refl]
          · rw [ws_succ, if_neg (by decide)] at hy
            exact (List.mem_append.mp hy).elim (hi y) (g2 y)
    · intro ⟨l5, l6⟩ hi
      rw [List.find?_eq_none.mpr (fun y hy => by rw [hi y hy]; decide), s255_19]
      simp (disch := first | omega | assumption) only [s255_0, s255_1, s255_4, s255_5, s255_8, s255_10, s255_11, s255_14, s255_15, s255_16, s255_17, s255_21, s255_22, s255_25, s255_28, s255_29, s255_33, s255_34, s255_35, s255_38, s255_39, s255_42, s255_44, s255_47, s255_48, s255_49, s255_52, s255_53, s255_55, s255_56, s255_59, s255_60, s255_62, s255_63, s255_64, s255_66, s255_67, s255_68, s255_70, s255_72, s255_73, s255_76, s255_77, s255_79, s255_82, s255_85, s255_87, s255_88, s255_91, s255_94, s255_97, s255_100, s255_101, nI_le2, nI_lt2, nI_eq2, nI_lt0, nI_0le, nI_0lt, nI_le0, nI_eq0, nI_clamp, nI_add, bu_nI, bb_0, bb_1, rf_s, rf_n, tl_s, tl_n, am_th_some, if_true, if_false, sI_eq, uI_eq, and_self, true_and, and_true, not_false_eq_true, not_true_eq_false, Nat.reduceEqDiff, Nat.reduceLeDiff, Nat.reduceLT, Nat.reduceAdd, Nat.reduceMul, Nat.reduceSub, Nat.zero_add, hc4, Nat.le_refl]
      rfl
  by_cases hfn : f ≤ n
  · exact outer _ _ hfn
  · have hno : ∀ y, y ∈ sp_ws kk n → pr y = false := fun y hy => by
      obtain ⟨r, hr'⟩ := ws_mono (kk := kk) (show n ≤ f by omega)
      exact none_f y (by rw [hr']; exact List.mem_append_left _ hy)
    have hle : n ≤ f := by omega
    rw [List.find?_eq_none.mpr (fun y hy => by rw [hno y hy]; decide), s255_19]
    simp (disch := first | omega | assumption) only [s255_0, s255_1, s255_4, s255_5, s255_8, s255_10, s255_11, s255_14, s255_15, s255_16, s255_17, s255_21, s255_22, s255_25, s255_28, s255_29, s255_33, s255_34, s255_35, s255_38, s255_39, s255_42, s255_44, s255_47, s255_48, s255_49, s255_52, s255_53, s255_55, s255_56, s255_59, s255_60, s255_62, s255_63, s255_64, s255_66, s255_67, s255_68, s255_70, s255_72, s255_73, s255_76, s255_77, s255_79, s255_82, s255_85, s255_87, s255_88, s255_91, s255_94, s255_97, s255_100, s255_101, nI_le2, nI_lt2, nI_eq2, nI_lt0, nI_0le, nI_0lt, nI_le0, nI_eq0, nI_clamp, nI_add, bu_nI, bb_0, bb_1, rf_s, rf_n, tl_s, tl_n, am_th_some, if_true, if_false, sI_eq, uI_eq, and_self, true_and, and_true, not_false_eq_true, not_true_eq_false, Nat.reduceEqDiff, Nat.reduceLeDiff, Nat.reduceLT, Nat.reduceAdd, Nat.reduceMul, Nat.reduceSub, Nat.zero_add, hc4, hle]
    rfl
end
