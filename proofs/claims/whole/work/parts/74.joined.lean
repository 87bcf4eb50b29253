/-! JOINED: to which CELLS FOOD leads; the class. -/
theorem nb_dec : ∀ w, w < 6 → ∀ h, h < 6 → ∀ c, c < w * h → ∀ s, s < 4 → sp_B w h c s = -nI 1 ∨ ((sp_B w h c s).toNatClampNeg < w * h ∧ sp_B w h c s = nI (sp_B w h c s).toNatClampNeg ∧ sp_B w h (sp_B w h c s).toNatClampNeg (3 - s) = nI c) := by decide +kernel
theorem nb_all (w : Nat) (hw : w < 6) (h : Nat) (hh : h < 6) (c : Nat) (hc : c < w * h) (s : Nat) (hs : s < 4) : sp_B w h c s = -nI 1 ∨ ∃ o, o < w * h ∧ sp_B w h c s = nI o ∧ ∃ z, z < 4 ∧ sp_B w h o z = nI c := (nb_dec w hw h hh c hc s hs).imp id fun q => ⟨_, q.1, q.2.1, 3 - s, by omega, q.2.2⟩
def sp_rc (w h n : Nat) (P : Nat → Nat → Int32) (k c : Nat) : Prop := ∀ C : Nat → Prop, C k → (∀ c o s, C c → s < 4 → sp_B w h c s = nI o → o < n → ¬ P 0 o ≤ 0 → C o) → C c
theorem rc_base {w h n k : Nat} {P : Nat → Nat → Int32} : sp_rc w h n P k k := fun _ b _ => b
theorem rc_step {w h n k c o s : Nat} {P : Nat → Nat → Int32} (r : sp_rc w h n P k c) (a : s < 4) (b : sp_B w h c s = nI o) (e : o < n) (f : ¬ P 0 o ≤ 0) : sp_rc w h n P k o := fun C x y => y c o s (r C x y) a b e f
def jn_ok (w h n : Nat) (P : Nat → Nat → Int32) (k S : Nat) : Prop := S < 2 ^ 25 ∧ ∀ c, S.testBit c = true ↔ sp_rc w h n P k c
theorem jn_uni {w h n k S S' : Nat} {P : Nat → Nat → Int32} (a : jn_ok w h n P k S) (b : jn_ok w h n P k S') : S = S' := by
  apply Nat.eq_of_testBit_eq
  intro i
  rw [Bool.eq_iff_iff, a.2 i, b.2 i]
theorem rc_lt {w h n k c : Nat} {P : Nat → Nat → Int32} (hk : k < n) (r : sp_rc w h n P k c) : c < n := r (fun c => c < n) hk fun _ _ _ _ _ _ h _ => h
theorem or_bit {s o : Nat} (h : s.testBit o = true) : s ||| 2 ^ o = s := by
  apply Nat.eq_of_testBit_eq
  intro i
  rw [Nat.testBit_or, Nat.testBit_two_pow]
  by_cases e : o = i
  · subst e; rw [h]; rfl
  · rw [decide_eq_false e, Bool.or_false]
theorem or_tb {s o i : Nat} : (s ||| 2 ^ o).testBit i = true ↔ s.testBit i = true ∨ i = o := by
  rw [Nat.testBit_or, Nat.testBit_two_pow, Bool.or_eq_true, decide_eq_true_iff]
  exact ⟨fun h => h.elim Or.inl fun e => Or.inr e.symm, fun h => h.elim Or.inl fun e => Or.inr e.symm⟩
theorem un_0 (D : Nat) : sp_un D 0 = D := by
  induction D with
  | zero => rfl
  | succ m ih => rw [un_s, ih, Nat.zero_testBit, if_neg (by decide)]
/-- closed under FOOD beside -/
def jn_cl (w h n : Nat) (P : Nat → Nat → Int32) (S : Nat) : Prop := ∀ c o s, c < n → S.testBit c = true → s < 4 → sp_B w h c s = nI o → o < n → ¬ P 0 o ≤ 0 → S.testBit o = true
theorem jn_of {w h n k S : Nat} {P : Nat → Nat → Int32} (hk : k < n) (hS : S < 2 ^ 25) (h1 : S.testBit k = true) (h2 : ∀ c, S.testBit c = true → sp_rc w h n P k c) (h3 : jn_cl w h n P S) : jn_ok w h n P k S := by
  refine ⟨hS, fun c => ⟨h2 c, fun r => ?_⟩⟩
  exact (r (fun c => c < n ∧ S.testBit c = true) ⟨hk, h1⟩ fun c o s q a b e f => ⟨e, h3 c o s q.1 q.2 a b e f⟩).2
/-- has it one of these beside? -/
def sp_bs (w h o S : Nat) : Prop := ∃ s, s < 4 ∧ ∃ c, c < w * h ∧ sp_B w h o s = nI c ∧ S.testBit c = true
section
variable {d n u p w h k : Nat} {I : am_I} {R : am_R} {Q : am_Q} {P : Nat → Nat → Int32}
theorem c_isBeside (hk : kk_R R u) (hB : bs_at I u (w * h) (sp_B w h)) (hw : w < 6) (hh : h < 6) (hn : w * h ≤ 25) {o S : Nat} (ho : o < w * h) (hS : S < 2 ^ 25) : (sp_bs w h o S ∧ am_cal (d + 1) 25 [.ref (am_mk 2 0), .int (nI o), .int (nI S)] I R Q = some (some (.int (nI 1)), I, R, Q)) ∨ (¬ sp_bs w h o S ∧ am_cal (d + 1) 25 [.ref (am_mk 2 0), .int (nI o), .int (nI S)] I R Q = some (some (.int (nI 0)), I, R, Q)) := by
  obtain ⟨k0, k1, k2, k3, k4, k5⟩ := hk
  have loop : ∀ l4 : Value, (sp_bs w h o S ∧ am_ev (d + 1) 25 2 [.ref (am_mk 2 0), .int (nI o), .int (nI S), .int (nI 0), l4] [] I R Q = some (some (.int (nI 1)), I, R, Q)) ∨ (¬ sp_bs w h o S ∧ am_ev (d + 1) 25 2 [.ref (am_mk 2 0), .int (nI o), .int (nI S), .int (nI 0), l4] [] I R Q = some (some (.int (nI 0)), I, R, Q)) := by
    intro l4
    refine loop_inv (f := fun (a : Value) s => am_ev (d + 1) 25 2 [.ref (am_mk 2 0), .int (nI o), .int (nI S), .int (nI s), a] [] I R Q) (Inv := fun s _ => ∀ z, z < s → ∀ c, c < w * h → sp_B w h o z = nI c → ¬ S.testBit c = true) (Post := fun y => (sp_bs w h o S ∧ y = some (some (.int (nI 1)), I, R, Q)) ∨ (¬ sp_bs w h o S ∧ y = some (some (.int (nI 0)), I, R, Q))) (n := 4) ?_ ?_ (Nat.zero_le _) (a := l4) (fun z hz => absurd hz (Nat.not_lt_zero _))
    · intro s a hs hi
      have h1 : ¬ 4 ≤ s := by omega
      have h2 := hB o ho s hs
      rcases nb_all w hw h hh o ho s hs with e | ⟨c, hc, e, -⟩
      · left
        refine ⟨.int (-nI 1), ?_, fun z hz c hc he => ?_⟩
        · rw [e] at h2
          have h3 : (-nI 1 : Int32) < 0 := by decide
          rw [s25_2]
          simp (disch := first | omega | assumption) only [s25_0, s25_1, s25_3, s25_4, s25_7, s25_8, s25_11, s25_12, s25_13, s25_16, s25_18, s25_20, s25_23, s25_24, s25_25, s25_27, s25_28, s25_29, s25_32, s25_33, s25_34, s25_37, s25_40, s25_41, nI_le2, nI_lt2, nI_eq2, nI_lt0, nI_0le, nI_0lt, nI_le0, nI_eq0, nI_clamp, nI_add, bu_nI, bb_0, bb_1, rf_s, rf_n, tl_s, tl_n, am_th_some, if_true, if_false, sI_eq, uI_eq, and_self, true_and, and_true, not_false_eq_true, not_true_eq_false, Nat.reduceEqDiff, Nat.reduceLeDiff, Nat.reduceLT, Nat.reduceAdd, Nat.reduceMul, Nat.reduceSub, Nat.zero_add, h1, k0, c_cellBeside k5 (show o < 25 by omega) hs, h2, h3]
        · rcases Nat.lt_succ_iff_lt_or_eq.mp hz with q | q
          · exact hi z q c hc he
          · rw [q, e] at he
            exact absurd he.symm (m1_ne (by omega))
      · rw [e] at h2
        have hbit := bit_and (s := S) (c := c) (by omega) (by omega)
        cases ht : S.testBit c with
        | true =>
          rw [ht] at hbit
          have hbit := hbit.trans (eq_false (by decide))
          right; left
          refine ⟨⟨s, hs, c, hc, e, ht⟩, ?_⟩
          rw [s25_2]
          simp (disch := first | omega | assumption) only [s25_0, s25_1, s25_3, s25_4, s25_7, s25_8, s25_11, s25_12, s25_13, s25_16, s25_18, s25_20, s25_23, s25_24, s25_25, s25_27, s25_28, s25_29, s25_32, s25_33, s25_34, s25_37, s25_40, s25_41, nI_le2, nI_lt2, nI_eq2, nI_lt0, nI_0le, nI_0lt, nI_le0, nI_eq0, nI_clamp, nI_add, bu_nI, bb_0, bb_1, rf_s, rf_n, tl_s, tl_n, am_th_some, if_true, if_false, sI_eq, uI_eq, and_self, true_and, and_true, not_false_eq_true, not_true_eq_false, Nat.reduceEqDiff, Nat.reduceLeDiff, Nat.reduceLT, Nat.reduceAdd, Nat.reduceMul, Nat.reduceSub, Nat.zero_add, h1, k0, c_cellBeside k5 (show o < 25 by omega) hs, h2, hbit]
        | false =>
          rw [ht] at hbit
          have hbit := hbit.trans (eq_true rfl)
          left
          refine ⟨.int (nI c), ?_, fun z hz c2 hc2 he => ?_⟩
          · rw [s25_2]
            simp (disch := first | omega | assumption) only [s25_0, s25_1, s25_3, s25_4, s25_7, s25_8, s25_11, s25_12, s25_13, s25_16, s25_18, s25_20, s25_23, s25_24, s25_25, s25_27, s25_28, s25_29, s25_32, s25_33, s25_34, s25_37, s25_40, s25_41, nI_le2, nI_lt2, nI_eq2, nI_lt0, nI_0le, nI_0lt, nI_le0, nI_eq0, nI_clamp, nI_add, bu_nI, bb_0, bb_1, rf_s, rf_n, tl_s, tl_n, am_th_some, if_true, if_false, sI_eq, uI_eq, and_self, true_and, and_true, not_false_eq_true, not_true_eq_false, Nat.reduceEqDiff, Nat.reduceLeDiff, Nat.reduceLT, Nat.reduceAdd, Nat.reduceMul, Nat.reduceSub, Nat.zero_add, h1, k0, c_cellBeside k5 (show o < 25 by omega) hs, h2, hbit]
          · rcases Nat.lt_succ_iff_lt_or_eq.mp hz with q | q
            · exact hi z q c2 hc2 he
            · rw [q, e, nI_eq2 (by omega) (by omega)] at he
              rw [← he, ht]; decide
    · intro a hi
      right
      refine ⟨fun ⟨s, hs, c, hc, e, ht⟩ => hi s hs c hc e ht, ?_⟩
      rw [s25_2]
      simp (disch := first | omega | assumption) only [s25_0, s25_1, s25_3, s25_4, s25_7, s25_8, s25_11, s25_12, s25_13, s25_16, s25_18, s25_20, s25_23, s25_24, s25_25, s25_27, s25_28, s25_29, s25_32, s25_33, s25_34, s25_37, s25_40, s25_41, nI_le2, nI_lt2, nI_eq2, nI_lt0, nI_0le, nI_0lt, nI_le0, nI_eq0, nI_clamp, nI_add, bu_nI, bb_0, bb_1, rf_s, rf_n, tl_s, tl_n, am_th_some, if_true, if_false, sI_eq, uI_eq, and_self, true_and, and_true, not_false_eq_true, not_true_eq_false, Nat.reduceEqDiff, Nat.reduceLeDiff, Nat.reduceLT, Nat.reduceAdd, Nat.reduceMul, Nat.reduceSub, Nat.zero_add]
  rw [s25]
  simp (disch := first | omega | assumption) only [s25_0, s25_1, s25_3, s25_4, s25_7, s25_8, s25_11, s25_12, s25_13, s25_16, s25_18, s25_20, s25_23, s25_24, s25_25, s25_27, s25_28, s25_29, s25_32, s25_33, s25_34, s25_37, s25_40, s25_41, nI_le2, nI_lt2, nI_eq2, nI_lt0, nI_0le, nI_0lt, nI_le0, nI_eq0, nI_clamp, nI_add, bu_nI, bb_0, bb_1, rf_s, rf_n, tl_s, tl_n, am_th_some, if_true, if_false, sI_eq, uI_eq, and_self, true_and, and_true, not_false_eq_true, not_true_eq_false, Nat.reduceEqDiff, Nat.reduceLeDiff, Nat.reduceLT, Nat.reduceAdd, Nat.reduceMul, Nat.reduceSub, Nat.zero_add]
  exact loop am_J
theorem c_foodFrom (hk : kk_R R u) (hp : pp_R R p) (hP : pp_at I p P) (hn4 : P 4 0 = nI n) (hwh : w * h = n) (hw : w < 6) (hh : h < 6) (hB : bs_at I u n (sp_B w h)) (hn : n ≤ 25) (hkn : k < n) : ∃ S, jn_ok w h n P k S ∧ am_cal (d + 2) 24 [.ref (am_mk 2 0), .ref (am_mk 9 p), .int (nI k)] I R Q = some (some (.int (nI S)), I, R, Q) := by
  subst hwh
  obtain ⟨p0, p1, p2, p3⟩ := hp
  have h4 : I 9 p 4 = nI (w * h) := hP.2.1.trans hn4
  let Ok : Nat → Prop := fun S => S < 2 ^ 25 ∧ S.testBit k = true ∧ ∀ c, S.testBit c = true → sp_rc w h (w * h) P k c
  -- one pass
  have pass : ∀ (S : Nat) (i : Nat) (l6 : Value), Ok S → ∃ S', am_ev (d + 2) 24 29 [.ref (am_mk 2 0), .ref (am_mk 9 p), .int (nI k), .int (nI S), .int (nI S), .int (nI i), .int (nI 0)] [] I R Q = am_ev (d + 2) 24 10 [.ref (am_mk 2 0), .ref (am_mk 9 p), .int (nI k), .int (nI S'), .int (nI S), .int (nI (i + 1)), .int (nI (w * h))] [] I R Q ∧ Ok S' ∧ (S' = S ∨ sp_un 25 S' + 1 ≤ sp_un 25 S) ∧ (S' = S → jn_cl w h (w * h) P S) := by
    intro S i l6 ⟨o1, o2, o3⟩
    refine loop_inv (f := fun (S' : Nat) o => am_ev (d + 2) 24 29 [.ref (am_mk 2 0), .ref (am_mk 9 p), .int (nI k), .int (nI S'), .int (nI S), .int (nI i), .int (nI o)] [] I R Q) (Inv := fun o S' => Ok S' ∧ (S' = S ∨ sp_un 25 S' + 1 ≤ sp_un 25 S) ∧ (∀ c, S.testBit c = true → S'.testBit c = true) ∧ ∀ x, x < o → ¬ P 0 x ≤ 0 → sp_bs w h x S → S'.testBit x = true) (Post := fun y => ∃ S', y = am_ev (d + 2) 24 10 [.ref (am_mk 2 0), .ref (am_mk 9 p), .int (nI k), .int (nI S'), .int (nI S), .int (nI (i + 1)), .int (nI (w * h))] [] I R Q ∧ Ok S' ∧ (S' = S ∨ sp_un 25 S' + 1 ≤ sp_un 25 S) ∧ (S' = S → jn_cl w h (w * h) P S)) (n := w * h) ?_ ?_ (Nat.zero_le _) (a := S) ⟨⟨o1, o2, o3⟩, Or.inl rfl, fun c hc => hc, fun x hx => absurd hx (Nat.not_lt_zero _)⟩
    · intro o S' hol ⟨⟨q1, q2, q3⟩, q4, q5, q6⟩
      left
      have h1 : ¬ w * h ≤ o := by omega
      have h2 : ¬ 25 ≤ o := by omega
      have hf := c_hasFood_k (d := d + 1) (Q := Q) p0 hP hn4 hn hol
      have e1 : nI 1 <<< (nI o &&& 31) = nI (2 ^ o) := nI_bit (by omega)
      by_cases f : P 0 o ≤ 0
      · rw [if_pos f] at hf
        refine ⟨S', ?_, ⟨q1, q2, q3⟩, q4, q5, fun x hx hfx hb => ?_⟩
        · rw [s24_29]
          simp (disch := first | omega | assumption) only [s24_0, s24_1, s24_2, s24_3, s24_4, s24_5, s24_7, s24_8, s24_12, s24_14, s24_17, s24_18, s24_20, s24_23, s24_24, s24_26, s24_27, s24_31, s24_32, s24_35, s24_38, s24_40, s24_42, s24_45, s24_46, s24_48, s24_51, s24_54, s24_55, s24_57, s24_58, s24_61, s24_64, s24_65, s24_66, s24_68, s24_69, s24_70, s24_71, s24_74, s24_77, s24_80, s24_83, s24_84, nI_le2, nI_lt2, nI_eq2, nI_lt0, nI_0le, nI_0lt, nI_le0, nI_eq0, nI_clamp, nI_add, bu_nI, bb_0, bb_1, rf_s, rf_n, tl_s, tl_n, am_th_some, if_true, if_false, sI_eq, uI_eq, and_self, true_and, and_true, not_false_eq_true, not_true_eq_false, Nat.reduceEqDiff, Nat.reduceLeDiff, Nat.reduceLT, Nat.reduceAdd, Nat.reduceMul, Nat.reduceSub, Nat.zero_add, h4, h1, h2, hf]
        · rcases Nat.lt_succ_iff_lt_or_eq.mp hx with q | q
          · exact q6 x q hfx hb
          · rw [q] at hfx; exact absurd f hfx
      · rw [if_neg f] at hf
        rcases c_isBeside (d := d) (Q := Q) hk hB hw hh hn hol q1 with ⟨b1, b2⟩ | ⟨b1, b2⟩
        · have hrc : sp_rc w h (w * h) P k o := by
            obtain ⟨s, hs, c, hc, e, ht⟩ := b1
            rcases nb_all w hw h hh o hol s hs with w1 | ⟨c2, hc2, w2, z, hz, w3⟩
            · rw [w1] at e; exact absurd e.symm (m1_ne (by omega))
            · rw [w2, nI_eq2 (by omega) (by omega)] at e
              subst e
              exact rc_step (q3 _ ht) hz w3 hol f
          refine ⟨S' ||| 2 ^ o, ?_, ⟨or_lt q1 (p25 (by omega)), or_tb.mpr (Or.inl q2), fun c hc => ?_⟩, ?_, fun c hc => or_tb.mpr (Or.inl (q5 c hc)), fun x hx hfx hb => ?_⟩
          · rw [s24_29]
            simp (disch := first | omega | assumption) only [s24_0, s24_1, s24_2, s24_3, s24_4, s24_5, s24_7, s24_8, s24_12, s24_14, s24_17, s24_18, s24_20, s24_23, s24_24, s24_26, s24_27, s24_31, s24_32, s24_35, s24_38, s24_40, s24_42, s24_45, s24_46, s24_48, s24_51, s24_54, s24_55, s24_57, s24_58, s24_61, s24_64, s24_65, s24_66, s24_68, s24_69, s24_70, s24_71, s24_74, s24_77, s24_80, s24_83, s24_84, nI_le2, nI_lt2, nI_eq2, nI_lt0, nI_0le, nI_0lt, nI_le0, nI_eq0, nI_clamp, nI_add, bu_nI, bb_0, bb_1, rf_s, rf_n, tl_s, tl_n, am_th_some, if_true, if_false, sI_eq, uI_eq, and_self, true_and, and_true, not_false_eq_true, not_true_eq_false, Nat.reduceEqDiff, Nat.reduceLeDiff, Nat.reduceLT, Nat.reduceAdd, Nat.reduceMul, Nat.reduceSub, Nat.zero_add, h4, h1, h2, hf, b2, e1, nI_or]
          · rcases or_tb.mp hc with q | q
            · exact q3 c q
            · rw [q]; exact hrc
          · cases ht : S'.testBit o with
            | true => rw [or_bit ht]; exact q4
            | false =>
              right
              have hu := un_set ht 25
              rw [if_pos (by omega)] at hu
              rcases q4 with q | q
              · rw [q] at hu ⊢; omega
              · omega
          · rcases Nat.lt_succ_iff_lt_or_eq.mp hx with q | q
            · exact or_tb.mpr (Or.inl (q6 x q hfx hb))
            · exact or_tb.mpr (Or.inr q)
        · refine ⟨S', ?_, ⟨q1, q2, q3⟩, q4, q5, fun x hx hfx hb => ?_⟩
          · rw [s24_29]
            simp (disch := first | omega | assumption) only [s24_0, s24_1, s24_2, s24_3, s24_4, s24_5, s24_7, s24_8, s24_12, s24_14, s24_17, s24_18, s24_20, s24_23, s24_24, s24_26, s24_27, s24_31, s24_32, s24_35, s24_38, s24_40, s24_42, s24_45, s24_46, s24_48, s24_51, s24_54, s24_55, s24_57, s24_58, s24_61, s24_64, s24_65, s24_66, s24_68, s24_69, s24_70, s24_71, s24_74, s24_77, s24_80, s24_83, s24_84, nI_le2, nI_lt2, nI_eq2, nI_lt0, nI_0le, nI_0lt, nI_le0, nI_eq0, nI_clamp, nI_add, bu_nI, bb_0, bb_1, rf_s, rf_n, tl_s, tl_n, am_th_some, if_true, if_false, sI_eq, uI_eq, and_self, true_and, and_true, not_false_eq_true, not_true_eq_false, Nat.reduceEqDiff, Nat.reduceLeDiff, Nat.reduceLT, Nat.reduceAdd, Nat.reduceMul, Nat.reduceSub, Nat.zero_add, h4, h1, h2, hf, b2]
          · rcases Nat.lt_succ_iff_lt_or_eq.mp hx with q | q
            · exact q6 x q hfx hb
            · subst q
              obtain ⟨s, hs, c, hc, e, ht⟩ := hb
              exact absurd ⟨s, hs, c, hc, e, q5 c ht⟩ b1
    · intro S' ⟨q1, q4, q5, q6⟩
      refine ⟨S', ?_, q1, q4, fun e => ?_⟩
      · rw [s24_29]
        simp (disch := first | omega | assumption) only [s24_0, s24_1, s24_2, s24_3, s24_4, s24_5, s24_7, s24_8, s24_12, s24_14, s24_17, s24_18, s24_20, s24_23, s24_24, s24_26, s24_27, s24_31, s24_32, s24_35, s24_38, s24_40, s24_42, s24_45, s24_46, s24_48, s24_51, s24_54, s24_55, s24_57, s24_58, s24_61, s24_64, s24_65, s24_66, s24_68, s24_69, s24_70, s24_71, s24_74, s24_77, s24_80, s24_83, s24_84, nI_le2, nI_lt2, nI_eq2, nI_lt0, nI_0le, nI_0lt, nI_le0, nI_eq0, nI_clamp, nI_add, bu_nI, bb_0, bb_1, rf_s, rf_n, tl_s, tl_n, am_th_some, if_true, if_false, sI_eq, uI_eq, and_self, true_and, and_true, not_false_eq_true, not_true_eq_false, Nat.reduceEqDiff, Nat.reduceLeDiff, Nat.reduceLT, Nat.reduceAdd, Nat.reduceMul, Nat.reduceSub, Nat.zero_add, h4, Nat.le_refl]
      · subst e
        intro c o s hc ht hs e ho hf
        refine q6 o ho hf ?_
        rcases nb_all w hw h hh c hc s hs with w1 | ⟨c2, hc2, w2, z, hz, w3⟩
        · rw [w1] at e; exact absurd e.symm (m1_ne (by omega))
        · rw [w2, nI_eq2 (by omega) (by omega)] at e
          subst e
          exact ⟨z, hz, c, hc, w3, ht⟩
  have loop : ∀ l6 : Value, ∃ S, jn_ok w h (w * h) P k S ∧ am_ev (d + 2) 24 10 [.ref (am_mk 2 0), .ref (am_mk 9 p), .int (nI k), .int (nI (2 ^ k)), .int (nI 0), .int (nI 0), l6] [] I R Q = some (some (.int (nI S)), I, R, Q) := by
    intro l6
    have ok0 : Ok (2 ^ k) := ⟨p25 (by omega), Nat.testBit_two_pow_self, fun c hc => by
      rw [Nat.testBit_two_pow, decide_eq_true_iff] at hc
      rw [← hc]; exact rc_base⟩
    have un0 : sp_un 25 (2 ^ k) = 24 := by
      have := un_set (Nat.zero_testBit k) 25
      rw [Nat.zero_or, un_0, if_pos (by omega)] at this
      omega
    refine loop_inv (f := fun (a : Nat × Nat × Value) i => am_ev (d + 2) 24 10 [.ref (am_mk 2 0), .ref (am_mk 9 p), .int (nI k), .int (nI a.1), .int (nI a.2.1), .int (nI i), a.2.2] [] I R Q) (Inv := fun i a => Ok a.1 ∧ a.2.1 < 2 ^ 25 ∧ ((a.1 = a.2.1 ∧ jn_cl w h (w * h) P a.1) ∨ (¬ a.1 = a.2.1 ∧ sp_un 25 a.1 + i ≤ 24))) (Post := fun y => ∃ S, jn_ok w h (w * h) P k S ∧ y = some (some (.int (nI S)), I, R, Q)) (n := 25) ?_ ?_ (Nat.zero_le _) (a := (2 ^ k, 0, l6)) ⟨ok0, by show (0 : Nat) < 2 ^ 25; decide, Or.inr ⟨by have := Nat.two_pow_pos k; show ¬ 2 ^ k = 0; omega, by show sp_un 25 (2 ^ k) + 0 ≤ 24; omega⟩⟩
    · intro i ⟨S, S0, l6⟩ hi ⟨q1, q0, q2⟩
      have q1 : Ok S := q1
      have q0 : S0 < 2 ^ 25 := q0
      have q2 : (S = S0 ∧ jn_cl w h (w * h) P S) ∨ (¬ S = S0 ∧ sp_un 25 S + i ≤ 24) := q2
      have hS := q1.1
      have h1 : ¬ 25 ≤ i := by omega
      rcases q2 with ⟨e, cl⟩ | ⟨e, hu⟩
      · right
        subst e
        refine ⟨S, jn_of hkn q1.1 q1.2.1 q1.2.2 cl, ?_⟩
        rw [s24_10]
        simp (disch := first | omega | assumption) only [s24_0, s24_1, s24_2, s24_3, s24_4, s24_5, s24_7, s24_8, s24_12, s24_14, s24_17, s24_18, s24_20, s24_23, s24_24, s24_26, s24_27, s24_31, s24_32, s24_35, s24_38, s24_40, s24_42, s24_45, s24_46, s24_48, s24_51, s24_54, s24_55, s24_57, s24_58, s24_61, s24_64, s24_65, s24_66, s24_68, s24_69, s24_70, s24_71, s24_74, s24_77, s24_80, s24_83, s24_84, nI_le2, nI_lt2, nI_eq2, nI_lt0, nI_0le, nI_0lt, nI_le0, nI_eq0, nI_clamp, nI_add, bu_nI, bb_0, bb_1, rf_s, rf_n, tl_s, tl_n, am_th_some, if_true, if_false, sI_eq, uI_eq, and_self, true_and, and_true, not_false_eq_true, not_true_eq_false, Nat.reduceEqDiff, Nat.reduceLeDiff, Nat.reduceLT, Nat.reduceAdd, Nat.reduceMul, Nat.reduceSub, Nat.zero_add, h1]
      · left
        obtain ⟨S', g1, g2, g3, g4⟩ := pass S i l6 q1
        refine ⟨(S', S, .int (nI (w * h))), ?_, g2, hS, ?_⟩
        · have e' : (nI S = nI S0) = False := by rw [nI_eq2 (by omega) (by omega)]; exact eq_false e
          rw [s24_10]
          simp (disch := first | omega | assumption) only [s24_0, s24_1, s24_2, s24_3, s24_4, s24_5, s24_7, s24_8, s24_12, s24_14, s24_17, s24_18, s24_20, s24_23, s24_24, s24_26, s24_27, s24_31, s24_32, s24_35, s24_38, s24_40, s24_42, s24_45, s24_46, s24_48, s24_51, s24_54, s24_55, s24_57, s24_58, s24_61, s24_64, s24_65, s24_66, s24_68, s24_69, s24_70, s24_71, s24_74, s24_77, s24_80, s24_83, s24_84, nI_le2, nI_lt2, nI_eq2, nI_lt0, nI_0le, nI_0lt, nI_le0, nI_eq0, nI_clamp, nI_add, bu_nI, bb_0, bb_1, rf_s, rf_n, tl_s, tl_n, am_th_some, if_true, if_false, sI_eq, uI_eq, and_self, true_and, and_true, not_false_eq_true, not_true_eq_false, Nat.reduceEqDiff, Nat.reduceLeDiff, Nat.reduceLT, Nat.reduceAdd, Nat.reduceMul, Nat.reduceSub, Nat.zero_add, h1, e']
          exact g1
        · by_cases e2 : S' = S
          · exact Or.inl ⟨e2, by show jn_cl w h (w * h) P S'; rw [e2]; exact g4 e2⟩
          · exact Or.inr ⟨e2, by show sp_un 25 S' + (i + 1) ≤ 24; have := g3.resolve_left e2; omega⟩
    · intro ⟨S, S0, l6⟩ ⟨q1, q0, q2⟩
      have q1 : Ok S := q1
      have q2 : (S = S0 ∧ jn_cl w h (w * h) P S) ∨ (¬ S = S0 ∧ sp_un 25 S + 25 ≤ 24) := q2
      rcases q2 with ⟨e, cl⟩ | ⟨e, hu⟩
      · refine ⟨S, jn_of hkn q1.1 q1.2.1 q1.2.2 cl, ?_⟩
        rw [s24_10]
        simp (disch := first | omega | assumption) only [s24_0, s24_1, s24_2, s24_3, s24_4, s24_5, s24_7, s24_8, s24_12, s24_14, s24_17, s24_18, s24_20, s24_23, s24_24, s24_26, s24_27, s24_31, s24_32, s24_35, s24_38, s24_40, s24_42, s24_45, s24_46, s24_48, s24_51, s24_54, s24_55, s24_57, s24_58, s24_61, s24_64, s24_65, s24_66, s24_68, s24_69, s24_70, s24_71, s24_74, s24_77, s24_80, s24_83, s24_84, nI_le2, nI_lt2, nI_eq2, nI_lt0, nI_0le, nI_0lt, nI_le0, nI_eq0, nI_clamp, nI_add, bu_nI, bb_0, bb_1, rf_s, rf_n, tl_s, tl_n, am_th_some, if_true, if_false, sI_eq, uI_eq, and_self, true_and, and_true, not_false_eq_true, not_true_eq_false, Nat.reduceEqDiff, Nat.reduceLeDiff, Nat.reduceLT, Nat.reduceAdd, Nat.reduceMul, Nat.reduceSub, Nat.zero_add]
      · omega
  have e1 : nI 1 <<< (nI k &&& 31) = nI (2 ^ k) := nI_bit (by omega)
  obtain ⟨S, g1, g2⟩ := loop am_J
  refine ⟨S, g1, ?_⟩
  rw [s24]
  simp (disch := first | omega | assumption) only [s24_0, s24_1, s24_2, s24_3, s24_4, s24_5, s24_7, s24_8, s24_12, s24_14, s24_17, s24_18, s24_20, s24_23, s24_24, s24_26, s24_27, s24_29, s24_31, s24_32, s24_35, s24_38, s24_40, s24_42, s24_45, s24_46, s24_48, s24_51, s24_54, s24_55, s24_57, s24_58, s24_61, s24_64, s24_65, s24_66, s24_68, s24_69, s24_70, s24_71, s24_74, s24_77, s24_80, s24_83, s24_84, nI_le2, nI_lt2, nI_eq2, nI_lt0, nI_0le, nI_0lt, nI_le0, nI_eq0, nI_clamp, nI_add, bu_nI, bb_0, bb_1, rf_s, rf_n, tl_s, tl_n, am_th_some, if_true, if_false, sI_eq, uI_eq, and_self, true_and, and_true, not_false_eq_true, not_true_eq_false, Nat.reduceEqDiff, Nat.reduceLeDiff, Nat.reduceLT, Nat.reduceAdd, Nat.reduceMul, Nat.reduceSub, Nat.zero_add, e1]
  exact g2
end
