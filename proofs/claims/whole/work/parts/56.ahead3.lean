/-! The class Ahead: the best place, odds. -/
/-- where it gets warmest: how warm, where -/
def sp_pl1 (T : pl_T) (full : Int32) (k cnt : Nat) (P : Nat → Nat → Int32) (a : Int32 × Int32) (c : Nat) : Int32 × Int32 :=
  if c = k ∨ P 0 c ≤ 0 then (if a.1 < sp_it T full (sp_shift P k c) cnt 2 c - sp_it T full (sp_shift P k c) cnt 1 c then (sp_it T full (sp_shift P k c) cnt 2 c - sp_it T full (sp_shift P k c) cnt 1 c, nI c) else a) else a
def sp_place (T : pl_T) (full : Int32) (k cnt n : Nat) (P : Nat → Nat → Int32) : Int32 := (am_fold (sp_pl1 T full k cnt P) (-nI 1000000000, -nI 1) n).2
/-- of how many parts it is SAFE -/
def sp_parts (T : pl_T) (full sf : Int32) (n ch : Nat) : Nat → (Nat → Nat → Int32) → Nat → Nat
  | 0, P, p => if sp_safe sf n P then p else 0
  | k + 1, P, p => sp_parts T full sf n ch k (T full (sp_mix P)).1 (p * ch / 100) + sp_parts T full sf n ch k (T full P).1 (p - p * ch / 100)
theorem parts_0 {T : pl_T} {full sf : Int32} {n ch : Nat} : ∀ (k : Nat) (P : Nat → Nat → Int32), sp_parts T full sf n ch k P 0 = 0 := by
  intro k
  induction k with
  | zero => intro P; rw [sp_parts]; split <;> rfl
  | succ k ih => intro P; rw [sp_parts, Nat.zero_mul, Nat.zero_div, ih, ih]
theorem shift_same {k : Nat} {P : Nat → Nat → Int32} (h : ¬ P 0 k ≤ 0) : sp_shift P k k = P := if_neg h
section
variable {d n b m u q : Nat} {I : am_I} {R : am_R} {Q : am_Q} {P : Nat → Nat → Int32} {T : pl_T}
theorem c_bestPlace (hr : aa_R R u) (hkT : kT T n b) (hb : 1 ≤ b ∧ b ≤ 99) (hn2 : n ≤ 25) (hq : q ≤ 9) (hT : cT T n b R Q I) (hfu : I 14 u 2 = nI q) (hI : pt_I n b m P) (hm : m < 2 ^ 27) {p k cnt : Nat} (hp : p < 54) (hp2 : 12 ≤ p) (hP : pp_at I p P) (hc : cnt ≤ 60) (hkn : k < n) (hk0 : ¬ P 0 k ≤ 0) : ∃ J, am_cal (d + 10) 10 [.ref (am_mk 1 0), .ref (am_mk 9 p), .int (nI k), .int (nI cnt)] I R Q = some (some (.int (sp_place T (nI q) k cnt n P)), J, R, Q) ∧ am_fr ah_S I J := by
  have hr2 := hr
  obtain ⟨r0, r1, r2, r3, r4, r5⟩ := hr
  have hn := hI.1
  have e14 : ∀ {J} j, am_fr ah_S I J → J 14 u j = I 14 u j := fun {J} j hf => hf _ _ _ (fun w => by unfold ah_S at w; omega)
  have sc : ∀ {J}, am_fr ah_S I J → pp_at J p P := fun {J} hf => pl_fr hP hf (fun a j ha w => by unfold ah_S at w; omega)
  obtain ⟨s0, s1, s2, s3⟩ := r4 2 (by decide)
  obtain ⟨t0, t1, t2, t3⟩ := r4 p hp
  have bu2 : am_bu (nI 2) 6 = True := bu_nI (by decide)
  have loop : ∀ l8 l9 : Value, ∃ J, am_ev (d + 10) 10 17 [.ref (am_mk 1 0), .ref (am_mk 9 p), .int (nI k), .int (nI cnt), .ref (am_mk 9 3), .int (-nI 1), .int (-nI 1000000000), .int (nI 0), l8, l9] [] I R Q = some (some (.int (sp_place T (nI q) k cnt n P)), J, R, Q) ∧ am_fr ah_S I J := by
    intro l8 l9
    refine loop_inv (f := fun (a : am_I × (Int32 × Int32) × Value × Value) c => am_ev (d + 10) 10 17 [.ref (am_mk 1 0), .ref (am_mk 9 p), .int (nI k), .int (nI cnt), .ref (am_mk 9 3), .int a.2.1.2, .int a.2.1.1, .int (nI c), a.2.2.1, a.2.2.2] [] a.1 R Q) (Inv := fun c a => am_fr ah_S I a.1 ∧ a.2.1 = am_fold (sp_pl1 T (nI q) k cnt P) (-nI 1000000000, -nI 1) c) (Post := fun y => ∃ J, y = some (some (.int (sp_place T (nI q) k cnt n P)), J, R, Q) ∧ am_fr ah_S I J) (n := n) ?_ ?_ (Nat.zero_le _) (a := (I, (-nI 1000000000, -nI 1), l8, l9)) ⟨fr_rf, rfl⟩
    · intro c ⟨J, a, l8, l9⟩ hcn ⟨f1, f2⟩
      left
      have f1 : am_fr ah_S I J := f1
      have f2 : a = am_fold (sp_pl1 T (nI q) k cnt P) (-nI 1000000000, -nI 1) c := f2
      have hPJ := sc f1
      have h1 : ¬ n ≤ c := by omega
      have h2 : ¬ 25 ≤ c := by omega
      have hc4 : J 9 p 4 = nI n := hPJ.2.1.trans hn
      have hf := c_hasFood_k (d := d + 9) (Q := Q) t0 hPJ hn hn2 hcn
      by_cases hcond : c = k ∨ P 0 c ≤ 0
      · obtain ⟨J1, a1, a2, a3⟩ := c_become (d := d + 9) (Q := Q) (r4 p hp) (r4 3 (by decide)) (by omega) hPJ (pt_bb hI)
        obtain ⟨J2, b1, b2, b3⟩ := c_shift (d := d + 8) (Q := Q) (r4 3 (by decide)) a3 hn hn2 hkn hcn hk0
        have f3 := fr_x (fr_x f1 a2 (pS_ah (by decide) (by decide))) b2 (pS_ah (by decide) (by decide))
        obtain ⟨J3, g1, g2, g3⟩ := c_behind (d := d) (q := q) hr2 (cT_fr hT (fr_mo f3 ah_ev)) hkT (shift_I hb.1 hkn hk0 hcn hn2 hI) (by omega) hq (by decide) (by decide) b3 hc
        have f4 := fr_tr f3 g2
        have e2 := (e14 2 f3).trans hfu
        obtain ⟨k0, k1', k2', k3, k4, k5⟩ := r5
        obtain ⟨y0, y1, y2, y3⟩ := g3.1 c (by omega)
        have toV : ∀ l8 l9, ∃ l8', am_ev (d + 10) 10 17 [.ref (am_mk 1 0), .ref (am_mk 9 p), .int (nI k), .int (nI cnt), .ref (am_mk 9 3), .int a.2, .int a.1, .int (nI c), l8, l9] [] J R Q = am_ev (d + 10) 10 102 [.ref (am_mk 1 0), .ref (am_mk 9 p), .int (nI k), .int (nI cnt), .ref (am_mk 9 3), .int a.2, .int a.1, .int (nI c), l8', .int (sp_it T (nI q) (sp_shift P k c) cnt 2 c - sp_it T (nI q) (sp_shift P k c) cnt 1 c)] [] J3 R Q := by
          intro l8 l9
          refine ⟨.ref (am_mk 9 2), ?_⟩
          rw [s10_17]
          by_cases e : c = k
          · subst e
            simp (disch := first | omega | assumption) only [s10_0, s10_1, s10_2, s10_5, s10_7, s10_8, s10_10, s10_12, s10_14, s10_15, s10_19, s10_20, s10_23, s10_26, s10_28, s10_30, s10_33, s10_35, s10_36, s10_39, s10_40, s10_42, s10_45, s10_48, s10_50, s10_51, s10_54, s10_56, s10_57, s10_59, s10_62, s10_63, s10_65, s10_66, s10_67, s10_70, s10_73, s10_76, s10_77, s10_78, s10_81, s10_83, s10_85, s10_88, s10_90, s10_91, s10_93, s10_96, s10_98, s10_99, s10_100, s10_104, s10_106, s10_109, s10_111, s10_113, s10_115, s10_117, s10_120, s10_123, s10_125, nI_le2, nI_lt2, nI_eq2, nI_lt0, nI_0le, nI_0lt, nI_le0, nI_eq0, nI_clamp, nI_add, bu_nI, bb_0, bb_1, rf_s, rf_n, tl_s, tl_n, am_th_some, if_true, if_false, sI_eq, uI_eq, and_self, true_and, and_true, not_false_eq_true, not_true_eq_false, Nat.reduceEqDiff, Nat.reduceLeDiff, Nat.reduceLT, Nat.reduceAdd, Nat.reduceMul, Nat.reduceSub, Nat.zero_add, hc4, h1, h2, a1, b1, r0, k0, k3, e2, bu2, g1, s1, s2, y1, y2]
          · have hc0 : P 0 c ≤ 0 := hcond.resolve_left e
            rw [if_pos hc0] at hf
            simp (disch := first | omega | assumption) only [s10_0, s10_1, s10_2, s10_5, s10_7, s10_8, s10_10, s10_12, s10_14, s10_15, s10_19, s10_20, s10_23, s10_26, s10_28, s10_30, s10_33, s10_35, s10_36, s10_39, s10_40, s10_42, s10_45, s10_48, s10_50, s10_51, s10_54, s10_56, s10_57, s10_59, s10_62, s10_63, s10_65, s10_66, s10_67, s10_70, s10_73, s10_76, s10_77, s10_78, s10_81, s10_83, s10_85, s10_88, s10_90, s10_91, s10_93, s10_96, s10_98, s10_99, s10_100, s10_104, s10_106, s10_109, s10_111, s10_113, s10_115, s10_117, s10_120, s10_123, s10_125, nI_le2, nI_lt2, nI_eq2, nI_lt0, nI_0le, nI_0lt, nI_le0, nI_eq0, nI_clamp, nI_add, bu_nI, bb_0, bb_1, rf_s, rf_n, tl_s, tl_n, am_th_some, if_true, if_false, sI_eq, uI_eq, and_self, true_and, and_true, not_false_eq_true, not_true_eq_false, Nat.reduceEqDiff, Nat.reduceLeDiff, Nat.reduceLT, Nat.reduceAdd, Nat.reduceMul, Nat.reduceSub, Nat.zero_add, hc4, h1, h2, e, hf, a1, b1, r0, k0, k3, e2, bu2, g1, s1, s2, y1, y2]
        obtain ⟨l8', hV⟩ := toV l8 l9
        by_cases hlt : a.1 < sp_it T (nI q) (sp_shift P k c) cnt 2 c - sp_it T (nI q) (sp_shift P k c) cnt 1 c
        · refine ⟨(J3, (sp_it T (nI q) (sp_shift P k c) cnt 2 c - sp_it T (nI q) (sp_shift P k c) cnt 1 c, nI c), l8', .int (sp_it T (nI q) (sp_shift P k c) cnt 2 c - sp_it T (nI q) (sp_shift P k c) cnt 1 c)), hV.trans ?_, f4, ?_⟩
          · have := Int32.not_le.mpr hlt
            simp (disch := first | omega | assumption) only [s10_0, s10_1, s10_2, s10_5, s10_7, s10_8, s10_10, s10_12, s10_14, s10_15, s10_19, s10_20, s10_23, s10_26, s10_28, s10_30, s10_33, s10_35, s10_36, s10_39, s10_40, s10_42, s10_45, s10_48, s10_50, s10_51, s10_54, s10_56, s10_57, s10_59, s10_62, s10_63, s10_65, s10_66, s10_67, s10_70, s10_73, s10_76, s10_77, s10_78, s10_81, s10_83, s10_85, s10_88, s10_90, s10_91, s10_93, s10_96, s10_98, s10_99, s10_100, s10_102, s10_104, s10_106, s10_109, s10_111, s10_113, s10_115, s10_117, s10_120, s10_123, s10_125, nI_le2, nI_lt2, nI_eq2, nI_lt0, nI_0le, nI_0lt, nI_le0, nI_eq0, nI_clamp, nI_add, bu_nI, bb_0, bb_1, rf_s, rf_n, tl_s, tl_n, am_th_some, if_true, if_false, sI_eq, uI_eq, and_self, true_and, and_true, not_false_eq_true, not_true_eq_false, Nat.reduceEqDiff, Nat.reduceLeDiff, Nat.reduceLT, Nat.reduceAdd, Nat.reduceMul, Nat.reduceSub, Nat.zero_add, this]
          · rw [fold_s, ← f2, sp_pl1, if_pos hcond, if_pos hlt]
        · refine ⟨(J3, a, l8', .int (sp_it T (nI q) (sp_shift P k c) cnt 2 c - sp_it T (nI q) (sp_shift P k c) cnt 1 c)), hV.trans ?_, f4, ?_⟩
          · have := Int32.not_lt.mp hlt
            simp (disch := first | omega | assumption) only [s10_0, s10_1, s10_2, s10_5, s10_7, s10_8, s10_10, s10_12, s10_14, s10_15, s10_19, s10_20, s10_23, s10_26, s10_28, s10_30, s10_33, s10_35, s10_36, s10_39, s10_40, s10_42, s10_45, s10_48, s10_50, s10_51, s10_54, s10_56, s10_57, s10_59, s10_62, s10_63, s10_65, s10_66, s10_67, s10_70, s10_73, s10_76, s10_77, s10_78, s10_81, s10_83, s10_85, s10_88, s10_90, s10_91, s10_93, s10_96, s10_98, s10_99, s10_100, s10_102, s10_104, s10_106, s10_109, s10_111, s10_113, s10_115, s10_117, s10_120, s10_123, s10_125, nI_le2, nI_lt2, nI_eq2, nI_lt0, nI_0le, nI_0lt, nI_le0, nI_eq0, nI_clamp, nI_add, bu_nI, bb_0, bb_1, rf_s, rf_n, tl_s, tl_n, am_th_some, if_true, if_false, sI_eq, uI_eq, and_self, true_and, and_true, not_false_eq_true, not_true_eq_false, Nat.reduceEqDiff, Nat.reduceLeDiff, Nat.reduceLT, Nat.reduceAdd, Nat.reduceMul, Nat.reduceSub, Nat.zero_add, this]
          · rw [fold_s, ← f2, sp_pl1, if_pos hcond, if_neg hlt]
      · have e : ¬ c = k := fun w => hcond (Or.inl w)
        have hc0 : ¬ P 0 c ≤ 0 := fun w => hcond (Or.inr w)
        rw [if_neg hc0] at hf
        refine ⟨(J, a, l8, l9), ?_, f1, by rw [fold_s, ← f2, sp_pl1, if_neg hcond]⟩
        rw [s10_17]
        simp (disch := first | omega | assumption) only [s10_0, s10_1, s10_2, s10_5, s10_7, s10_8, s10_10, s10_12, s10_14, s10_15, s10_19, s10_20, s10_23, s10_26, s10_28, s10_30, s10_33, s10_35, s10_36, s10_39, s10_40, s10_42, s10_45, s10_48, s10_50, s10_51, s10_54, s10_56, s10_57, s10_59, s10_62, s10_63, s10_65, s10_66, s10_67, s10_70, s10_73, s10_76, s10_77, s10_78, s10_81, s10_83, s10_85, s10_88, s10_90, s10_91, s10_93, s10_96, s10_98, s10_99, s10_100, s10_102, s10_104, s10_106, s10_109, s10_111, s10_113, s10_115, s10_117, s10_120, s10_123, s10_125, nI_le2, nI_lt2, nI_eq2, nI_lt0, nI_0le, nI_0lt, nI_le0, nI_eq0, nI_clamp, nI_add, bu_nI, bb_0, bb_1, rf_s, rf_n, tl_s, tl_n, am_th_some, if_true, if_false, sI_eq, uI_eq, and_self, true_and, and_true, not_false_eq_true, not_true_eq_false, Nat.reduceEqDiff, Nat.reduceLeDiff, Nat.reduceLT, Nat.reduceAdd, Nat.reduceMul, Nat.reduceSub, Nat.zero_add, hc4, h1, h2, e, hf]
    · intro ⟨J, a, l8, l9⟩ ⟨f1, f2⟩
      have f1 : am_fr ah_S I J := f1
      have f2 : a = am_fold (sp_pl1 T (nI q) k cnt P) (-nI 1000000000, -nI 1) n := f2
      have hc4 : J 9 p 4 = nI n := (sc f1).2.1.trans hn
      refine ⟨J, ?_, f1⟩
      rw [s10_17]
      simp (disch := first | omega | assumption) only [s10_0, s10_1, s10_2, s10_5, s10_7, s10_8, s10_10, s10_12, s10_14, s10_15, s10_19, s10_20, s10_23, s10_26, s10_28, s10_30, s10_33, s10_35, s10_36, s10_39, s10_40, s10_42, s10_45, s10_48, s10_50, s10_51, s10_54, s10_56, s10_57, s10_59, s10_62, s10_63, s10_65, s10_66, s10_67, s10_70, s10_73, s10_76, s10_77, s10_78, s10_81, s10_83, s10_85, s10_88, s10_90, s10_91, s10_93, s10_96, s10_98, s10_99, s10_100, s10_102, s10_104, s10_106, s10_109, s10_111, s10_113, s10_115, s10_117, s10_120, s10_123, s10_125, nI_le2, nI_lt2, nI_eq2, nI_lt0, nI_0le, nI_0lt, nI_le0, nI_eq0, nI_clamp, nI_add, bu_nI, bb_0, bb_1, rf_s, rf_n, tl_s, tl_n, am_th_some, if_true, if_false, sI_eq, uI_eq, and_self, true_and, and_true, not_false_eq_true, not_true_eq_false, Nat.reduceEqDiff, Nat.reduceLeDiff, Nat.reduceLT, Nat.reduceAdd, Nat.reduceMul, Nat.reduceSub, Nat.zero_add, hc4, Nat.le_refl]
      rw [f2]
      rfl
  obtain ⟨J, g1, g2⟩ := loop am_J am_J
  refine ⟨J, ?_, g2⟩
  rw [s10]
  simp (disch := first | omega | assumption) only [s10_0, s10_1, s10_2, s10_5, s10_7, s10_8, s10_10, s10_12, s10_14, s10_15, s10_19, s10_20, s10_23, s10_26, s10_28, s10_30, s10_33, s10_35, s10_36, s10_39, s10_40, s10_42, s10_45, s10_48, s10_50, s10_51, s10_54, s10_56, s10_57, s10_59, s10_62, s10_63, s10_65, s10_66, s10_67, s10_70, s10_73, s10_76, s10_77, s10_78, s10_81, s10_83, s10_85, s10_88, s10_90, s10_91, s10_93, s10_96, s10_98, s10_99, s10_100, s10_102, s10_104, s10_106, s10_109, s10_111, s10_113, s10_115, s10_117, s10_120, s10_123, s10_125, nI_le2, nI_lt2, nI_eq2, nI_lt0, nI_0le, nI_0lt, nI_le0, nI_eq0, nI_clamp, nI_add, bu_nI, bb_0, bb_1, rf_s, rf_n, tl_s, tl_n, am_th_some, if_true, if_false, sI_eq, uI_eq, and_self, true_and, and_true, not_false_eq_true, not_true_eq_false, Nat.reduceEqDiff, Nat.reduceLeDiff, Nat.reduceLT, Nat.reduceAdd, Nat.reduceMul, Nat.reduceSub, Nat.zero_add, c_plateAt (d := d + 9) hr2 (show 0 < 9 by decide)]
  exact g1
theorem c_partsFrom (hr : aa_R R u) (hkT : kT T n b) (hb : 1 ≤ b ∧ b ≤ 99) (hn2 : n ≤ 25) (hq : q ≤ 9) {cnt ch : Nat} (hc : cnt ≤ 8) (hch : ch ≤ 100) : ∀ (left : Nat) (I : am_I) (P : Nat → Nat → Int32) (m dep p : Nat), dep + left = cnt → cT T n b R Q I → I 14 u 2 = nI q → pt_I n b m P → m + left < 2 ^ 29 → p ≤ 1000000000 → pp_at I (3 + dep) P → ∃ J, am_cal (d + 9 + left) 13 [.ref (am_mk 1 0), .int (nI dep), .int (nI cnt), .int (nI ch), .int (nI p)] I R Q = some (some (.int (nI (sp_parts T (nI q) (I 14 u 5) n ch left P p))), J, R, Q) ∧ am_fr ah_S I J ∧ am_fr (fun a b _ => ¬ ((a = 9 ∨ a = 19 ∨ a = 20 ∨ a = 21 ∨ a = 22) ∧ b ≤ 3 + dep)) I J := by
  have hr2 := hr
  obtain ⟨r0, r1, r2, r3, r4, r5⟩ := hr
  have r5' := r5
  obtain ⟨k0, k1', k2', k3, k4, k5⟩ := r5'
  have bu2 : am_bu (nI 2) 6 = True := bu_nI (by decide)
  intro left
  induction left with
  | zero =>
    intro I P m dep p hd hT hfu hI hm hp hP
    obtain rfl : dep = cnt := by omega
    have hs := c_isSafe (d := d + 8) (Q := Q) r5 (r4 (3 + dep) (by omega)) hP hI.1 hn2
    refine ⟨I, ?_, fr_rf, fr_rf⟩
    rw [s13]
    by_cases sf : sp_safe (I 14 u 5) n P
    · rw [if_pos sf] at hs
      rw [sp_parts, if_pos sf]
      simp (disch := first | omega | assumption) only [s13_0, s13_1, s13_2, s13_5, s13_7, s13_8, s13_9, s13_12, s13_13, s13_15, s13_18, s13_19, s13_22, s13_24, s13_27, s13_30, s13_32, s13_35, s13_36, s13_37, s13_38, s13_39, s13_40, s13_41, s13_44, s13_46, s13_47, s13_50, s13_53, s13_56, s13_57, s13_58, s13_60, s13_62, s13_63, s13_64, s13_65, s13_66, s13_69, s13_70, s13_71, s13_73, s13_74, s13_76, s13_78, s13_81, s13_83, s13_85, s13_88, s13_90, s13_93, s13_94, s13_97, s13_99, s13_101, s13_104, s13_105, s13_107, s13_108, s13_109, s13_110, s13_111, s13_112, s13_113, s13_115, s13_118, s13_119, s13_121, s13_123, s13_125, s13_128, s13_130, s13_132, s13_135, s13_136, s13_139, s13_141, s13_143, s13_146, s13_147, s13_149, s13_150, s13_151, s13_152, s13_153, s13_154, s13_155, s13_157, s13_159, s13_160, s13_163, s13_164, s13_166, s13_168, nI_le2, nI_lt2, nI_eq2, nI_lt0, nI_0le, nI_0lt, nI_le0, nI_eq0, nI_clamp, nI_add, bu_nI, bb_0, bb_1, rf_s, rf_n, tl_s, tl_n, am_th_some, if_true, if_false, sI_eq, uI_eq, and_self, true_and, and_true, not_false_eq_true, not_true_eq_false, Nat.reduceEqDiff, Nat.reduceLeDiff, Nat.reduceLT, Nat.reduceAdd, Nat.reduceMul, Nat.reduceSub, Nat.zero_add, c_plateAt (d := d + 8) hr2 (show dep < 9 by omega), Nat.le_refl, r0, hs, Nat.add_zero]
    · rw [if_neg sf] at hs
      rw [sp_parts, if_neg sf]
      simp (disch := first | omega | assumption) only [s13_0, s13_1, s13_2, s13_5, s13_7, s13_8, s13_9, s13_12, s13_13, s13_15, s13_18, s13_19, s13_22, s13_24, s13_27, s13_30, s13_32, s13_35, s13_36, s13_37, s13_38, s13_39, s13_40, s13_41, s13_44, s13_46, s13_47, s13_50, s13_53, s13_56, s13_57, s13_58, s13_60, s13_62, s13_63, s13_64, s13_65, s13_66, s13_69, s13_70, s13_71, s13_73, s13_74, s13_76, s13_78, s13_81, s13_83, s13_85, s13_88, s13_90, s13_93, s13_94, s13_97, s13_99, s13_101, s13_104, s13_105, s13_107, s13_108, s13_109, s13_110, s13_111, s13_112, s13_113, s13_115, s13_118, s13_119, s13_121, s13_123, s13_125, s13_128, s13_130, s13_132, s13_135, s13_136, s13_139, s13_141, s13_143, s13_146, s13_147, s13_149, s13_150, s13_151, s13_152, s13_153, s13_154, s13_155, s13_157, s13_159, s13_160, s13_163, s13_164, s13_166, s13_168, nI_le2, nI_lt2, nI_eq2, nI_lt0, nI_0le, nI_0lt, nI_le0, nI_eq0, nI_clamp, nI_add, bu_nI, bb_0, bb_1, rf_s, rf_n, tl_s, tl_n, am_th_some, if_true, if_false, sI_eq, uI_eq, and_self, true_and, and_true, not_false_eq_true, not_true_eq_false, Nat.reduceEqDiff, Nat.reduceLeDiff, Nat.reduceLT, Nat.reduceAdd, Nat.reduceMul, Nat.reduceSub, Nat.zero_add, c_plateAt (d := d + 8) hr2 (show dep < 9 by omega), Nat.le_refl, r0, hs, Nat.add_zero]
  | succ left ih =>
    intro I P m dep p hd hT hfu hI hm hp hP
    have e14 : ∀ {J} j, am_fr ah_S I J → J 14 u j = I 14 u j := fun {J} j hf => hf _ _ _ (fun w => by unfold ah_S at w; omega)
    let FR : Nat → Nat → Nat → Prop := fun a b _ => ¬ ((a = 9 ∨ a = 19 ∨ a = 20 ∨ a = 21 ∨ a = 22) ∧ b ≤ 3 + dep)
    have pF : ∀ a b j, pp_S (3 + (dep + 1)) a b j → FR a b j := fun a b j v w => by unfold pp_S at v; omega
    have kF : ∀ a b j, kk_S (3 + (dep + 1)) a b j → FR a b j := fun a b j v w => by unfold kk_S at v; omega
    have iF : ∀ a b j, (¬ ((a = 9 ∨ a = 19 ∨ a = 20 ∨ a = 21 ∨ a = 22) ∧ b ≤ 3 + (dep + 1))) → FR a b j := fun a b j v w => v ⟨w.1, by omega⟩
    have h1 : ¬ cnt ≤ dep := by omega
    have h2 : (dep < 8) = True := eq_true (by omega)
    have h3 : ¬ 8 ≤ dep := by omega
    have hs1 : p * ch / 100 ≤ p := by
      have : p * ch ≤ p * 100 := Nat.mul_le_mul_left _ hch
      omega
    have hpl := parts_l hp hch
    generalize hst : p * ch / 100 = st at hs1 hpl
    have hsp : sp_parts T (nI q) (I 14 u 5) n ch (left + 1) P p = sp_parts T (nI q) (I 14 u 5) n ch left (T (nI q) (sp_mix P)).1 st + sp_parts T (nI q) (I 14 u 5) n ch left (T (nI q) P).1 (p - st) := by rw [sp_parts, hst]
    have h100 : ((100 : Int64) = 0) = False := eq_false (by decide)
    have start : am_cal (d + 9 + (left + 1)) 13 [.ref (am_mk 1 0), .int (nI dep), .int (nI cnt), .int (nI ch), .int (nI p)] I R Q = am_ev (d + 9 + (left + 1)) 13 76 [.ref (am_mk 1 0), .int (nI dep), .int (nI cnt), .int (nI ch), .int (nI p), .ref (am_mk 9 (3 + dep)), .ref (am_mk 9 (3 + (dep + 1))), .int (nI q), .int (nI st), .int (nI 0)] [] I R Q := by
      rw [s13, show d + 9 + (left + 1) = d + 9 + left + 1 by omega]
      simp (disch := first | omega | assumption) only [s13_0, s13_1, s13_2, s13_5, s13_7, s13_8, s13_9, s13_12, s13_13, s13_15, s13_18, s13_19, s13_22, s13_24, s13_27, s13_30, s13_32, s13_35, s13_36, s13_37, s13_38, s13_39, s13_40, s13_41, s13_44, s13_46, s13_47, s13_50, s13_53, s13_56, s13_57, s13_58, s13_60, s13_62, s13_63, s13_64, s13_65, s13_66, s13_69, s13_70, s13_71, s13_73, s13_74, s13_78, s13_81, s13_83, s13_85, s13_88, s13_90, s13_93, s13_94, s13_97, s13_99, s13_101, s13_104, s13_105, s13_107, s13_108, s13_109, s13_110, s13_111, s13_112, s13_113, s13_115, s13_118, s13_119, s13_121, s13_123, s13_125, s13_128, s13_130, s13_132, s13_135, s13_136, s13_139, s13_141, s13_143, s13_146, s13_147, s13_149, s13_150, s13_151, s13_152, s13_153, s13_154, s13_155, s13_157, s13_159, s13_160, s13_163, s13_164, s13_166, s13_168, nI_le2, nI_lt2, nI_eq2, nI_lt0, nI_0le, nI_0lt, nI_le0, nI_eq0, nI_clamp, nI_add, bu_nI, bb_0, bb_1, rf_s, rf_n, tl_s, tl_n, am_th_some, if_true, if_false, sI_eq, uI_eq, and_self, true_and, and_true, not_false_eq_true, not_true_eq_false, Nat.reduceEqDiff, Nat.reduceLeDiff, Nat.reduceLT, Nat.reduceAdd, Nat.reduceMul, Nat.reduceSub, Nat.zero_add, c_plateAt (d := d + 9 + left) hr2 (show dep < 9 by omega), c_plateAt (d := d + 9 + left) hr2 (show dep + 1 < 9 by omega), h1, h2, h3, r0, k0, k3, hfu, bu2, h100, hpl]
    -- the half that is stirred
    obtain ⟨J1, s1, s2, s3⟩ : ∃ J1, am_ev (d + 9 + (left + 1)) 13 76 [.ref (am_mk 1 0), .int (nI dep), .int (nI cnt), .int (nI ch), .int (nI p), .ref (am_mk 9 (3 + dep)), .ref (am_mk 9 (3 + (dep + 1))), .int (nI q), .int (nI st), .int (nI 0)] [] I R Q = am_ev (d + 9 + (left + 1)) 13 121 [.ref (am_mk 1 0), .int (nI dep), .int (nI cnt), .int (nI ch), .int (nI p), .ref (am_mk 9 (3 + dep)), .ref (am_mk 9 (3 + (dep + 1))), .int (nI q), .int (nI st), .int (nI (sp_parts T (nI q) (I 14 u 5) n ch left (T (nI q) (sp_mix P)).1 st))] [] J1 R Q ∧ am_fr ah_S I J1 ∧ am_fr FR I J1 := by
      by_cases e : st = 0
      · refine ⟨I, ?_, fr_rf, fr_rf⟩
        rw [e, parts_0]
        simp (disch := first | omega | assumption) only [s13_0, s13_1, s13_2, s13_5, s13_7, s13_8, s13_9, s13_12, s13_13, s13_15, s13_18, s13_19, s13_22, s13_24, s13_27, s13_30, s13_32, s13_35, s13_36, s13_37, s13_38, s13_39, s13_40, s13_41, s13_44, s13_46, s13_47, s13_50, s13_53, s13_56, s13_57, s13_58, s13_60, s13_62, s13_63, s13_64, s13_65, s13_66, s13_69, s13_70, s13_71, s13_73, s13_74, s13_76, s13_78, s13_81, s13_83, s13_85, s13_88, s13_90, s13_93, s13_94, s13_97, s13_99, s13_101, s13_104, s13_105, s13_107, s13_108, s13_109, s13_110, s13_111, s13_112, s13_113, s13_115, s13_118, s13_119, s13_123, s13_125, s13_128, s13_130, s13_132, s13_135, s13_136, s13_139, s13_141, s13_143, s13_146, s13_147, s13_149, s13_150, s13_151, s13_152, s13_153, s13_154, s13_155, s13_157, s13_159, s13_160, s13_163, s13_164, s13_166, s13_168, nI_le2, nI_lt2, nI_eq2, nI_lt0, nI_0le, nI_0lt, nI_le0, nI_eq0, nI_clamp, nI_add, bu_nI, bb_0, bb_1, rf_s, rf_n, tl_s, tl_n, am_th_some, if_true, if_false, sI_eq, uI_eq, and_self, true_and, and_true, not_false_eq_true, not_true_eq_false, Nat.reduceEqDiff, Nat.reduceLeDiff, Nat.reduceLT, Nat.reduceAdd, Nat.reduceMul, Nat.reduceSub, Nat.zero_add]
      · obtain ⟨J1, a1, a2, a3⟩ := c_become (d := d + 9 + left) (Q := Q) (r4 (3 + dep) (by omega)) (r4 (3 + (dep + 1)) (by omega)) (by omega) hP (pt_bb hI)
        obtain ⟨J2, b1, b2, b3⟩ := c_mix (d := d + 7 + left) (Q := Q) (r4 (3 + (dep + 1)) (by omega)) a3
        rw [show d + 7 + left + 2 = d + 9 + left by omega] at b1
        have f2 := fr_x (fr_mo a2 (pS_ah (by omega) (by omega))) b2 (pS_ah (by omega) (by omega))
        have f2' := fr_x (fr_mo a2 pF) b2 pF
        obtain ⟨J3, g1, g2, g3⟩ := hT (d + 1 + left) J2 (3 + (dep + 1)) m q _ (fr_mo f2 ah_ev) (by omega) b3 (mix_I hb hI) (by omega) hq
        rw [show d + 1 + left + 8 = d + 9 + left by omega] at g1
        have f3 := fr_x f2 g2 (kS_ah (by omega) (by omega))
        have f3' := fr_x f2' g2 kF
        obtain ⟨J4, i1, i2, i3⟩ := ih J3 (T (nI q) (sp_mix P)).1 (m + 1) (dep + 1) st (by omega) (cT_fr hT (fr_mo f3 ah_ev)) ((e14 2 f3).trans hfu) (hkT m q _ (mix_I hb hI)).1 (by omega) (by omega) g3
        rw [e14 5 f3] at i1
        refine ⟨J4, ?_, fr_tr f3 i2, fr_x f3' i3 iF⟩
        rw [show d + 9 + (left + 1) = d + 9 + left + 1 by omega]
        simp (disch := first | omega | assumption) only [s13_0, s13_1, s13_2, s13_5, s13_7, s13_8, s13_9, s13_12, s13_13, s13_15, s13_18, s13_19, s13_22, s13_24, s13_27, s13_30, s13_32, s13_35, s13_36, s13_37, s13_38, s13_39, s13_40, s13_41, s13_44, s13_46, s13_47, s13_50, s13_53, s13_56, s13_57, s13_58, s13_60, s13_62, s13_63, s13_64, s13_65, s13_66, s13_69, s13_70, s13_71, s13_73, s13_74, s13_76, s13_78, s13_81, s13_83, s13_85, s13_88, s13_90, s13_93, s13_94, s13_97, s13_99, s13_101, s13_104, s13_105, s13_107, s13_108, s13_109, s13_110, s13_111, s13_112, s13_113, s13_115, s13_118, s13_119, s13_123, s13_125, s13_128, s13_130, s13_132, s13_135, s13_136, s13_139, s13_141, s13_143, s13_146, s13_147, s13_149, s13_150, s13_151, s13_152, s13_153, s13_154, s13_155, s13_157, s13_159, s13_160, s13_163, s13_164, s13_166, s13_168, nI_le2, nI_lt2, nI_eq2, nI_lt0, nI_0le, nI_0lt, nI_le0, nI_eq0, nI_clamp, nI_add, bu_nI, bb_0, bb_1, rf_s, rf_n, tl_s, tl_n, am_th_some, if_true, if_false, sI_eq, uI_eq, and_self, true_and, and_true, not_false_eq_true, not_true_eq_false, Nat.reduceEqDiff, Nat.reduceLeDiff, Nat.reduceLT, Nat.reduceAdd, Nat.reduceMul, Nat.reduceSub, Nat.zero_add, e, a1, b1, r0, g1, i1]
    rw [hsp, start, s1]
    generalize sp_parts T (nI q) (I 14 u 5) n ch left (T (nI q) (sp_mix P)).1 st = v1
    have hPJ : pp_at J1 (3 + dep) P := pl_fr hP s3 (fun a j ha v => v ⟨ha, Nat.le_refl _⟩)
    by_cases e : p ≤ st
    · refine ⟨J1, ?_, s2, s3⟩
      have : p - st = 0 := by omega
      rw [this, parts_0, Nat.add_zero]
      simp (disch := first | omega | assumption) only [s13_0, s13_1, s13_2, s13_5, s13_7, s13_8, s13_9, s13_12, s13_13, s13_15, s13_18, s13_19, s13_22, s13_24, s13_27, s13_30, s13_32, s13_35, s13_36, s13_37, s13_38, s13_39, s13_40, s13_41, s13_44, s13_46, s13_47, s13_50, s13_53, s13_56, s13_57, s13_58, s13_60, s13_62, s13_63, s13_64, s13_65, s13_66, s13_69, s13_70, s13_71, s13_73, s13_74, s13_76, s13_78, s13_81, s13_83, s13_85, s13_88, s13_90, s13_93, s13_94, s13_97, s13_99, s13_101, s13_104, s13_105, s13_107, s13_108, s13_109, s13_110, s13_111, s13_112, s13_113, s13_115, s13_118, s13_119, s13_121, s13_123, s13_125, s13_128, s13_130, s13_132, s13_135, s13_136, s13_139, s13_141, s13_143, s13_146, s13_147, s13_149, s13_150, s13_151, s13_152, s13_153, s13_154, s13_155, s13_157, s13_159, s13_160, s13_163, s13_164, s13_166, s13_168, nI_le2, nI_lt2, nI_eq2, nI_lt0, nI_0le, nI_0lt, nI_le0, nI_eq0, nI_clamp, nI_add, bu_nI, bb_0, bb_1, rf_s, rf_n, tl_s, tl_n, am_th_some, if_true, if_false, sI_eq, uI_eq, and_self, true_and, and_true, not_false_eq_true, not_true_eq_false, Nat.reduceEqDiff, Nat.reduceLeDiff, Nat.reduceLT, Nat.reduceAdd, Nat.reduceMul, Nat.reduceSub, Nat.zero_add, e, Nat.add_zero]
    · obtain ⟨J2, a1, a2, a3⟩ := c_become (d := d + 9 + left) (Q := Q) (r4 (3 + dep) (by omega)) (r4 (3 + (dep + 1)) (by omega)) (by omega) hPJ (pt_bb hI)
      have f2 := fr_x s2 a2 (pS_ah (by omega) (by omega))
      have f2' := fr_x s3 a2 pF
      obtain ⟨J3, g1, g2, g3⟩ := hT (d + 1 + left) J2 (3 + (dep + 1)) m q _ (fr_mo f2 ah_ev) (by omega) a3 hI (by omega) hq
      rw [show d + 1 + left + 8 = d + 9 + left by omega] at g1
      have f3 := fr_x f2 g2 (kS_ah (by omega) (by omega))
      have f3' := fr_x f2' g2 kF
      obtain ⟨J4, i1, i2, i3⟩ := ih J3 (T (nI q) P).1 (m + 1) (dep + 1) (p - st) (by omega) (cT_fr hT (fr_mo f3 ah_ev)) ((e14 2 f3).trans hfu) (hkT m q _ hI).1 (by omega) (by omega) g3
      rw [e14 5 f3] at i1
      refine ⟨J4, ?_, fr_tr f3 i2, fr_x f3' i3 iF⟩
      have hsub : nI p - nI st = nI (p - st) := nI_sub (by omega)
      rw [show d + 9 + (left + 1) = d + 9 + left + 1 by omega]
      simp (disch := first | omega | assumption) only [s13_0, s13_1, s13_2, s13_5, s13_7, s13_8, s13_9, s13_12, s13_13, s13_15, s13_18, s13_19, s13_22, s13_24, s13_27, s13_30, s13_32, s13_35, s13_36, s13_37, s13_38, s13_39, s13_40, s13_41, s13_44, s13_46, s13_47, s13_50, s13_53, s13_56, s13_57, s13_58, s13_60, s13_62, s13_63, s13_64, s13_65, s13_66, s13_69, s13_70, s13_71, s13_73, s13_74, s13_76, s13_78, s13_81, s13_83, s13_85, s13_88, s13_90, s13_93, s13_94, s13_97, s13_99, s13_101, s13_104, s13_105, s13_107, s13_108, s13_109, s13_110, s13_111, s13_112, s13_113, s13_115, s13_118, s13_119, s13_121, s13_123, s13_125, s13_128, s13_130, s13_132, s13_135, s13_136, s13_139, s13_141, s13_143, s13_146, s13_147, s13_149, s13_150, s13_151, s13_152, s13_153, s13_154, s13_155, s13_157, s13_159, s13_160, s13_163, s13_164, s13_166, s13_168, nI_le2, nI_lt2, nI_eq2, nI_lt0, nI_0le, nI_0lt, nI_le0, nI_eq0, nI_clamp, nI_add, bu_nI, bb_0, bb_1, rf_s, rf_n, tl_s, tl_n, am_th_some, if_true, if_false, sI_eq, uI_eq, and_self, true_and, and_true, not_false_eq_true, not_true_eq_false, Nat.reduceEqDiff, Nat.reduceLeDiff, Nat.reduceLT, Nat.reduceAdd, Nat.reduceMul, Nat.reduceSub, Nat.zero_add, e, a1, r0, g1, hsub, i1]
theorem c_partsSafe (hr : aa_R R u) (hkT : kT T n b) (hb : 1 ≤ b ∧ b ≤ 99) (hn2 : n ≤ 25) (hq : q ≤ 9) (hT : cT T n b R Q I) (hfu : I 14 u 2 = nI q) (hI : pt_I n b m P) (hm : m < 2 ^ 28) {p cnt ch : Nat} (hp : p < 54) (hp2 : ¬ p = 3) (hP : pp_at I p P) (hc : cnt ≤ 8) (hch : ch ≤ 100) : ∃ J, am_cal (d + 18) 12 [.ref (am_mk 1 0), .ref (am_mk 9 p), .int (nI cnt), .int (nI ch)] I R Q = some (some (.int (nI (sp_parts T (nI q) (I 14 u 5) n ch cnt P 1000000000))), J, R, Q) ∧ am_fr ah_S I J := by
  have hr2 := hr
  obtain ⟨r0, r1, r2, r3, r4, r5⟩ := hr
  obtain ⟨J0, a1, a2, a3⟩ := c_become (d := d + 17) (Q := Q) (r4 p hp) (r4 3 (by decide)) hp2 hP (pt_bb hI)
  have f1 : am_fr ah_S I J0 := fr_mo a2 (pS_ah (by decide) (by decide))
  have e14 : ∀ {J} j, am_fr ah_S I J → J 14 u j = I 14 u j := fun {J} j hf => hf _ _ _ (fun w => by unfold ah_S at w; omega)
  obtain ⟨J1, g1, g2, g3⟩ := c_partsFrom (d := d + 8 - cnt) hr2 hkT hb hn2 hq hc hch cnt J0 P m 0 1000000000 (by omega) (cT_fr hT (fr_mo f1 ah_ev)) ((e14 2 f1).trans hfu) hI (by omega) (Nat.le_refl _) a3
  rw [show d + 8 - cnt + 9 + cnt = d + 17 by omega, e14 5 f1] at g1
  refine ⟨J1, ?_, fr_tr f1 g2⟩
  rw [s12]
  simp (disch := first | omega | assumption) only [s12_0, s12_1, s12_2, s12_5, s12_6, s12_9, s12_10, s12_11, s12_12, s12_13, s12_15, s12_18, nI_le2, nI_lt2, nI_eq2, nI_lt0, nI_0le, nI_0lt, nI_le0, nI_eq0, nI_clamp, nI_add, bu_nI, bb_0, bb_1, rf_s, rf_n, tl_s, tl_n, am_th_some, if_true, if_false, sI_eq, uI_eq, and_self, true_and, and_true, not_false_eq_true, not_true_eq_false, Nat.reduceEqDiff, Nat.reduceLeDiff, Nat.reduceLT, Nat.reduceAdd, Nat.reduceMul, Nat.reduceSub, Nat.zero_add, c_plateAt (d := d + 17) hr2 (show 0 < 9 by decide), Nat.add_zero, a1, g1]
end
