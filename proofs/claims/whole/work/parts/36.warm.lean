/-! The class Kitchen: what FOOD gets, a whole TEN. -/
theorem sI_sI (I : am_I) (a b : Nat) (f g : Nat → Int32) : am_sI (am_sI I a b f) a b g = am_sI I a b g := by
  funext x y
  unfold am_sI
  by_cases e : x = a ∧ y = b
  · rw [if_pos e, if_pos e]
  · rw [if_neg e, if_neg e, if_neg e]
theorem pp_f_congr {P P' : Nat → Nat → Int32} (h : ∀ j, P 0 j = P' 0 j) (h4 : P 4 0 = P' 4 0) (x : Int32) : pp_f P x ↔ pp_f P' x := by
  unfold pp_f
  rw [h4, h]
theorem edges_congr {B P P' : Nat → Nat → Int32} (h : ∀ j, P 0 j = P' 0 j) (h4 : P 4 0 = P' 4 0) (k : Nat) : sp_edges B P k = sp_edges B P' k := fold_congr fun x c _ => by
  by_cases e : pp_f P (B k c)
  · rw [if_pos e, if_pos ((pp_f_congr h h4 _).mp e)]
  · rw [if_neg e, if_neg (fun w => e ((pp_f_congr h h4 _).mpr w))]
def sp_usual (f : Nat → Int32) : Int32 := f 0 * f 1 / nI 10 + f 5 - f 2 / nI 4
def law_S : Nat → Nat → Nat → Prop := fun a _ j => (a = 3 ∧ j = 3) ∨ a = 28
/-- the worth of letters by the law that holds -/
def kk_V (G : (Nat → Int32) → Prop) (R : am_R) (Q : am_Q) (p d : Nat) (I : am_I) (V : (Nat → Int32) → Int32) : Prop := (R 2 0 1 = none ∧ V = sp_usual) ∨ ∃ l, R 2 0 1 = some (am_mk 3 l) ∧ ∀ J, am_fr (kk_S p) I J → G (J 31 0) → ∃ K, am_cal d 32 [.ref (am_mk 3 l), .ref (am_mk 31 0)] J R Q = some (some (.int (V (J 31 0))), K, R, Q) ∧ am_fr law_S J K
abbrev sp_opp (P : Nat → Nat → Int32) : Prop := ¬ P 4 2 = 0 ∧ P 4 1 &&& nI 1 = nI 1
def sp_let (B : Nat → Nat → Int32) (sh : Nat → Int32) (n : Nat) (pw : Int32) (P : Nat → Nat → Int32) (k : Nat) : Nat → Int32 := fun j => if j = 0 then pw else if j = 1 then sh (if sp_opp P then n - 1 - k else k) else if j = 2 then P 0 k else if j = 3 then P 1 k else if j = 4 then P 2 k else if j = 5 then sp_edges B P k else nI 0
def sp_gain (V : (Nat → Int32) → Int32) (B : Nat → Nat → Int32) (sh : Nat → Int32) (n : Nat) (pw : Int32) (P : Nat → Nat → Int32) (k : Nat) : Int32 := sp_max (nI 0) (sp_min (nI 99) (V (sp_let B sh n pw P k)))
def sp_warm (V : (Nat → Int32) → Int32) (B : Nat → Nat → Int32) (sh : Nat → Int32) (n : Nat) (pw : Int32) (P : Nat → Nat → Int32) : Nat → Nat → Int32 := fun a j => if a = 4 then P a j else if j < n ∧ ¬ P 0 j ≤ 0 then (if P 1 j ≤ 0 then (if a = 2 then P 2 j + sp_gain V B sh n pw P j else P a j) else (if a = 1 then sp_max (nI 0) (P 1 j - sp_gain V B sh n pw P j / nI 2) else P a j)) else P a j
theorem warm_0 {V : (Nat → Int32) → Int32} {B : Nat → Nat → Int32} {sh : Nat → Int32} {n : Nat} {pw : Int32} {P : Nat → Nat → Int32} {j : Nat} : sp_warm V B sh n pw P 0 j = P 0 j := by
  unfold sp_warm
  rw [if_neg (by decide)]
  by_cases h : j < n ∧ ¬ P 0 j ≤ 0
  · rw [if_pos h]
    by_cases h1 : P 1 j ≤ 0
    · rw [if_pos h1, if_neg (by decide)]
    · rw [if_neg h1, if_neg (by decide)]
  · rw [if_neg h]
section
variable {d p u n k : Nat} {I : am_I} {R : am_R} {Q : am_Q} {P : Nat → Nat → Int32} {B : Nat → Nat → Int32} {V : (Nat → Int32) → Int32} {pw : Int32} {G : (Nat → Int32) → Prop}
theorem c_usual (h2 : R 2 0 2 = some (am_mk 31 0)) : am_cal d 20 [.ref (am_mk 2 0)] I R Q = some (some (.int (sp_usual (I 31 0))), I, R, Q) := by
  rw [s20]
  have e0 : am_bu (nI 0) 6 = True := bu_nI (by decide)
  have e1 : am_bu (nI 1) 6 = True := bu_nI (by decide)
  have e2 : am_bu (nI 2) 6 = True := bu_nI (by decide)
  have e5 : am_bu (nI 5) 6 = True := bu_nI (by decide)
  simp (disch := first | omega | assumption) only [s20_0, s20_1, s20_4, s20_5, s20_6, s20_7, s20_10, s20_11, s20_12, s20_13, s20_15, s20_16, s20_17, s20_20, s20_21, s20_22, s20_23, s20_24, s20_27, s20_28, s20_29, s20_30, s20_31, s20_32, nI_le2, nI_lt2, nI_eq2, nI_lt0, nI_0le, nI_0lt, nI_le0, nI_eq0, nI_clamp, nI_add, bu_nI, bb_0, bb_1, rf_s, rf_n, tl_s, tl_n, am_th_some, if_true, if_false, sI_eq, uI_eq, and_self, true_and, and_true, not_false_eq_true, not_true_eq_false, Nat.reduceEqDiff, Nat.reduceLeDiff, Nat.reduceLT, Nat.reduceAdd, Nat.reduceMul, Nat.reduceSub, Nat.zero_add, h2, e0, e1, e2, e5, z_10, z_4, sp_usual]
theorem c_worthV (hk : kk_R R u) (hV : kk_V G R Q p d I V) {J : am_I} (hJ : am_fr (kk_S p) I J) (hg : G (J 31 0)) (l1 l2 l3 l4 l5 l6 : Value) : ∃ K, am_ev (d + 1) 19 142 [.ref (am_mk 2 0), l1, l2, l3, l4, l5, l6] [] J R Q = am_ev (d + 1) 19 169 [.ref (am_mk 2 0), l1, l2, l3, l4, .int (V (J 31 0)), l6] [] K R Q ∧ am_fr law_S J K := by
  rcases hV with ⟨h1, h2⟩ | ⟨l, h1, h2⟩
  · refine ⟨J, ?_, fr_rf⟩
    rw [s19_142]
    simp (disch := first | omega | assumption) only [s19_0, s19_1, s19_4, s19_7, s19_8, s19_11, s19_12, s19_13, s19_14, s19_17, s19_18, s19_21, s19_22, s19_23, s19_24, s19_26, s19_28, s19_29, s19_32, s19_35, s19_37, s19_39, s19_42, s19_43, s19_46, s19_48, s19_49, s19_52, s19_53, s19_56, s19_57, s19_58, s19_59, s19_60, s19_63, s19_64, s19_65, s19_68, s19_69, s19_72, s19_73, s19_76, s19_77, s19_78, s19_80, s19_81, s19_84, s19_86, s19_89, s19_90, s19_91, s19_94, s19_95, s19_96, s19_99, s19_101, s19_102, s19_103, s19_104, s19_107, s19_108, s19_109, s19_112, s19_114, s19_115, s19_116, s19_117, s19_120, s19_121, s19_122, s19_125, s19_127, s19_128, s19_129, s19_130, s19_133, s19_134, s19_135, s19_136, s19_138, s19_141, s19_143, s19_146, s19_146n, s19_149, s19_150, s19_153, s19_156, s19_157, s19_160, s19_161, s19_164, s19_167, s19_170, s19_172, s19_174, s19_177, s19_180, s19_182, s19_183, s19_186, s19_188, s19_189, s19_192, s19_193, s19_196, s19_198, s19_199, s19_200, s19_203, s19_205, s19_206, s19_208, s19_209, s19_210, s19_211, s19_214, s19_215, s19_218, s19_219, s19_222, s19_224, s19_225, s19_226, s19_228, s19_229, s19_230, s19_233, s19_236, nI_le2, nI_lt2, nI_eq2, nI_lt0, nI_0le, nI_0lt, nI_le0, nI_eq0, nI_clamp, nI_add, bu_nI, bb_0, bb_1, rf_s, rf_n, tl_s, tl_n, am_th_some, if_true, if_false, sI_eq, uI_eq, and_self, true_and, and_true, not_false_eq_true, not_true_eq_false, Nat.reduceEqDiff, Nat.reduceLeDiff, Nat.reduceLT, Nat.reduceAdd, Nat.reduceMul, Nat.reduceSub, Nat.zero_add, h1, c_usual (d := d) hk.2.1, h2]
  · obtain ⟨K, g1, g2⟩ := h2 J hJ hg
    refine ⟨K, ?_, g2⟩
    rw [s19_142]
    simp (disch := first | omega | assumption) only [s19_0, s19_1, s19_4, s19_7, s19_8, s19_11, s19_12, s19_13, s19_14, s19_17, s19_18, s19_21, s19_22, s19_23, s19_24, s19_26, s19_28, s19_29, s19_32, s19_35, s19_37, s19_39, s19_42, s19_43, s19_46, s19_48, s19_49, s19_52, s19_53, s19_56, s19_57, s19_58, s19_59, s19_60, s19_63, s19_64, s19_65, s19_68, s19_69, s19_72, s19_73, s19_76, s19_77, s19_78, s19_80, s19_81, s19_84, s19_86, s19_89, s19_90, s19_91, s19_94, s19_95, s19_96, s19_99, s19_101, s19_102, s19_103, s19_104, s19_107, s19_108, s19_109, s19_112, s19_114, s19_115, s19_116, s19_117, s19_120, s19_121, s19_122, s19_125, s19_127, s19_128, s19_129, s19_130, s19_133, s19_134, s19_135, s19_136, s19_138, s19_141, s19_143, s19_146, s19_146n, s19_149, s19_150, s19_153, s19_156, s19_157, s19_160, s19_161, s19_164, s19_167, s19_170, s19_172, s19_174, s19_177, s19_180, s19_182, s19_183, s19_186, s19_188, s19_189, s19_192, s19_193, s19_196, s19_198, s19_199, s19_200, s19_203, s19_205, s19_206, s19_208, s19_209, s19_210, s19_211, s19_214, s19_215, s19_218, s19_219, s19_222, s19_224, s19_225, s19_226, s19_228, s19_229, s19_230, s19_233, s19_236, nI_le2, nI_lt2, nI_eq2, nI_lt0, nI_0le, nI_0lt, nI_le0, nI_eq0, nI_clamp, nI_add, bu_nI, bb_0, bb_1, rf_s, rf_n, tl_s, tl_n, am_th_some, if_true, if_false, sI_eq, uI_eq, and_self, true_and, and_true, not_false_eq_true, not_true_eq_false, Nat.reduceEqDiff, Nat.reduceLeDiff, Nat.reduceLT, Nat.reduceAdd, Nat.reduceMul, Nat.reduceSub, Nat.zero_add, h1, hk.2.1, g1]
theorem c_warm (hk : kk_R R u) (hp : pp_R R p) (hP : pp_at I p P) (hn : P 4 0 = nI n) (hn2 : n ≤ 25) (hB : bs_at I u n B) (hV : kk_V G R Q p (d + 1) I V) (hVc : ∀ f g : Nat → Int32, (∀ j, j < 6 → f j = g j) → V f = V g) (hG : ∀ k, k < n → ¬ P 0 k ≤ 0 → ∀ f : Nat → Int32, (∀ j, j < 6 → f j = sp_let B (I 15 u) n pw P k j) → G f) : ∃ J, am_cal (d + 2) 19 [.ref (am_mk 2 0), .ref (am_mk 9 p), .int pw] I R Q = some (none, J, R, Q) ∧ am_fr (kk_S p) I J ∧ pp_at J p (sp_warm V B (I 15 u) n pw P) := by
  have hk2 := hk
  have hp2 := hp
  obtain ⟨k0, k1, k2, k3, k4, k5⟩ := hk
  obtain ⟨p0, p1, p2, p3⟩ := hp
  have loop : ∀ l5 l6 : Value, ∃ J, am_ev (d + 2) 19 26 [.ref (am_mk 2 0), .ref (am_mk 9 p), .int pw, .int (if sp_opp P then nI 1 else nI 0), .int (nI 0), l5, l6] [] I R Q = some (none, J, R, Q) ∧ am_fr (kk_S p) I J ∧ pp_at J p (sp_warm V B (I 15 u) n pw P) := by
    intro l5 l6
    refine loop_inv (f := fun (a : am_I × Value × Value) c => am_ev (d + 2) 19 26 [.ref (am_mk 2 0), .ref (am_mk 9 p), .int pw, .int (if sp_opp P then nI 1 else nI 0), .int (nI c), a.2.1, a.2.2] [] a.1 R Q) (Inv := fun c a => am_fr (kk_S p) I a.1 ∧ pp_at a.1 p (fun a j => if a = 4 then P a j else if j < c then sp_warm V B (I 15 u) n pw P a j else P a j)) (Post := fun y => ∃ J, y = some (none, J, R, Q) ∧ am_fr (kk_S p) I J ∧ pp_at J p (sp_warm V B (I 15 u) n pw P)) (n := n) ?_ ?_ (Nat.zero_le _) (a := (I, l5, l6)) ⟨fr_rf, pl_congr hP (fun a j _ => by simp)⟩
    · intro c ⟨K, l5, l6⟩ hc ⟨f1, f3⟩
      left
      have h1 : ¬ n ≤ c := by omega
      have h2 : ¬ 25 ≤ c := by omega
      have hc4 : K 9 p 4 = nI n := f3.2.1.trans ((if_pos rfl).trans hn)
      obtain ⟨a0, a1, a2, a3⟩ := f3.1 c (by omega)
      simp only [Nat.lt_irrefl, if_false, show ¬ (0 = 4) by decide, show ¬ (1 = 4) by decide, show ¬ (2 = 4) by decide, show ¬ (3 = 4) by decide] at a0 a1 a2 a3
      by_cases b0 : P 0 c ≤ 0
      · refine ⟨(K, l5, l6), ?_, f1, pl_congr f3 fun a j hj => ?_⟩
        · rw [s19_26]
          simp (disch := first | omega | assumption) only [s19_0, s19_1, s19_4, s19_7, s19_8, s19_11, s19_12, s19_13, s19_14, s19_17, s19_18, s19_21, s19_22, s19_23, s19_24, s19_28, s19_29, s19_32, s19_35, s19_37, s19_39, s19_42, s19_43, s19_46, s19_48, s19_49, s19_52, s19_53, s19_56, s19_57, s19_58, s19_59, s19_60, s19_63, s19_64, s19_65, s19_68, s19_69, s19_72, s19_73, s19_76, s19_77, s19_78, s19_80, s19_81, s19_84, s19_86, s19_89, s19_90, s19_91, s19_94, s19_95, s19_96, s19_99, s19_101, s19_102, s19_103, s19_104, s19_107, s19_108, s19_109, s19_112, s19_114, s19_115, s19_116, s19_117, s19_120, s19_121, s19_122, s19_125, s19_127, s19_128, s19_129, s19_130, s19_133, s19_134, s19_135, s19_136, s19_138, s19_141, s19_143, s19_146, s19_146n, s19_149, s19_150, s19_153, s19_156, s19_157, s19_160, s19_161, s19_164, s19_167, s19_169, s19_170, s19_172, s19_174, s19_177, s19_180, s19_182, s19_183, s19_186, s19_188, s19_189, s19_192, s19_193, s19_196, s19_198, s19_199, s19_200, s19_203, s19_205, s19_206, s19_208, s19_209, s19_210, s19_211, s19_214, s19_215, s19_218, s19_219, s19_222, s19_224, s19_225, s19_226, s19_228, s19_229, s19_230, s19_233, s19_236, nI_le2, nI_lt2, nI_eq2, nI_lt0, nI_0le, nI_0lt, nI_le0, nI_eq0, nI_clamp, nI_add, bu_nI, bb_0, bb_1, rf_s, rf_n, tl_s, tl_n, am_th_some, if_true, if_false, sI_eq, uI_eq, and_self, true_and, and_true, not_false_eq_true, not_true_eq_false, Nat.reduceEqDiff, Nat.reduceLeDiff, Nat.reduceLT, Nat.reduceAdd, Nat.reduceMul, Nat.reduceSub, Nat.zero_add, p0, hc4, h1, h2, a0, b0]
        · by_cases e4 : a = 4
          · rw [if_pos e4, if_pos e4]
          · rw [if_neg e4, if_neg e4]
            by_cases e1 : j = c
            · subst e1
              rw [if_neg (Nat.lt_irrefl _), if_pos (Nat.lt_succ_self _), sp_warm, if_neg e4, if_neg (fun w => w.2 b0)]
            · by_cases e2 : j < c
              · rw [if_pos e2, if_pos (show j < c + 1 by omega)]
              · rw [if_neg e2, if_neg (show ¬ j < c + 1 by omega)]
      · have hE : ∀ f, am_cal (d + 1) 16 [.ref (am_mk 2 0), .ref (am_mk 9 p), .int (nI c)] (am_sI K 31 0 f) R Q = some (some (.int (sp_edges B P c)), am_sI K 31 0 f, R, Q) := by
          intro f
          have fr0 : am_fr (kk_S p) K (am_sI K 31 0 f) := fr_f fr_rf (fun _ => Or.inl (Or.inl rfl))
          rw [c_edges (d := d) hk2 p0 (pl_fr f3 (fr_f (S := fun a _ _ => a = 31) fr_rf (fun _ => rfl)) (fun a j h w => by omega)) ((if_pos rfl).trans hn) hn2 (bs_fr hB (fr_tr f1 fr0) (fun j w => by rcases w with w | w <;> omega)) hc]
          congr 4
          exact edges_congr (fun j => by
            rw [if_neg (by decide)]
            by_cases e : j < c
            · rw [if_pos e, warm_0]
            · rw [if_neg e]) (if_pos rfl) c
        have hsh : ∀ m, m < 25 → ∀ f, am_cal (d + 1) 52 [.ref (am_mk 6 u), .int (nI m)] (am_sI K 31 0 f) R Q = some (some (.int (I 15 u m)), am_sI K 31 0 f, R, Q) := by
          intro m hm f
          rw [c_shareOf (d := d + 1) k4 hm]
          congr 4
          rw [sI_na (by decide)]
          exact f1 _ _ _ (fun w => by rcases w with w | w <;> omega)
        have e0 : am_bu (nI 0) 6 = True := bu_nI (by decide)
        have e1 : am_bu (nI 1) 6 = True := bu_nI (by decide)
        have e2 : am_bu (nI 2) 6 = True := bu_nI (by decide)
        have e3 : am_bu (nI 3) 6 = True := bu_nI (by decide)
        have e4 : am_bu (nI 4) 6 = True := bu_nI (by decide)
        have e5 : am_bu (nI 5) 6 = True := bu_nI (by decide)
        obtain ⟨F, hF1, hF2⟩ : ∃ F : Nat → Int32, am_ev (d + 2) 19 26 [.ref (am_mk 2 0), .ref (am_mk 9 p), .int pw, .int (if sp_opp P then nI 1 else nI 0), .int (nI c), l5, l6] [] K R Q = am_ev (d + 2) 19 142 [.ref (am_mk 2 0), .ref (am_mk 9 p), .int pw, .int (if sp_opp P then nI 1 else nI 0), .int (nI c), l5, l6] [] (am_sI K 31 0 F) R Q ∧ ∀ j, j < 6 → F j = sp_let B (I 15 u) n pw P c j := by
          by_cases ho : sp_opp P
          · rw [if_pos ho]
            refine ⟨_, by
              rw [s19_26]
              simp (disch := first | omega | assumption) only [s19_0, s19_1, s19_4, s19_7, s19_8, s19_11, s19_12, s19_13, s19_14, s19_17, s19_18, s19_21, s19_22, s19_23, s19_24, s19_28, s19_29, s19_32, s19_35, s19_37, s19_39, s19_42, s19_43, s19_46, s19_48, s19_49, s19_52, s19_53, s19_56, s19_57, s19_58, s19_59, s19_60, s19_63, s19_64, s19_65, s19_68, s19_69, s19_72, s19_73, s19_76, s19_77, s19_78, s19_80, s19_81, s19_84, s19_86, s19_89, s19_90, s19_91, s19_94, s19_95, s19_96, s19_99, s19_101, s19_102, s19_103, s19_104, s19_107, s19_108, s19_109, s19_112, s19_114, s19_115, s19_116, s19_117, s19_120, s19_121, s19_122, s19_125, s19_127, s19_128, s19_129, s19_130, s19_133, s19_134, s19_135, s19_136, s19_138, s19_141, s19_143, s19_146, s19_146n, s19_149, s19_150, s19_153, s19_156, s19_157, s19_160, s19_161, s19_164, s19_167, s19_169, s19_170, s19_172, s19_174, s19_177, s19_180, s19_182, s19_183, s19_186, s19_188, s19_189, s19_192, s19_193, s19_196, s19_198, s19_199, s19_200, s19_203, s19_205, s19_206, s19_208, s19_209, s19_210, s19_211, s19_214, s19_215, s19_218, s19_219, s19_222, s19_224, s19_225, s19_226, s19_228, s19_229, s19_230, s19_233, s19_236, nI_le2, nI_lt2, nI_eq2, nI_lt0, nI_0le, nI_0lt, nI_le0, nI_eq0, nI_clamp, nI_add, bu_nI, bb_0, bb_1, rf_s, rf_n, tl_s, tl_n, am_th_some, if_true, if_false, sI_eq, uI_eq, and_self, true_and, and_true, not_false_eq_true, not_true_eq_false, Nat.reduceEqDiff, Nat.reduceLeDiff, Nat.reduceLT, Nat.reduceAdd, Nat.reduceMul, Nat.reduceSub, Nat.zero_add, k0, k1, p0, p1, p2, hc4, h1, h2, a0, a1, a2, b0, e0, e1, e2, e3, e4, e5, hE, hsh, nI_sub, sI_sI, sI_na, z_1] <;> rfl, fun j hj => ?_⟩
            rcases (show j = 0 ∨ j = 1 ∨ j = 2 ∨ j = 3 ∨ j = 4 ∨ j = 5 by omega) with e | e | e | e | e | e <;> subst e <;> simp (disch := omega) only [uI_eq, uI_ne, sp_let, ho, if_true, if_false, if_pos, if_neg]
          · rw [if_neg ho]
            refine ⟨_, by
              rw [s19_26]
              simp (disch := first | omega | assumption) only [s19_0, s19_1, s19_4, s19_7, s19_8, s19_11, s19_12, s19_13, s19_14, s19_17, s19_18, s19_21, s19_22, s19_23, s19_24, s19_28, s19_29, s19_32, s19_35, s19_37, s19_39, s19_42, s19_43, s19_46, s19_48, s19_49, s19_52, s19_53, s19_56, s19_57, s19_58, s19_59, s19_60, s19_63, s19_64, s19_65, s19_68, s19_69, s19_72, s19_73, s19_76, s19_77, s19_78, s19_80, s19_81, s19_84, s19_86, s19_89, s19_90, s19_91, s19_94, s19_95, s19_96, s19_99, s19_101, s19_102, s19_103, s19_104, s19_107, s19_108, s19_109, s19_112, s19_114, s19_115, s19_116, s19_117, s19_120, s19_121, s19_122, s19_125, s19_127, s19_128, s19_129, s19_130, s19_133, s19_134, s19_135, s19_136, s19_138, s19_141, s19_143, s19_146, s19_146n, s19_149, s19_150, s19_153, s19_156, s19_157, s19_160, s19_161, s19_164, s19_167, s19_169, s19_170, s19_172, s19_174, s19_177, s19_180, s19_182, s19_183, s19_186, s19_188, s19_189, s19_192, s19_193, s19_196, s19_198, s19_199, s19_200, s19_203, s19_205, s19_206, s19_208, s19_209, s19_210, s19_211, s19_214, s19_215, s19_218, s19_219, s19_222, s19_224, s19_225, s19_226, s19_228, s19_229, s19_230, s19_233, s19_236, nI_le2, nI_lt2, nI_eq2, nI_lt0, nI_0le, nI_0lt, nI_le0, nI_eq0, nI_clamp, nI_add, bu_nI, bb_0, bb_1, rf_s, rf_n, tl_s, tl_n, am_th_some, if_true, if_false, sI_eq, uI_eq, and_self, true_and, and_true, not_false_eq_true, not_true_eq_false, Nat.reduceEqDiff, Nat.reduceLeDiff, Nat.reduceLT, Nat.reduceAdd, Nat.reduceMul, Nat.reduceSub, Nat.zero_add, k0, k1, p0, p1, p2, hc4, h1, h2, a0, a1, a2, b0, e0, e1, e2, e3, e4, e5, hE, hsh, sI_sI, sI_na, nI_eq0] <;> rfl, fun j hj => ?_⟩
            rcases (show j = 0 ∨ j = 1 ∨ j = 2 ∨ j = 3 ∨ j = 4 ∨ j = 5 by omega) with e | e | e | e | e | e <;> subst e <;> simp (disch := omega) only [uI_eq, uI_ne, sp_let, ho, if_true, if_false, if_pos, if_neg]
        have fF : am_fr (kk_S p) I (am_sI K 31 0 F) := fr_f f1 (fun _ => Or.inl (Or.inl rfl))
        obtain ⟨K2, w1, w2⟩ := c_worthV (d := d + 1) hk2 hV fF (by rw [sI_eq]; exact hG c hc b0 F hF2) (.ref (am_mk 9 p)) (.int pw) (.int (if sp_opp P then nI 1 else nI 0)) (.int (nI c)) l5 l6
        rw [sI_eq, hVc F _ hF2] at w1
        have f4 := pl_fr (J := am_sI K 31 0 F) f3 (fr_f (S := fun a _ _ => a = 31) fr_rf (fun _ => rfl)) (fun a j h w => by omega)
        have f5 := pl_fr f4 w2 (fun a j h w => by unfold law_S at w; omega)
        have f6 : am_fr (kk_S p) I K2 := fr_tr fF (fr_mo w2 (fun a b j w => Or.inl (by unfold law_S at w; omega)))
        obtain ⟨c0, c1, c2, c3⟩ := f5.1 c (by omega)
        simp only [Nat.lt_irrefl, if_false, show ¬ (0 = 4) by decide, show ¬ (1 = 4) by decide, show ¬ (2 = 4) by decide, show ¬ (3 = 4) by decide] at c0 c1 c2 c3
        have fin : ∀ (ai : Nat) (x : Int32), (P 1 c ≤ 0 → ai = 2 ∧ x = P 2 c + sp_gain V B (I 15 u) n pw P c) → (¬ P 1 c ≤ 0 → ai = 1 ∧ x = sp_max (nI 0) (P 1 c - sp_gain V B (I 15 u) n pw P c / nI 2)) → ∀ a j, (if a = 4 then sp_up (fun a j => if a = 4 then P a j else if j < c then sp_warm V B (I 15 u) n pw P a j else P a j) ai c x a j else sp_up (fun a j => if a = 4 then P a j else if j < c then sp_warm V B (I 15 u) n pw P a j else P a j) ai c x a j) = if a = 4 then P a j else if j < c + 1 then sp_warm V B (I 15 u) n pw P a j else P a j := by
          intro ai x hx1 hx2 a j
          have hai : ¬ ai = 4 := by
            by_cases b1 : P 1 c ≤ 0
            · rw [(hx1 b1).1]; decide
            · rw [(hx2 b1).1]; decide
          by_cases e4 : a = 4
          · subst e4
            rw [if_pos rfl, up_na (fun w => hai w.symm), if_pos rfl, if_pos rfl]
          · rw [if_neg e4, if_neg e4]
            by_cases e1 : j = c
            · subst e1
              rw [if_pos (Nat.lt_succ_self _), sp_warm, if_neg e4, if_pos ⟨hc, b0⟩]
              by_cases e2 : a = ai
              · subst e2
                rw [up_eq]
                by_cases b1 : P 1 j ≤ 0
                · obtain ⟨q1, q2⟩ := hx1 b1
                  rw [if_pos b1, if_pos q1, q2]
                · obtain ⟨q1, q2⟩ := hx2 b1
                  rw [if_neg b1, if_pos q1, q2]
              · rw [up_na e2, if_neg e4, if_neg (Nat.lt_irrefl _)]
                by_cases b1 : P 1 j ≤ 0
                · obtain ⟨q1, q2⟩ := hx1 b1
                  rw [if_pos b1, if_neg (fun w => e2 (w.trans q1.symm))]
                · obtain ⟨q1, q2⟩ := hx2 b1
                  rw [if_neg b1, if_neg (fun w => e2 (w.trans q1.symm))]
            · rw [up_nc e1, if_neg e4]
              by_cases e2 : j < c
              · rw [if_pos e2, if_pos (show j < c + 1 by omega)]
              · rw [if_neg e2, if_neg (show ¬ j < c + 1 by omega)]
        by_cases b1 : P 1 c ≤ 0
        · refine ⟨(_, _, _), (hF1.trans w1).trans (by simp (disch := first | omega | assumption) only [s19_0, s19_1, s19_4, s19_7, s19_8, s19_11, s19_12, s19_13, s19_14, s19_17, s19_18, s19_21, s19_22, s19_23, s19_24, s19_28, s19_29, s19_32, s19_35, s19_37, s19_39, s19_42, s19_43, s19_46, s19_48, s19_49, s19_52, s19_53, s19_56, s19_57, s19_58, s19_59, s19_60, s19_63, s19_64, s19_65, s19_68, s19_69, s19_72, s19_73, s19_76, s19_77, s19_78, s19_80, s19_81, s19_84, s19_86, s19_89, s19_90, s19_91, s19_94, s19_95, s19_96, s19_99, s19_101, s19_102, s19_103, s19_104, s19_107, s19_108, s19_109, s19_112, s19_114, s19_115, s19_116, s19_117, s19_120, s19_121, s19_122, s19_125, s19_127, s19_128, s19_129, s19_130, s19_133, s19_134, s19_135, s19_136, s19_138, s19_141, s19_143, s19_146, s19_146n, s19_149, s19_150, s19_153, s19_156, s19_157, s19_160, s19_161, s19_164, s19_167, s19_169, s19_170, s19_172, s19_174, s19_177, s19_180, s19_182, s19_183, s19_186, s19_188, s19_189, s19_192, s19_193, s19_196, s19_198, s19_199, s19_200, s19_203, s19_205, s19_206, s19_208, s19_209, s19_210, s19_211, s19_214, s19_215, s19_218, s19_219, s19_222, s19_224, s19_225, s19_226, s19_228, s19_229, s19_230, s19_233, s19_236, nI_le2, nI_lt2, nI_eq2, nI_lt0, nI_0le, nI_0lt, nI_le0, nI_eq0, nI_clamp, nI_add, bu_nI, bb_0, bb_1, rf_s, rf_n, tl_s, tl_n, am_th_some, if_true, if_false, sI_eq, uI_eq, and_self, true_and, and_true, not_false_eq_true, not_true_eq_false, Nat.reduceEqDiff, Nat.reduceLeDiff, Nat.reduceLT, Nat.reduceAdd, Nat.reduceMul, Nat.reduceSub, Nat.zero_add, p1, p2, c1, c2, b1] <;> rfl), fr_f f6 (fun _ => Or.inr ⟨by omega, rfl⟩), pl_congr (pl_u2 f5 c _) fun a j hj => ?_⟩
          have := fin 2 _ (fun _ => ⟨rfl, rfl⟩) (fun w => absurd b1 w) a j
          rw [ite_self] at this
          exact this
        · refine ⟨(_, _, _), (hF1.trans w1).trans (by simp (disch := first | omega | assumption) only [s19_0, s19_1, s19_4, s19_7, s19_8, s19_11, s19_12, s19_13, s19_14, s19_17, s19_18, s19_21, s19_22, s19_23, s19_24, s19_28, s19_29, s19_32, s19_35, s19_37, s19_39, s19_42, s19_43, s19_46, s19_48, s19_49, s19_52, s19_53, s19_56, s19_57, s19_58, s19_59, s19_60, s19_63, s19_64, s19_65, s19_68, s19_69, s19_72, s19_73, s19_76, s19_77, s19_78, s19_80, s19_81, s19_84, s19_86, s19_89, s19_90, s19_91, s19_94, s19_95, s19_96, s19_99, s19_101, s19_102, s19_103, s19_104, s19_107, s19_108, s19_109, s19_112, s19_114, s19_115, s19_116, s19_117, s19_120, s19_121, s19_122, s19_125, s19_127, s19_128, s19_129, s19_130, s19_133, s19_134, s19_135, s19_136, s19_138, s19_141, s19_143, s19_146, s19_146n, s19_149, s19_150, s19_153, s19_156, s19_157, s19_160, s19_161, s19_164, s19_167, s19_169, s19_170, s19_172, s19_174, s19_177, s19_180, s19_182, s19_183, s19_186, s19_188, s19_189, s19_192, s19_193, s19_196, s19_198, s19_199, s19_200, s19_203, s19_205, s19_206, s19_208, s19_209, s19_210, s19_211, s19_214, s19_215, s19_218, s19_219, s19_222, s19_224, s19_225, s19_226, s19_228, s19_229, s19_230, s19_233, s19_236, nI_le2, nI_lt2, nI_eq2, nI_lt0, nI_0le, nI_0lt, nI_le0, nI_eq0, nI_clamp, nI_add, bu_nI, bb_0, bb_1, rf_s, rf_n, tl_s, tl_n, am_th_some, if_true, if_false, sI_eq, uI_eq, and_self, true_and, and_true, not_false_eq_true, not_true_eq_false, Nat.reduceEqDiff, Nat.reduceLeDiff, Nat.reduceLT, Nat.reduceAdd, Nat.reduceMul, Nat.reduceSub, Nat.zero_add, p1, p2, c1, c2, b1, z_2] <;> rfl), fr_f f6 (fun _ => Or.inr ⟨by omega, rfl⟩), pl_congr (pl_u1 f5 c _) fun a j hj => ?_⟩
          have := fin 1 _ (fun w => absurd w b1) (fun _ => ⟨rfl, rfl⟩) a j
          rw [ite_self] at this
          exact this
    · intro ⟨K, l5, l6⟩ ⟨f1, f3⟩
      have hc4 : K 9 p 4 = nI n := f3.2.1.trans ((if_pos rfl).trans hn)
      refine ⟨K, ?_, f1, pl_congr f3 fun a j hj => ?_⟩
      · rw [s19_26]
        simp (disch := first | omega | assumption) only [s19_0, s19_1, s19_4, s19_7, s19_8, s19_11, s19_12, s19_13, s19_14, s19_17, s19_18, s19_21, s19_22, s19_23, s19_24, s19_28, s19_29, s19_32, s19_35, s19_37, s19_39, s19_42, s19_43, s19_46, s19_48, s19_49, s19_52, s19_53, s19_56, s19_57, s19_58, s19_59, s19_60, s19_63, s19_64, s19_65, s19_68, s19_69, s19_72, s19_73, s19_76, s19_77, s19_78, s19_80, s19_81, s19_84, s19_86, s19_89, s19_90, s19_91, s19_94, s19_95, s19_96, s19_99, s19_101, s19_102, s19_103, s19_104, s19_107, s19_108, s19_109, s19_112, s19_114, s19_115, s19_116, s19_117, s19_120, s19_121, s19_122, s19_125, s19_127, s19_128, s19_129, s19_130, s19_133, s19_134, s19_135, s19_136, s19_138, s19_141, s19_143, s19_146, s19_146n, s19_149, s19_150, s19_153, s19_156, s19_157, s19_160, s19_161, s19_164, s19_167, s19_169, s19_170, s19_172, s19_174, s19_177, s19_180, s19_182, s19_183, s19_186, s19_188, s19_189, s19_192, s19_193, s19_196, s19_198, s19_199, s19_200, s19_203, s19_205, s19_206, s19_208, s19_209, s19_210, s19_211, s19_214, s19_215, s19_218, s19_219, s19_222, s19_224, s19_225, s19_226, s19_228, s19_229, s19_230, s19_233, s19_236, nI_le2, nI_lt2, nI_eq2, nI_lt0, nI_0le, nI_0lt, nI_le0, nI_eq0, nI_clamp, nI_add, bu_nI, bb_0, bb_1, rf_s, rf_n, tl_s, tl_n, am_th_some, if_true, if_false, sI_eq, uI_eq, and_self, true_and, and_true, not_false_eq_true, not_true_eq_false, Nat.reduceEqDiff, Nat.reduceLeDiff, Nat.reduceLT, Nat.reduceAdd, Nat.reduceMul, Nat.reduceSub, Nat.zero_add, hc4, Nat.le_refl]
      · by_cases e4 : a = 4
        · rw [if_pos e4, sp_warm, if_pos e4]
        · rw [if_neg e4]
          by_cases e2 : j < n
          · rw [if_pos e2]
          · rw [if_neg e2, sp_warm, if_neg e4, if_neg (fun w => e2 w.1)]
  have ht : I 9 p 6 = P 4 2 := hP.2.2.2
  have hten : I 9 p 5 = P 4 1 := hP.2.2.1
  by_cases ho : sp_opp P
  · obtain ⟨J, g⟩ := loop am_J am_J
    rw [if_pos ho] at g
    refine ⟨J, ?_, g.2⟩
    rw [s19]
    simp (disch := first | omega | assumption) only [s19_0, s19_1, s19_4, s19_7, s19_8, s19_11, s19_12, s19_13, s19_14, s19_17, s19_18, s19_21, s19_22, s19_23, s19_24, s19_28, s19_29, s19_32, s19_35, s19_37, s19_39, s19_42, s19_43, s19_46, s19_48, s19_49, s19_52, s19_53, s19_56, s19_57, s19_58, s19_59, s19_60, s19_63, s19_64, s19_65, s19_68, s19_69, s19_72, s19_73, s19_76, s19_77, s19_78, s19_80, s19_81, s19_84, s19_86, s19_89, s19_90, s19_91, s19_94, s19_95, s19_96, s19_99, s19_101, s19_102, s19_103, s19_104, s19_107, s19_108, s19_109, s19_112, s19_114, s19_115, s19_116, s19_117, s19_120, s19_121, s19_122, s19_125, s19_127, s19_128, s19_129, s19_130, s19_133, s19_134, s19_135, s19_136, s19_138, s19_141, s19_143, s19_146, s19_146n, s19_149, s19_150, s19_153, s19_156, s19_157, s19_160, s19_161, s19_164, s19_167, s19_169, s19_170, s19_172, s19_174, s19_177, s19_180, s19_182, s19_183, s19_186, s19_188, s19_189, s19_192, s19_193, s19_196, s19_198, s19_199, s19_200, s19_203, s19_205, s19_206, s19_208, s19_209, s19_210, s19_211, s19_214, s19_215, s19_218, s19_219, s19_222, s19_224, s19_225, s19_226, s19_228, s19_229, s19_230, s19_233, s19_236, nI_le2, nI_lt2, nI_eq2, nI_lt0, nI_0le, nI_0lt, nI_le0, nI_eq0, nI_clamp, nI_add, bu_nI, bb_0, bb_1, rf_s, rf_n, tl_s, tl_n, am_th_some, if_true, if_false, sI_eq, uI_eq, and_self, true_and, and_true, not_false_eq_true, not_true_eq_false, Nat.reduceEqDiff, Nat.reduceLeDiff, Nat.reduceLT, Nat.reduceAdd, Nat.reduceMul, Nat.reduceSub, Nat.zero_add, ht, hten, ho.1, ho.2]
    exact g.1
  · obtain ⟨J, g⟩ := loop am_J am_J
    rw [if_neg ho] at g
    refine ⟨J, ?_, g.2⟩
    rw [s19]
    by_cases o1 : P 4 2 = 0
    · simp (disch := first | omega | assumption) only [s19_0, s19_1, s19_4, s19_7, s19_8, s19_11, s19_12, s19_13, s19_14, s19_17, s19_18, s19_21, s19_22, s19_23, s19_24, s19_28, s19_29, s19_32, s19_35, s19_37, s19_39, s19_42, s19_43, s19_46, s19_48, s19_49, s19_52, s19_53, s19_56, s19_57, s19_58, s19_59, s19_60, s19_63, s19_64, s19_65, s19_68, s19_69, s19_72, s19_73, s19_76, s19_77, s19_78, s19_80, s19_81, s19_84, s19_86, s19_89, s19_90, s19_91, s19_94, s19_95, s19_96, s19_99, s19_101, s19_102, s19_103, s19_104, s19_107, s19_108, s19_109, s19_112, s19_114, s19_115, s19_116, s19_117, s19_120, s19_121, s19_122, s19_125, s19_127, s19_128, s19_129, s19_130, s19_133, s19_134, s19_135, s19_136, s19_138, s19_141, s19_143, s19_146, s19_146n, s19_149, s19_150, s19_153, s19_156, s19_157, s19_160, s19_161, s19_164, s19_167, s19_169, s19_170, s19_172, s19_174, s19_177, s19_180, s19_182, s19_183, s19_186, s19_188, s19_189, s19_192, s19_193, s19_196, s19_198, s19_199, s19_200, s19_203, s19_205, s19_206, s19_208, s19_209, s19_210, s19_211, s19_214, s19_215, s19_218, s19_219, s19_222, s19_224, s19_225, s19_226, s19_228, s19_229, s19_230, s19_233, s19_236, nI_le2, nI_lt2, nI_eq2, nI_lt0, nI_0le, nI_0lt, nI_le0, nI_eq0, nI_clamp, nI_add, bu_nI, bb_0, bb_1, rf_s, rf_n, tl_s, tl_n, am_th_some, if_true, if_false, sI_eq, uI_eq, and_self, true_and, and_true, not_false_eq_true, not_true_eq_false, Nat.reduceEqDiff, Nat.reduceLeDiff, Nat.reduceLT, Nat.reduceAdd, Nat.reduceMul, Nat.reduceSub, Nat.zero_add, ht, hten, o1]
      exact g.1
    · have o2 : ¬ P 4 1 &&& nI 1 = nI 1 := fun w => ho ⟨o1, w⟩
      simp (disch := first | omega | assumption) only [s19_0, s19_1, s19_4, s19_7, s19_8, s19_11, s19_12, s19_13, s19_14, s19_17, s19_18, s19_21, s19_22, s19_23, s19_24, s19_28, s19_29, s19_32, s19_35, s19_37, s19_39, s19_42, s19_43, s19_46, s19_48, s19_49, s19_52, s19_53, s19_56, s19_57, s19_58, s19_59, s19_60, s19_63, s19_64, s19_65, s19_68, s19_69, s19_72, s19_73, s19_76, s19_77, s19_78, s19_80, s19_81, s19_84, s19_86, s19_89, s19_90, s19_91, s19_94, s19_95, s19_96, s19_99, s19_101, s19_102, s19_103, s19_104, s19_107, s19_108, s19_109, s19_112, s19_114, s19_115, s19_116, s19_117, s19_120, s19_121, s19_122, s19_125, s19_127, s19_128, s19_129, s19_130, s19_133, s19_134, s19_135, s19_136, s19_138, s19_141, s19_143, s19_146, s19_146n, s19_149, s19_150, s19_153, s19_156, s19_157, s19_160, s19_161, s19_164, s19_167, s19_169, s19_170, s19_172, s19_174, s19_177, s19_180, s19_182, s19_183, s19_186, s19_188, s19_189, s19_192, s19_193, s19_196, s19_198, s19_199, s19_200, s19_203, s19_205, s19_206, s19_208, s19_209, s19_210, s19_211, s19_214, s19_215, s19_218, s19_219, s19_222, s19_224, s19_225, s19_226, s19_228, s19_229, s19_230, s19_233, s19_236, nI_le2, nI_lt2, nI_eq2, nI_lt0, nI_0le, nI_0lt, nI_le0, nI_eq0, nI_clamp, nI_add, bu_nI, bb_0, bb_1, rf_s, rf_n, tl_s, tl_n, am_th_some, if_true, if_false, sI_eq, uI_eq, and_self, true_and, and_true, not_false_eq_true, not_true_eq_false, Nat.reduceEqDiff, Nat.reduceLeDiff, Nat.reduceLT, Nat.reduceAdd, Nat.reduceMul, Nat.reduceSub, Nat.zero_add, ht, hten, o1, o2]
      exact g.1
/-- a whole TEN -/
def sp_ten (V : (Nat → Int32) → Int32) (B : Nat → Nat → Int32) (sh : Nat → Int32) (sp bs : Int32) (n : Nat) (pw : Int32) (P : Nat → Nat → Int32) : (Nat → Nat → Int32) × Int32 :=
  let P1 := if pw ≤ 0 then P else sp_warm V B sh n pw P
  let P2 := fun a j => if a = 4 then P1 a j else sp_spread B sp n P1 a j
  (sp_up (sp_burst bs n P2) 4 1 (P 4 1 + nI 1), sp_bursts bs n P2)
theorem c_passTen (hk : kk_R R u) (hp : pp_R R p) (hP : pp_at I p P) (hn : P 4 0 = nI n) (hn2 : n ≤ 25) (hB : bs_at I u n B) (hV : kk_V G R Q p (d + 1) I V) (hVc : ∀ f g : Nat → Int32, (∀ j, j < 6 → f j = g j) → V f = V g) (hG : ∀ k, k < n → ¬ P 0 k ≤ 0 → ∀ f : Nat → Int32, (∀ j, j < 6 → f j = sp_let B (I 15 u) n pw P k j) → G f) : ∃ J, am_cal (d + 3) 18 [.ref (am_mk 2 0), .ref (am_mk 9 p), .int pw] I R Q = some (some (.int (sp_ten V B (I 15 u) (I 14 u 3) (I 14 u 4) n pw P).2), J, R, Q) ∧ am_fr (kk_S p) I J ∧ pp_at J p (sp_ten V B (I 15 u) (I 14 u 3) (I 14 u 4) n pw P).1 := by
  have hS : ∀ j, ¬ kk_S p 16 u j := fun j w => by rcases w with w | w <;> omega
  have h14 : ∀ {J : am_I} j, am_fr (kk_S p) I J → J 14 u j = I 14 u j := fun j h => h _ _ _ (fun w => by rcases w with w | w <;> omega)
  have rest : ∀ (J : am_I) (P1 : Nat → Nat → Int32), am_fr (kk_S p) I J → pp_at J p P1 → P1 4 0 = nI n → P1 4 1 = P 4 1 → ∃ K, am_ev (d + 3) 18 10 [.ref (am_mk 2 0), .ref (am_mk 9 p), .int pw, am_J] [] J R Q = some (some (.int (sp_bursts (I 14 u 4) n (fun a j => if a = 4 then P1 a j else sp_spread B (I 14 u 3) n P1 a j))), K, R, Q) ∧ am_fr (kk_S p) I K ∧ pp_at K p (sp_up (sp_burst (I 14 u 4) n (fun a j => if a = 4 then P1 a j else sp_spread B (I 14 u 3) n P1 a j)) 4 1 (P 4 1 + nI 1)) := by
    intro J P1 hJ hP1 hn1 ht
    obtain ⟨K, a1, a2, a3⟩ := c_spreadOut (d := d) (Q := Q) hk hp hP1 hn1 hn2 (bs_fr hB hJ hS)
    rw [h14 3 hJ] at a3
    have f2 := fr_tr hJ a2
    obtain ⟨M, b1, b2, b3⟩ := c_burst (d := d + 2) (Q := Q) hk hp a3 ((if_pos rfl).trans hn1) hn2
    rw [h14 4 f2] at b1 b3
    have f3 := fr_tr f2 b2
    have hten : M 9 p 5 = P 4 1 := b3.2.2.1.trans ((if_pos rfl).trans ((if_pos rfl).trans ht))
    refine ⟨_, by simp (disch := first | omega | assumption) only [s18_0, s18_1, s18_4, s18_5, s18_6, s18_7, s18_10, s18_11, s18_12, s18_15, s18_16, s18_17, s18_20, s18_21, s18_22, s18_23, s18_26, s18_27, s18_28, s18_31, s18_32, nI_le2, nI_lt2, nI_eq2, nI_lt0, nI_0le, nI_0lt, nI_le0, nI_eq0, nI_clamp, nI_add, bu_nI, bb_0, bb_1, rf_s, rf_n, tl_s, tl_n, am_th_some, if_true, if_false, sI_eq, uI_eq, and_self, true_and, and_true, not_false_eq_true, not_true_eq_false, Nat.reduceEqDiff, Nat.reduceLeDiff, Nat.reduceLT, Nat.reduceAdd, Nat.reduceMul, Nat.reduceSub, Nat.zero_add, a1, b1, hten] <;> rfl, fr_f f3 (fun _ => Or.inr ⟨by omega, rfl⟩), pl_u4 b3 1 _ (by decide)⟩
  by_cases hw : pw ≤ 0
  · obtain ⟨K, g1, g2, g3⟩ := rest I P fr_rf hP hn rfl
    refine ⟨K, ?_, g2, ?_⟩
    · rw [s18]
      simp (disch := first | omega | assumption) only [s18_0, s18_1, s18_4, s18_5, s18_6, s18_7, s18_11, s18_12, s18_15, s18_16, s18_17, s18_20, s18_21, s18_22, s18_23, s18_26, s18_27, s18_28, s18_31, s18_32, nI_le2, nI_lt2, nI_eq2, nI_lt0, nI_0le, nI_0lt, nI_le0, nI_eq0, nI_clamp, nI_add, bu_nI, bb_0, bb_1, rf_s, rf_n, tl_s, tl_n, am_th_some, if_true, if_false, sI_eq, uI_eq, and_self, true_and, and_true, not_false_eq_true, not_true_eq_false, Nat.reduceEqDiff, Nat.reduceLeDiff, Nat.reduceLT, Nat.reduceAdd, Nat.reduceMul, Nat.reduceSub, Nat.zero_add, hw]
      rw [g1]
      simp only [sp_ten, if_pos hw]
    · simp only [sp_ten, if_pos hw]
      exact g3
  · obtain ⟨J, a1, a2, a3⟩ := c_warm (d := d) hk hp hP hn hn2 hB hV hVc (pw := pw) hG
    have e1 : sp_warm V B (I 15 u) n pw P 4 0 = nI n := (if_pos rfl).trans hn
    have e2 : sp_warm V B (I 15 u) n pw P 4 1 = P 4 1 := if_pos rfl
    obtain ⟨K, g1, g2, g3⟩ := rest J _ a2 a3 e1 e2
    refine ⟨K, ?_, g2, ?_⟩
    · rw [s18]
      simp (disch := first | omega | assumption) only [s18_0, s18_1, s18_4, s18_5, s18_6, s18_7, s18_11, s18_12, s18_15, s18_16, s18_17, s18_20, s18_21, s18_22, s18_23, s18_26, s18_27, s18_28, s18_31, s18_32, nI_le2, nI_lt2, nI_eq2, nI_lt0, nI_0le, nI_0lt, nI_le0, nI_eq0, nI_clamp, nI_add, bu_nI, bb_0, bb_1, rf_s, rf_n, tl_s, tl_n, am_th_some, if_true, if_false, sI_eq, uI_eq, and_self, true_and, and_true, not_false_eq_true, not_true_eq_false, Nat.reduceEqDiff, Nat.reduceLeDiff, Nat.reduceLT, Nat.reduceAdd, Nat.reduceMul, Nat.reduceSub, Nat.zero_add, hw, a1]
      rw [g1]
      simp only [sp_ten, if_neg hw]
    · simp only [sp_ten, if_neg hw]
      exact g3
end
