/-! The model: a whole TEN. -/
theorem max_0 {x : Int32} (h : ¬ x ≤ 0) : sp_max (nI 0) (x - nI 0 / nI 2) = x := by
  rw [show nI 0 / nI 2 = 0 by decide, Int32.sub_zero, sp_max, if_pos (by rw [nI_0]; exact Int32.not_le.mp h)]
theorem fr_x {S : Nat → Nat → Nat → Prop} {I J K : am_I} {T : Nat → Nat → Nat → Prop} (h : am_fr S I J) (g : am_fr T J K) (e : ∀ a b j, T a b j → S a b j) : am_fr S I K := fr_tr h (fr_mo g e)
/-- FOOD alone has ICE -/
def pt_z (n : Nat) (P : Nat → Nat → Int32) : Prop := ∀ c, c < n → P 0 c ≤ 0 → P 1 c ≤ 0
section
variable {d n w h : Nat} {I : am_I} {R : am_R} {Q : am_Q} {P : Nat → Nat → Int32} {V : (Nat → Int32) → Int32} {pw : Int32} {G : (Nat → Int32) → Prop}
theorem m_warm (hr : mm_R R) (ho : mo_at I w h n) (hP : mm_at I P) (hn : P 4 0 = nI n) (hn2 : n ≤ 25) (hok : pt_ok P) (hz : pt_z n P) (hV : mk_V G R Q (d + 3) I V) (hVc : ∀ f g : Nat → Int32, (∀ j, j < 6 → f j = g j) → V f = V g) (hG : ∀ k, k < n → ¬ P 0 k ≤ 0 → ∀ f : Nat → Int32, (∀ j, j < 6 → f j = sp_let (sp_B w h) (I 58 0) n pw P k j) → G f) : ∃ J, am_cal (d + 5) 215 [.ref (am_mk 12 0), .int pw] I R Q = some (none, J, R, Q) ∧ am_fr mk_S I J ∧ mm_at J (if pw ≤ 0 then P else sp_warm V (sp_B w h) (I 58 0) n pw P) := by
  have sc : ∀ {J}, am_fr (fun a _ _ => a = 62 ∨ a = 50 ∨ a = 51) I J → mm_at J P ∧ am_fr mk_S I J ∧ J 12 0 30 = nI n ∧ ∀ j, J 58 0 j = I 58 0 j := fun {J} hf => ⟨mm_fr hP hf (fun j _ q => by omega) (fun q => by omega), fr_mo hf (fun a b j q => by unfold mk_S; omega), (hf _ _ _ (fun q => by omega)).trans (hP.2.1.trans hn), fun j => hf _ _ _ (fun q => by omega)⟩
  let g : Nat → Int32 := fun j => if P 0 j ≤ 0 ∨ pw ≤ 0 then nI 0 else sp_gain V (sp_B w h) (I 58 0) n pw P j
  let W : Nat → Nat → Int32 := if pw ≤ 0 then P else sp_warm V (sp_B w h) (I 58 0) n pw P
  have W4 : ∀ j, W 4 j = P 4 j := fun j => by
    show (if pw ≤ 0 then P else sp_warm V (sp_B w h) (I 58 0) n pw P) 4 j = P 4 j
    by_cases e : pw ≤ 0
    · rw [if_pos e]
    · rw [if_neg e, sp_warm, if_pos rfl]
  have Wn : ∀ a j, ¬ j < n → W a j = P a j := fun a j hj => by
    show (if pw ≤ 0 then P else sp_warm V (sp_B w h) (I 58 0) n pw P) a j = P a j
    by_cases e : pw ≤ 0
    · rw [if_pos e]
    · rw [if_neg e, sp_warm]
      by_cases e4 : a = 4
      · rw [if_pos e4]
      · rw [if_neg e4, if_neg (fun q => hj q.1)]
  have Wp : ∀ a j, j < n → ¬ P 1 j ≤ 0 → a < 4 → W a j = if a = 1 then sp_max (nI 0) (P 1 j - g j / nI 2) else P a j := fun a j hj h1 ha => by
    show (if pw ≤ 0 then P else sp_warm V (sp_B w h) (I 58 0) n pw P) a j = if a = 1 then sp_max (nI 0) (P 1 j - (if P 0 j ≤ 0 ∨ pw ≤ 0 then nI 0 else sp_gain V (sp_B w h) (I 58 0) n pw P j) / nI 2) else P a j
    have h0 : ¬ P 0 j ≤ 0 := fun q => h1 (hz j hj q)
    by_cases e : pw ≤ 0
    · rw [if_pos e, if_pos (Or.inr e), max_0 h1]
      by_cases e1 : a = 1
      · subst e1; rw [if_pos rfl]
      · rw [if_neg e1]
    · rw [if_neg e, if_neg (show ¬ (P 0 j ≤ 0 ∨ pw ≤ 0) from fun q => q.elim h0 e), sp_warm, if_neg (show ¬ a = 4 by omega), if_pos ⟨hj, h0⟩, if_neg h1]
  have Wd : ∀ a j, j < n → P 1 j ≤ 0 → a < 4 → W a j = if a = 2 then P 2 j + g j else P a j := fun a j hj h1 ha => by
    show (if pw ≤ 0 then P else sp_warm V (sp_B w h) (I 58 0) n pw P) a j = if a = 2 then P 2 j + (if P 0 j ≤ 0 ∨ pw ≤ 0 then nI 0 else sp_gain V (sp_B w h) (I 58 0) n pw P j) else P a j
    by_cases e : P 0 j ≤ 0 ∨ pw ≤ 0
    · rw [if_pos e, nI_0, Int32.add_zero]
      have : (if a = 2 then P 2 j else P a j) = P a j := by
        by_cases e2 : a = 2
        · subst e2; rw [if_pos rfl]
        · rw [if_neg e2]
      rw [this]
      by_cases e2 : pw ≤ 0
      · rw [if_pos e2]
      · rw [if_neg e2, sp_warm, if_neg (by omega), if_neg (fun q => q.2 (e.resolve_right e2))]
    · rw [if_neg e, if_neg (fun q => e (Or.inr q)), sp_warm, if_neg (by omega), if_pos ⟨hj, fun q => e (Or.inl q)⟩, if_pos h1]
  have loop2 : ∀ J, am_fr (fun a _ _ => a = 62 ∨ a = 50 ∨ a = 51) I J → (∀ j, j < n → J 62 0 j = g j) → ∃ K, am_ev (d + 5) 215 46 [.ref (am_mk 12 0), .int pw, .int (nI 0)] [] J R Q = some (none, K, R, Q) ∧ am_fr mk_S I K ∧ mm_at K W := by
    intro J hJ hg
    refine loop_inv (f := fun K c => am_ev (d + 5) 215 46 [.ref (am_mk 12 0), .int pw, .int (nI c)] [] K R Q) (Inv := fun c K => am_fr mk_S I K ∧ (∀ j, j < n → K 62 0 j = g j) ∧ mm_at K (fun a j => if j < c ∧ a < 4 then W a j else P a j)) (Post := fun y => ∃ K, y = some (none, K, R, Q) ∧ am_fr mk_S I K ∧ mm_at K W) (n := n) ?_ ?_ (Nat.zero_le _) ⟨(sc hJ).2.1, hg, mm_congr (sc hJ).1 (fun a j _ => by rw [if_neg (fun q => absurd q.1 (Nat.not_lt_zero _))])⟩
    · intro c K hc ⟨f1, f2, f3⟩
      left
      have h1 : ¬ n ≤ c := by omega
      have hc4 : K 12 0 30 = nI n := f3.2.1.trans ((if_neg (fun q => absurd q.2 (by decide))).trans hn)
      obtain ⟨a0, a1, a2, a3⟩ := f3.1 c (by omega)
      simp only [Nat.lt_irrefl, false_and, if_false] at a0 a1 a2 a3
      have e62 := f2 c hc
      have fin : ∀ (ai : Nat) (x : Int32), ai < 4 → (∀ a, a < 4 → W a c = if a = ai then x else P a c) → ∀ a j, sp_up (fun a j => if j < c ∧ a < 4 then W a j else P a j) ai c x a j = if j < c + 1 ∧ a < 4 then W a j else P a j := by
        intro ai x hai hW a j
        by_cases e4 : a < 4
        · by_cases e1 : j = c
          · subst e1
            rw [if_pos ⟨Nat.lt_succ_self _, e4⟩, hW a e4]
            by_cases e2 : a = ai
            · subst e2; rw [up_eq, if_pos rfl]
            · rw [up_na e2, if_neg e2, if_neg (fun q => absurd q.1 (Nat.lt_irrefl _))]
          · rw [up_nc e1]
            by_cases e2 : j < c
            · rw [if_pos ⟨e2, e4⟩, if_pos ⟨by omega, e4⟩]
            · rw [if_neg (fun q => e2 q.1), if_neg (fun q => absurd q.1 (by omega))]
        · rw [up_na (by omega), if_neg (fun q => e4 q.2), if_neg (fun q => e4 q.2)]
      rw [s215_46]
      by_cases b1 : P 1 c ≤ 0
      · exact ⟨_, by simp (disch := first | omega | assumption) only [s215_0, s215_1, s215_3, s215_4, s215_7, s215_10, s215_11, s215_14, s215_15, s215_16, s215_17, s215_20, s215_23, s215_24, s215_27, s215_28, s215_29, s215_30, s215_33, s215_36, s215_37, s215_38, s215_41, s215_44, s215_45, s215_47, s215_48, s215_51, s215_54, s215_55, s215_58, s215_60, s215_61, s215_62, s215_63, s215_66, s215_67, s215_70, s215_72, s215_73, s215_74, s215_75, s215_76, s215_79, s215_81, s215_82, s215_83, s215_84, s215_85, s215_88, s215_89, s215_90, s215_91, s215_92, s215_93, s215_96, s215_97, s215_100, s215_101, s215_104, s215_106, s215_107, s215_108, s215_109, s215_110, s215_111, s215_114, s215_115, s215_116, s215_117, s215_118, s215_121, s215_124, nI_le2, nI_lt2, nI_eq2, nI_lt0, nI_0le, nI_0lt, nI_le0, nI_eq0, nI_clamp, nI_add, bu_nI, bb_0, bb_1, rf_s, rf_n, tl_s, tl_n, am_th_some, if_true, if_false, sI_eq, uI_eq, and_self, true_and, and_true, not_false_eq_true, not_true_eq_false, Nat.reduceEqDiff, Nat.reduceLeDiff, Nat.reduceLT, Nat.reduceAdd, Nat.reduceMul, Nat.reduceSub, Nat.zero_add, mr31 hr, mr35 hr, hc4, h1, a1, a2, b1, e62] <;> rfl, fr_s f1 (Or.inl ⟨rfl, by omega⟩), fun j hj => (congrFun (sI_na (by decide)) j).trans (f2 j hj), mm_congr (mm_u2 f3 _ (by omega)) (fun a j _ => fin 2 _ (by decide) (fun a ha => Wd a c hc b1 ha) a j)⟩
      · exact ⟨_, by simp (disch := first | omega | assumption) only [s215_0, s215_1, s215_3, s215_4, s215_7, s215_10, s215_11, s215_14, s215_15, s215_16, s215_17, s215_20, s215_23, s215_24, s215_27, s215_28, s215_29, s215_30, s215_33, s215_36, s215_37, s215_38, s215_41, s215_44, s215_45, s215_47, s215_48, s215_51, s215_54, s215_55, s215_58, s215_60, s215_61, s215_62, s215_63, s215_66, s215_67, s215_70, s215_72, s215_73, s215_74, s215_75, s215_76, s215_79, s215_81, s215_82, s215_83, s215_84, s215_85, s215_88, s215_89, s215_90, s215_91, s215_92, s215_93, s215_96, s215_97, s215_100, s215_101, s215_104, s215_106, s215_107, s215_108, s215_109, s215_110, s215_111, s215_114, s215_115, s215_116, s215_117, s215_118, s215_121, s215_124, nI_le2, nI_lt2, nI_eq2, nI_lt0, nI_0le, nI_0lt, nI_le0, nI_eq0, nI_clamp, nI_add, bu_nI, bb_0, bb_1, rf_s, rf_n, tl_s, tl_n, am_th_some, if_true, if_false, sI_eq, uI_eq, and_self, true_and, and_true, not_false_eq_true, not_true_eq_false, Nat.reduceEqDiff, Nat.reduceLeDiff, Nat.reduceLT, Nat.reduceAdd, Nat.reduceMul, Nat.reduceSub, Nat.zero_add, mr31 hr, mr35 hr, hc4, h1, a1, a2, b1, e62] <;> rfl, fr_s f1 (Or.inl ⟨rfl, by omega⟩), fun j hj => (congrFun (sI_na (by decide)) j).trans (f2 j hj), mm_congr (mm_u1 f3 _ (by omega)) (fun a j _ => fin 1 _ (by decide) (fun a ha => Wp a c hc b1 ha) a j)⟩
    · intro K ⟨f1, f2, f3⟩
      have hc4 : K 12 0 30 = nI n := f3.2.1.trans ((if_neg (fun q => absurd q.2 (by decide))).trans hn)
      refine ⟨K, ?_, f1, mm_congr f3 fun a j hj => ?_⟩
      · rw [s215_46]
        simp (disch := first | omega | assumption) only [s215_0, s215_1, s215_3, s215_4, s215_7, s215_10, s215_11, s215_14, s215_15, s215_16, s215_17, s215_20, s215_23, s215_24, s215_27, s215_28, s215_29, s215_30, s215_33, s215_36, s215_37, s215_38, s215_41, s215_44, s215_45, s215_47, s215_48, s215_51, s215_54, s215_55, s215_58, s215_60, s215_61, s215_62, s215_63, s215_66, s215_67, s215_70, s215_72, s215_73, s215_74, s215_75, s215_76, s215_79, s215_81, s215_82, s215_83, s215_84, s215_85, s215_88, s215_89, s215_90, s215_91, s215_92, s215_93, s215_96, s215_97, s215_100, s215_101, s215_104, s215_106, s215_107, s215_108, s215_109, s215_110, s215_111, s215_114, s215_115, s215_116, s215_117, s215_118, s215_121, s215_124, nI_le2, nI_lt2, nI_eq2, nI_lt0, nI_0le, nI_0lt, nI_le0, nI_eq0, nI_clamp, nI_add, bu_nI, bb_0, bb_1, rf_s, rf_n, tl_s, tl_n, am_th_some, if_true, if_false, sI_eq, uI_eq, and_self, true_and, and_true, not_false_eq_true, not_true_eq_false, Nat.reduceEqDiff, Nat.reduceLeDiff, Nat.reduceLT, Nat.reduceAdd, Nat.reduceMul, Nat.reduceSub, Nat.zero_add, hc4, Nat.le_refl]
      · by_cases e : j < n ∧ a < 4
        · rw [if_pos e]
        · rw [if_neg e]
          by_cases e4 : a = 4
          · subst e4; rw [W4]
          · rw [Wn a j (fun q => e ⟨q, by omega⟩)]
  have loop1 : ∃ K, am_ev (d + 5) 215 2 [.ref (am_mk 12 0), .int pw, .int (nI 0)] [] I R Q = some (none, K, R, Q) ∧ am_fr mk_S I K ∧ mm_at K W := by
    refine loop_inv (f := fun K c => am_ev (d + 5) 215 2 [.ref (am_mk 12 0), .int pw, .int (nI c)] [] K R Q) (Inv := fun c K => am_fr (fun a _ _ => a = 62 ∨ a = 50 ∨ a = 51) I K ∧ ∀ j, j < c → K 62 0 j = g j) (Post := fun y => ∃ K, y = some (none, K, R, Q) ∧ am_fr mk_S I K ∧ mm_at K W) (n := n) ?_ ?_ (Nat.zero_le _) ⟨fr_rf, fun j hj => absurd hj (Nat.not_lt_zero _)⟩
    · intro c K hc ⟨f1, f2⟩
      left
      obtain ⟨s1, s2, s3, s4⟩ := sc f1
      have h1 : ¬ n ≤ c := by omega
      have hf := m_isFood (d := d + 2) (Q := Q) (x := nI c) hr s1 hn hn2
      have fin : ∀ (M : am_I) x, am_fr (fun a _ _ => a = 50 ∨ a = 51) K M → x = g c → am_fr (fun a _ _ => a = 62 ∨ a = 50 ∨ a = 51) I (am_sI M 62 0 (am_uI (M 62 0) c x)) ∧ ∀ j, j < c + 1 → am_sI M 62 0 (am_uI (M 62 0) c x) 62 0 j = g j := by
        intro M x hM hx
        refine ⟨fr_f (fr_x f1 hM (fun a b j q => Or.inr q)) (fun _ => Or.inl rfl), fun j hj => ?_⟩
        rw [sI_eq]
        by_cases e : j = c
        · subst e; rw [uI_eq, hx]
        · rw [uI_ne e, hM _ _ _ (fun q => by omega), f2 j (by omega)]
      rw [s215_2]
      by_cases b0 : P 0 c ≤ 0
      · rw [if_neg (fun q => ((pp_f_k hn hn2 (by omega)).mp q).2 b0)] at hf
        exact ⟨_, by simp (disch := first | omega | assumption) only [s215_0, s215_1, s215_3, s215_4, s215_7, s215_10, s215_11, s215_14, s215_15, s215_16, s215_17, s215_20, s215_23, s215_24, s215_27, s215_28, s215_29, s215_30, s215_33, s215_36, s215_37, s215_38, s215_41, s215_44, s215_45, s215_47, s215_48, s215_51, s215_54, s215_55, s215_58, s215_60, s215_61, s215_62, s215_63, s215_66, s215_67, s215_70, s215_72, s215_73, s215_74, s215_75, s215_76, s215_79, s215_81, s215_82, s215_83, s215_84, s215_85, s215_88, s215_89, s215_90, s215_91, s215_92, s215_93, s215_96, s215_97, s215_100, s215_101, s215_104, s215_106, s215_107, s215_108, s215_109, s215_110, s215_111, s215_114, s215_115, s215_116, s215_117, s215_118, s215_121, s215_124, nI_le2, nI_lt2, nI_eq2, nI_lt0, nI_0le, nI_0lt, nI_le0, nI_eq0, nI_clamp, nI_add, bu_nI, bb_0, bb_1, rf_s, rf_n, tl_s, tl_n, am_th_some, if_true, if_false, sI_eq, uI_eq, and_self, true_and, and_true, not_false_eq_true, not_true_eq_false, Nat.reduceEqDiff, Nat.reduceLeDiff, Nat.reduceLT, Nat.reduceAdd, Nat.reduceMul, Nat.reduceSub, Nat.zero_add, mr35 hr, s3, h1, hf] <;> rfl, fin K _ fr_rf (if_pos (Or.inl b0)).symm⟩
      · rw [if_pos ((pp_f_k hn hn2 (by omega)).mpr ⟨hc, b0⟩)] at hf
        by_cases bp : pw ≤ 0
        · exact ⟨_, by simp (disch := first | omega | assumption) only [s215_0, s215_1, s215_3, s215_4, s215_7, s215_10, s215_11, s215_14, s215_15, s215_16, s215_17, s215_20, s215_23, s215_24, s215_27, s215_28, s215_29, s215_30, s215_33, s215_36, s215_37, s215_38, s215_41, s215_44, s215_45, s215_47, s215_48, s215_51, s215_54, s215_55, s215_58, s215_60, s215_61, s215_62, s215_63, s215_66, s215_67, s215_70, s215_72, s215_73, s215_74, s215_75, s215_76, s215_79, s215_81, s215_82, s215_83, s215_84, s215_85, s215_88, s215_89, s215_90, s215_91, s215_92, s215_93, s215_96, s215_97, s215_100, s215_101, s215_104, s215_106, s215_107, s215_108, s215_109, s215_110, s215_111, s215_114, s215_115, s215_116, s215_117, s215_118, s215_121, s215_124, nI_le2, nI_lt2, nI_eq2, nI_lt0, nI_0le, nI_0lt, nI_le0, nI_eq0, nI_clamp, nI_add, bu_nI, bb_0, bb_1, rf_s, rf_n, tl_s, tl_n, am_th_some, if_true, if_false, sI_eq, uI_eq, and_self, true_and, and_true, not_false_eq_true, not_true_eq_false, Nat.reduceEqDiff, Nat.reduceLeDiff, Nat.reduceLT, Nat.reduceAdd, Nat.reduceMul, Nat.reduceSub, Nat.zero_add, mr35 hr, s3, h1, hf, bp] <;> rfl, fin K _ fr_rf (if_pos (Or.inr bp)).symm⟩
        · have hsh : (K 58 0) = I 58 0 := funext s4
          obtain ⟨M, g1, g2⟩ := m_gain (d := d) (pw := pw) hr (mo_fr ho f1 (fun j q => by omega)) s1 hn hn2 hok (mk_V_fr hV s2) hVc hc (by rw [hsh]; exact hG c hc b0)
          rw [hsh] at g1
          exact ⟨_, by simp (disch := first | omega | assumption) only [s215_0, s215_1, s215_3, s215_4, s215_7, s215_10, s215_11, s215_14, s215_15, s215_16, s215_17, s215_20, s215_23, s215_24, s215_27, s215_28, s215_29, s215_30, s215_33, s215_36, s215_37, s215_38, s215_41, s215_44, s215_45, s215_47, s215_48, s215_51, s215_54, s215_55, s215_58, s215_60, s215_61, s215_62, s215_63, s215_66, s215_67, s215_70, s215_72, s215_73, s215_74, s215_75, s215_76, s215_79, s215_81, s215_82, s215_83, s215_84, s215_85, s215_88, s215_89, s215_90, s215_91, s215_92, s215_93, s215_96, s215_97, s215_100, s215_101, s215_104, s215_106, s215_107, s215_108, s215_109, s215_110, s215_111, s215_114, s215_115, s215_116, s215_117, s215_118, s215_121, s215_124, nI_le2, nI_lt2, nI_eq2, nI_lt0, nI_0le, nI_0lt, nI_le0, nI_eq0, nI_clamp, nI_add, bu_nI, bb_0, bb_1, rf_s, rf_n, tl_s, tl_n, am_th_some, if_true, if_false, sI_eq, uI_eq, and_self, true_and, and_true, not_false_eq_true, not_true_eq_false, Nat.reduceEqDiff, Nat.reduceLeDiff, Nat.reduceLT, Nat.reduceAdd, Nat.reduceMul, Nat.reduceSub, Nat.zero_add, mr35 hr, s3, h1, hf, bp, g1] <;> rfl, fin M _ g2 (if_neg (fun q => q.elim b0 bp)).symm⟩
    · intro K ⟨f1, f2⟩
      obtain ⟨s1, s2, s3, s4⟩ := sc f1
      rw [s215_2]
      simp (disch := first | omega | assumption) only [s215_0, s215_1, s215_3, s215_4, s215_7, s215_10, s215_11, s215_14, s215_15, s215_16, s215_17, s215_20, s215_23, s215_24, s215_27, s215_28, s215_29, s215_30, s215_33, s215_36, s215_37, s215_38, s215_41, s215_44, s215_45, s215_47, s215_48, s215_51, s215_54, s215_55, s215_58, s215_60, s215_61, s215_62, s215_63, s215_66, s215_67, s215_70, s215_72, s215_73, s215_74, s215_75, s215_76, s215_79, s215_81, s215_82, s215_83, s215_84, s215_85, s215_88, s215_89, s215_90, s215_91, s215_92, s215_93, s215_96, s215_97, s215_100, s215_101, s215_104, s215_106, s215_107, s215_108, s215_109, s215_110, s215_111, s215_114, s215_115, s215_116, s215_117, s215_118, s215_121, s215_124, nI_le2, nI_lt2, nI_eq2, nI_lt0, nI_0le, nI_0lt, nI_le0, nI_eq0, nI_clamp, nI_add, bu_nI, bb_0, bb_1, rf_s, rf_n, tl_s, tl_n, am_th_some, if_true, if_false, sI_eq, uI_eq, and_self, true_and, and_true, not_false_eq_true, not_true_eq_false, Nat.reduceEqDiff, Nat.reduceLeDiff, Nat.reduceLT, Nat.reduceAdd, Nat.reduceMul, Nat.reduceSub, Nat.zero_add, s3, Nat.le_refl]
      exact loop2 K f1 f2
  obtain ⟨K, g1, g2⟩ := loop1
  refine ⟨K, ?_, g2⟩
  rw [s215]
  simp (disch := first | omega | assumption) only [s215_0, s215_1, s215_3, s215_4, s215_7, s215_10, s215_11, s215_14, s215_15, s215_16, s215_17, s215_20, s215_23, s215_24, s215_27, s215_28, s215_29, s215_30, s215_33, s215_36, s215_37, s215_38, s215_41, s215_44, s215_45, s215_47, s215_48, s215_51, s215_54, s215_55, s215_58, s215_60, s215_61, s215_62, s215_63, s215_66, s215_67, s215_70, s215_72, s215_73, s215_74, s215_75, s215_76, s215_79, s215_81, s215_82, s215_83, s215_84, s215_85, s215_88, s215_89, s215_90, s215_91, s215_92, s215_93, s215_96, s215_97, s215_100, s215_101, s215_104, s215_106, s215_107, s215_108, s215_109, s215_110, s215_111, s215_114, s215_115, s215_116, s215_117, s215_118, s215_121, s215_124, nI_le2, nI_lt2, nI_eq2, nI_lt0, nI_0le, nI_0lt, nI_le0, nI_eq0, nI_clamp, nI_add, bu_nI, bb_0, bb_1, rf_s, rf_n, tl_s, tl_n, am_th_some, if_true, if_false, sI_eq, uI_eq, and_self, true_and, and_true, not_false_eq_true, not_true_eq_false, Nat.reduceEqDiff, Nat.reduceLeDiff, Nat.reduceLT, Nat.reduceAdd, Nat.reduceMul, Nat.reduceSub, Nat.zero_add]
  exact g1
end
