/-! The class Notes: WEAK, where to LOOK. -/
theorem range_split {α : Type} (f : Nat → α) {l h : Nat} (hl : l < h) : ∃ r, (List.range h).map f = (List.range l).map f ++ f l :: r := by
  induction h with
  | zero => exact absurd hl (Nat.not_lt_zero _)
  | succ h ih =>
    rw [List.range_succ, List.map_append]
    by_cases e : l = h
    · subst e; exact ⟨[], rfl⟩
    · obtain ⟨r, hr⟩ := ih (by omega)
      exact ⟨r ++ [f h], by rw [hr, List.append_assoc]; rfl⟩
theorem ws_mono {kk h n : Nat} (hn : h ≤ n) : ∃ r, sp_ws kk n = sp_ws kk h ++ r := by
  obtain ⟨m, rfl⟩ := Nat.exists_eq_add_of_le hn
  induction m with
  | zero => exact ⟨[], by simp⟩
  | succ m ih =>
    obtain ⟨r, hr⟩ := ih (by omega)
    refine ⟨r ++ (if kk = 1 then [2 ^ (h + m)] else (List.range (h + m)).map fun l => 2 ^ (h + m) ||| 2 ^ l), ?_⟩
    rw [show h + (m + 1) = h + m + 1 from rfl, ws_succ, hr, List.append_assoc]
theorem fit_mono {k kk h n : Nat} {N : Nat → Nat → Nat} (hn : h ≤ n) : ∃ r, sp_fit k N kk n = sp_fit k N kk h ++ r := by
  obtain ⟨r, hr⟩ := ws_mono (kk := kk) hn
  exact ⟨r.filter fun s => decide (sp_so k N s), by rw [sp_fit, hr, List.filter_append]; rfl⟩
theorem fl_pos {k s : Nat} {N : Nat → Nat → Nat} {r : List Nat} (q : sp_so k N s) : (s :: r).filter (fun s => decide (sp_so k N s)) = s :: r.filter (fun s => decide (sp_so k N s)) := List.filter_cons_of_pos (decide_eq_true q)
theorem fl_neg {k s : Nat} {N : Nat → Nat → Nat} {r : List Nat} (q : ¬ sp_so k N s) : (s :: r).filter (fun s => decide (sp_so k N s)) = r.filter (fun s => decide (sp_so k N s)) := List.filter_cons_of_neg (by rw [decide_eq_false q]; decide)
theorem bit_two {h l c : Nat} : (2 ^ h ||| 2 ^ l).testBit c = (decide (h = c) || decide (l = c)) := by
  rw [Nat.testBit_or, Nat.testBit_two_pow, Nat.testBit_two_pow]
def nt_S (v : Nat) : Nat → Nat → Nat → Prop := fun a b _ => a = 41 ∧ b = v
section
variable {d n v k kk : Nat} {I : am_I} {R : am_R} {Q : am_Q} {N : Nat → Nat → Nat} {i : Int32}
theorem weak_found {F M r : List Nat} {s : Nat} (hF : F = M ++ s :: r) (hM : M.length < 2 ^ 31) (hi : nI M.length = i) : sp_weak F i = nI s := by
  rw [sp_weak, if_neg (fun q => m1_ne hM (hi.trans q)), if_neg (by rw [← hi]; exact nI_pos hM), ← hi, nI_clamp hM, hF, List.getElem?_append_right (Nat.le_refl _), Nat.sub_self]
  rfl
theorem weak_end {F : List Nat} (hF : F.length < 2 ^ 31) (h : ∀ f, f < F.length → ¬ nI f = i) : sp_weak F i = if i = -nI 1 then nI F.length else -nI 1 := by
  rw [sp_weak]
  by_cases e : i = -nI 1
  · rw [if_pos e, if_pos e]
  · rw [if_neg e, if_neg e]
    by_cases e2 : i < 0
    · rw [if_pos e2]
    · rw [if_neg e2]
      obtain ⟨j, hj, rfl⟩ := nI_of e2
      rw [nI_clamp hj]
      by_cases e3 : j < F.length
      · exact absurd rfl (h j e3)
      · rw [List.getElem?_eq_none (by omega)]
theorem c_weakCells (hr : nt_R R v) (hk : nt_ok k N) (h : nt_at I v k N) (hn : n ≤ 25) (hkk : kk = 1 ∨ kk = 2) : ∃ J, am_cal (d + 1) 72 [.ref (am_mk 8 v), .int (nI n), .int (nI kk), .int i] I R Q = some (some (.int (sp_weak (sp_fit k N kk n) i)), J, R, Q) ∧ am_fr (nt_S v) I J ∧ (i = -nI 1 → ∀ c, c < 25 → J 41 v c = nI (sp_cnt (sp_fit k N kk n) c)) := by
  have hr2 := hr
  obtain ⟨r0, r1, r2, r3⟩ := hr
  have hFl : (sp_fit k N kk n).length ≤ 625 := Nat.le_trans fit_len (Nat.le_trans (ws_len hn) (by omega))
  let Post : Option am_X → Prop := fun y => ∃ J, y = some (some (.int (sp_weak (sp_fit k N kk n) i)), J, R, Q) ∧ am_fr (nt_S v) I J ∧ (i = -nI 1 → ∀ c, c < 25 → J 41 v c = nI (sp_cnt (sp_fit k N kk n) c))
  have sc : ∀ {J}, am_fr (nt_S v) I J → nt_at J v k N := fun {J} hf => nt_fr h hf (fun w => by unfold nt_S at w; omega) (fun a i ha w => by unfold nt_S at w; omega)
  have hne : ((nI 1 : Int32) = 0) = False := eq_false (by decide)
  -- one set that fits, or not
  have one : ∀ (J : am_I) (hh l : Nat) (M r : List Nat), hh < n → l ≤ hh → sp_fit k N kk n = M ++ r → am_fr (nt_S v) I J → (∀ f, f < M.length → ¬ nI f = i) → (∀ c, c < 25 → J 41 v c = nI (sp_cnt M c)) → (kk = 1 → l = hh) → (kk = 2 → l < hh) → (sp_so k N (2 ^ hh ||| 2 ^ l) → ∃ r', r = (2 ^ hh ||| 2 ^ l) :: r') → ∀ l6 l9 : Value, ∀ last : Nat, l ≤ last → last < 2 ^ 31 → (∃ J' l9', am_ev (d + 1) 72 76 [.ref (am_mk 8 v), .int (nI n), .int (nI kk), .int i, .int (nI M.length), .int (nI hh), l6, .int (nI last), .int (nI l), l9] [] J R Q = am_ev (d + 1) 72 76 [.ref (am_mk 8 v), .int (nI n), .int (nI kk), .int i, .int (nI (M ++ if sp_so k N (2 ^ hh ||| 2 ^ l) then [2 ^ hh ||| 2 ^ l] else []).length), .int (nI hh), l6, .int (nI last), .int (nI (l + 1)), l9'] [] J' R Q ∧ am_fr (nt_S v) I J' ∧ (∀ f, f < (M ++ if sp_so k N (2 ^ hh ||| 2 ^ l) then [2 ^ hh ||| 2 ^ l] else []).length → ¬ nI f = i) ∧ ∀ c, c < 25 → J' 41 v c = nI (sp_cnt (M ++ if sp_so k N (2 ^ hh ||| 2 ^ l) then [2 ^ hh ||| 2 ^ l] else []) c)) ∨ Post (am_ev (d + 1) 72 76 [.ref (am_mk 8 v), .int (nI n), .int (nI kk), .int i, .int (nI M.length), .int (nI hh), l6, .int (nI last), .int (nI l), l9] [] J R Q) := by
    intro J hh l M r h1 h2 hF f1 f2 f3 k1 k2 hso l6 l9 last hlast hlast2
    have hs : 2 ^ hh ||| 2 ^ l < 2 ^ 25 := or_lt (p25 (by omega)) (p25 (by omega))
    have hsw := c_isSoWith (d := d) (Q := Q) hr2 hk (sc f1) hs
    have hM : M.length ≤ 625 := by rw [hF, List.length_append] at hFl; omega
    have bh : nI 1 <<< (nI hh &&& 31) = nI (2 ^ hh) := nI_bit (by omega)
    have bl : nI 1 <<< (nI l &&& 31) = nI (2 ^ l) := nI_bit (by omega)
    have hll : ¬ last < l := by omega
    by_cases so : sp_so k N (2 ^ hh ||| 2 ^ l)
    · rw [if_pos so] at hsw
      obtain ⟨r', hr'⟩ := hso so
      by_cases hfi : nI M.length = i
      · right
        refine ⟨J, ?_, f1, fun q => absurd (hfi.trans q) (m1_ne (by omega))⟩
        rw [weak_found (hF.trans (by rw [hr'])) (by omega) hfi, s72_76]
        simp (disch := first | omega | assumption) only [s72_0, s72_1, s72_3, s72_4, s72_8, s72_10, s72_13, s72_14, s72_17, s72_19, s72_20, s72_21, s72_24, s72_27, s72_28, s72_32, s72_33, s72_36, s72_38, s72_40, s72_43, s72_44, s72_45, s72_48, s72_50, s72_53, s72_54, s72_56, s72_57, s72_58, s72_61, s72_63, s72_66, s72_68, s72_69, s72_70, s72_72, s72_74, s72_78, s72_80, s72_83, s72_84, s72_86, s72_87, s72_88, s72_90, s72_91, s72_92, s72_94, s72_95, s72_97, s72_100, s72_103, s72_105, s72_106, s72_109, s72_111, s72_112, s72_115, s72_116, s72_119, s72_121, s72_122, s72_123, s72_124, s72_125, s72_126, s72_127, s72_130, s72_132, s72_133, s72_134, s72_135, s72_136, s72_137, s72_138, s72_139, s72_142, s72_145, s72_148, s72_151, s72_152, s72_153, s72_156, s72_158, s72_161, s72_162, nI_le2, nI_lt2, nI_eq2, nI_lt0, nI_0le, nI_0lt, nI_le0, nI_eq0, nI_clamp, nI_add, bu_nI, bb_0, bb_1, rf_s, rf_n, tl_s, tl_n, am_th_some, if_true, if_false, sI_eq, uI_eq, and_self, true_and, and_true, not_false_eq_true, not_true_eq_false, Nat.reduceEqDiff, Nat.reduceLeDiff, Nat.reduceLT, Nat.reduceAdd, Nat.reduceMul, Nat.reduceSub, Nat.zero_add, hll, bh, bl, nI_or, hsw, hne, hfi]
      · left
        simp only [if_pos so, List.length_append, List.length_singleton]
        have cs : ∀ c, sp_cnt (M ++ [2 ^ hh ||| 2 ^ l]) c = sp_cnt M c + if hh = c ∨ l = c then 1 else 0 := fun c => by
          rw [cnt_app]
          congr 1
          have e := bit_two (h := hh) (l := l) (c := c)
          by_cases q : hh = c ∨ l = c
          · rw [if_pos q, sp_cnt, List.filter_cons_of_pos (by rw [e]; simpa using q)]; rfl
          · rw [if_neg q, sp_cnt, List.filter_cons_of_neg (by rw [e]; simpa using q)]; rfl
        have new : ∀ f, f < M.length + 1 → ¬ nI f = i := fun f hf => (Nat.lt_succ_iff_lt_or_eq.mp hf).elim (f2 f) (fun e => by rw [e]; exact hfi)
        rcases hkk with e | e
        · have hlh := k1 e
          subst hlh
          subst e
          refine ⟨_, .int (nI (2 ^ l ||| 2 ^ l)), by rw [s72_76]; simp (disch := first | omega | assumption) only [s72_0, s72_1, s72_3, s72_4, s72_8, s72_10, s72_13, s72_14, s72_17, s72_19, s72_20, s72_21, s72_24, s72_27, s72_28, s72_32, s72_33, s72_36, s72_38, s72_40, s72_43, s72_44, s72_45, s72_48, s72_50, s72_53, s72_54, s72_56, s72_57, s72_58, s72_61, s72_63, s72_66, s72_68, s72_69, s72_70, s72_72, s72_74, s72_78, s72_80, s72_83, s72_84, s72_86, s72_87, s72_88, s72_90, s72_91, s72_92, s72_94, s72_95, s72_97, s72_100, s72_103, s72_105, s72_106, s72_109, s72_111, s72_112, s72_115, s72_116, s72_119, s72_121, s72_122, s72_123, s72_124, s72_125, s72_126, s72_127, s72_130, s72_132, s72_133, s72_134, s72_135, s72_136, s72_137, s72_138, s72_139, s72_142, s72_145, s72_148, s72_151, s72_152, s72_153, s72_156, s72_158, s72_161, s72_162, nI_le2, nI_lt2, nI_eq2, nI_lt0, nI_0le, nI_0lt, nI_le0, nI_eq0, nI_clamp, nI_add, bu_nI, bb_0, bb_1, rf_s, rf_n, tl_s, tl_n, am_th_some, if_true, if_false, sI_eq, uI_eq, and_self, true_and, and_true, not_false_eq_true, not_true_eq_false, Nat.reduceEqDiff, Nat.reduceLeDiff, Nat.reduceLT, Nat.reduceAdd, Nat.reduceMul, Nat.reduceSub, Nat.zero_add, hll, bh, bl, nI_or, hsw, hne, hfi, r3, sI_sI, uI_uI, nI_sub, f3 l (show l < 25 by omega)] <;> rfl, fr_f f1 (fun _ => ⟨rfl, rfl⟩), new, fun c hc => ?_⟩
          rw [sI_eq, cs c]
          by_cases q : c = l
          · subst q; rw [uI_eq, if_pos (Or.inl rfl)]
          · rw [uI_ne q, f3 c hc, if_neg (fun w => w.elim (fun w => q w.symm) (fun w => q w.symm))]; rfl
        · have hlh := k2 e
          subst e
          refine ⟨_, .int (nI (2 ^ hh ||| 2 ^ l)), by rw [s72_76]; simp (disch := first | omega | assumption) only [s72_0, s72_1, s72_3, s72_4, s72_8, s72_10, s72_13, s72_14, s72_17, s72_19, s72_20, s72_21, s72_24, s72_27, s72_28, s72_32, s72_33, s72_36, s72_38, s72_40, s72_43, s72_44, s72_45, s72_48, s72_50, s72_53, s72_54, s72_56, s72_57, s72_58, s72_61, s72_63, s72_66, s72_68, s72_69, s72_70, s72_72, s72_74, s72_78, s72_80, s72_83, s72_84, s72_86, s72_87, s72_88, s72_90, s72_91, s72_92, s72_94, s72_95, s72_97, s72_100, s72_103, s72_105, s72_106, s72_109, s72_111, s72_112, s72_115, s72_116, s72_119, s72_121, s72_122, s72_123, s72_124, s72_125, s72_126, s72_127, s72_130, s72_132, s72_133, s72_134, s72_135, s72_136, s72_137, s72_138, s72_139, s72_142, s72_145, s72_148, s72_151, s72_152, s72_153, s72_156, s72_158, s72_161, s72_162, nI_le2, nI_lt2, nI_eq2, nI_lt0, nI_0le, nI_0lt, nI_le0, nI_eq0, nI_clamp, nI_add, bu_nI, bb_0, bb_1, rf_s, rf_n, tl_s, tl_n, am_th_some, if_true, if_false, sI_eq, uI_eq, and_self, true_and, and_true, not_false_eq_true, not_true_eq_false, Nat.reduceEqDiff, Nat.reduceLeDiff, Nat.reduceLT, Nat.reduceAdd, Nat.reduceMul, Nat.reduceSub, Nat.zero_add, hll, bh, bl, nI_or, hsw, hne, hfi, r3, sI_sI, uI_ne, nI_sub, f3 l (show l < 25 by omega), f3 hh (show hh < 25 by omega)] <;> rfl, fr_f f1 (fun _ => ⟨rfl, rfl⟩), new, fun c hc => ?_⟩
          rw [sI_eq, cs c]
          by_cases q : c = l
          · subst q; rw [uI_eq, if_pos (Or.inr rfl)]
          · rw [uI_ne q]
            by_cases q2 : c = hh
            · subst q2; rw [uI_eq, if_pos (Or.inl rfl)]
            · rw [uI_ne q2, f3 c hc, if_neg (fun w => w.elim (fun w => q2 w.symm) (fun w => q w.symm))]; rfl
    · rw [if_neg so] at hsw
      left
      simp only [if_neg so, List.append_nil]
      refine ⟨J, .int (nI (2 ^ hh ||| 2 ^ l)), ?_, f1, f2, f3⟩
      rw [s72_76]
      simp (disch := first | omega | assumption) only [s72_0, s72_1, s72_3, s72_4, s72_8, s72_10, s72_13, s72_14, s72_17, s72_19, s72_20, s72_21, s72_24, s72_27, s72_28, s72_32, s72_33, s72_36, s72_38, s72_40, s72_43, s72_44, s72_45, s72_48, s72_50, s72_53, s72_54, s72_56, s72_57, s72_58, s72_61, s72_63, s72_66, s72_68, s72_69, s72_70, s72_72, s72_74, s72_78, s72_80, s72_83, s72_84, s72_86, s72_87, s72_88, s72_90, s72_91, s72_92, s72_94, s72_95, s72_97, s72_100, s72_103, s72_105, s72_106, s72_109, s72_111, s72_112, s72_115, s72_116, s72_119, s72_121, s72_122, s72_123, s72_124, s72_125, s72_126, s72_127, s72_130, s72_132, s72_133, s72_134, s72_135, s72_136, s72_137, s72_138, s72_139, s72_142, s72_145, s72_148, s72_151, s72_152, s72_153, s72_156, s72_158, s72_161, s72_162, nI_le2, nI_lt2, nI_eq2, nI_lt0, nI_0le, nI_0lt, nI_le0, nI_eq0, nI_clamp, nI_add, bu_nI, bb_0, bb_1, rf_s, rf_n, tl_s, tl_n, am_th_some, if_true, if_false, sI_eq, uI_eq, and_self, true_and, and_true, not_false_eq_true, not_true_eq_false, Nat.reduceEqDiff, Nat.reduceLeDiff, Nat.reduceLT, Nat.reduceAdd, Nat.reduceMul, Nat.reduceSub, Nat.zero_add, hll, bh, bl, nI_or, hsw]
  have outer : ∀ J0, am_fr (nt_S v) I J0 → (∀ c, c < 25 → J0 41 v c = nI 0) → ∀ l6 l7 l8 l9 : Value, Post (am_ev (d + 1) 72 30 [.ref (am_mk 8 v), .int (nI n), .int (nI kk), .int i, .int (nI 0), .int (nI 0), l6, l7, l8, l9] [] J0 R Q) := by
    intro J0 hJ0 hz l6 l7 l8 l9
    refine loop_inv (f := fun (a : am_I × Value × Value × Value × Value) c => am_ev (d + 1) 72 30 [.ref (am_mk 8 v), .int (nI n), .int (nI kk), .int i, .int (nI (sp_fit k N kk c).length), .int (nI c), a.2.1, a.2.2.1, a.2.2.2.1, a.2.2.2.2] [] a.1 R Q) (Inv := fun c a => am_fr (nt_S v) I a.1 ∧ (∀ f, f < (sp_fit k N kk c).length → ¬ nI f = i) ∧ ∀ j, j < 25 → a.1 41 v j = nI (sp_cnt (sp_fit k N kk c) j)) (Post := Post) (n := n) ?_ ?_ (Nat.zero_le _) (a := (J0, l6, l7, l8, l9)) ⟨hJ0, fun f hf => absurd hf (Nat.not_lt_zero _), hz⟩
    · intro c ⟨J, l6, l7, l8, l9⟩ hc ⟨f1, f2, f3⟩
      have f1 : am_fr (nt_S v) I J := f1
      have f3 : ∀ j, j < 25 → J 41 v j = nI (sp_cnt (sp_fit k N kk c) j) := f3
      have h1 : ¬ n ≤ c := by omega
      have h2 : ¬ 25 ≤ c := by omega
      obtain ⟨rr, hrr⟩ := fit_mono (k := k) (N := N) (kk := kk) (show c + 1 ≤ n by omega)
      rcases hkk with e | e
      · -- one weak CELL
        have hs1 : sp_fit k N kk (c + 1) = sp_fit k N kk c ++ if sp_so k N (2 ^ c ||| 2 ^ c) then [2 ^ c ||| 2 ^ c] else [] := by
          rw [fit_succ, if_pos e, Nat.or_self]
          by_cases q : sp_so k N (2 ^ c)
          · rw [if_pos q, fl_pos q]; rfl
          · rw [if_neg q, fl_neg q]; rfl
        rcases one J c c (sp_fit k N kk c) ((if sp_so k N (2 ^ c ||| 2 ^ c) then [2 ^ c ||| 2 ^ c] else []) ++ rr) hc (Nat.le_refl _) (by rw [hrr, hs1, List.append_assoc]) f1 f2 f3 (fun _ => rfl) (fun w => by omega) (fun so => ⟨rr, by rw [if_pos so]; rfl⟩) (.int (nI c)) l9 c (Nat.le_refl _) (by omega) with ⟨J', l9', g1, g2, g3, g4⟩ | hp
        · left
          rw [← hs1] at g1 g3 g4
          refine ⟨(J', .int (nI c), .int (nI c), .int (nI (c + 1)), l9'), ?_, g2, g3, g4⟩
          subst e
          rw [s72_30]
          simp (disch := first | omega | assumption) only [s72_0, s72_1, s72_3, s72_4, s72_8, s72_10, s72_13, s72_14, s72_17, s72_19, s72_20, s72_21, s72_24, s72_27, s72_28, s72_32, s72_33, s72_36, s72_38, s72_40, s72_43, s72_44, s72_45, s72_48, s72_50, s72_53, s72_54, s72_56, s72_57, s72_58, s72_61, s72_63, s72_66, s72_68, s72_69, s72_70, s72_72, s72_74, s72_78, s72_80, s72_83, s72_84, s72_86, s72_87, s72_88, s72_90, s72_91, s72_92, s72_94, s72_95, s72_97, s72_100, s72_103, s72_105, s72_106, s72_109, s72_111, s72_112, s72_115, s72_116, s72_119, s72_121, s72_122, s72_123, s72_124, s72_125, s72_126, s72_127, s72_130, s72_132, s72_133, s72_134, s72_135, s72_136, s72_137, s72_138, s72_139, s72_142, s72_145, s72_148, s72_151, s72_152, s72_153, s72_156, s72_158, s72_161, s72_162, nI_le2, nI_lt2, nI_eq2, nI_lt0, nI_0le, nI_0lt, nI_le0, nI_eq0, nI_clamp, nI_add, bu_nI, bb_0, bb_1, rf_s, rf_n, tl_s, tl_n, am_th_some, if_true, if_false, sI_eq, uI_eq, and_self, true_and, and_true, not_false_eq_true, not_true_eq_false, Nat.reduceEqDiff, Nat.reduceLeDiff, Nat.reduceLT, Nat.reduceAdd, Nat.reduceMul, Nat.reduceSub, Nat.zero_add, h1, h2]
          rw [g1, s72_76]
          have : c < c + 1 := by omega
          simp (disch := first | omega | assumption) only [s72_0, s72_1, s72_3, s72_4, s72_8, s72_10, s72_13, s72_14, s72_17, s72_19, s72_20, s72_21, s72_24, s72_27, s72_28, s72_32, s72_33, s72_36, s72_38, s72_40, s72_43, s72_44, s72_45, s72_48, s72_50, s72_53, s72_54, s72_56, s72_57, s72_58, s72_61, s72_63, s72_66, s72_68, s72_69, s72_70, s72_72, s72_74, s72_78, s72_80, s72_83, s72_84, s72_86, s72_87, s72_88, s72_90, s72_91, s72_92, s72_94, s72_95, s72_97, s72_100, s72_103, s72_105, s72_106, s72_109, s72_111, s72_112, s72_115, s72_116, s72_119, s72_121, s72_122, s72_123, s72_124, s72_125, s72_126, s72_127, s72_130, s72_132, s72_133, s72_134, s72_135, s72_136, s72_137, s72_138, s72_139, s72_142, s72_145, s72_148, s72_151, s72_152, s72_153, s72_156, s72_158, s72_161, s72_162, nI_le2, nI_lt2, nI_eq2, nI_lt0, nI_0le, nI_0lt, nI_le0, nI_eq0, nI_clamp, nI_add, bu_nI, bb_0, bb_1, rf_s, rf_n, tl_s, tl_n, am_th_some, if_true, if_false, sI_eq, uI_eq, and_self, true_and, and_true, not_false_eq_true, not_true_eq_false, Nat.reduceEqDiff, Nat.reduceLeDiff, Nat.reduceLT, Nat.reduceAdd, Nat.reduceMul, Nat.reduceSub, Nat.zero_add, this]
        · right
          show Post _
          subst e
          rw [s72_30]
          simp (disch := first | omega | assumption) only [s72_0, s72_1, s72_3, s72_4, s72_8, s72_10, s72_13, s72_14, s72_17, s72_19, s72_20, s72_21, s72_24, s72_27, s72_28, s72_32, s72_33, s72_36, s72_38, s72_40, s72_43, s72_44, s72_45, s72_48, s72_50, s72_53, s72_54, s72_56, s72_57, s72_58, s72_61, s72_63, s72_66, s72_68, s72_69, s72_70, s72_72, s72_74, s72_78, s72_80, s72_83, s72_84, s72_86, s72_87, s72_88, s72_90, s72_91, s72_92, s72_94, s72_95, s72_97, s72_100, s72_103, s72_105, s72_106, s72_109, s72_111, s72_112, s72_115, s72_116, s72_119, s72_121, s72_122, s72_123, s72_124, s72_125, s72_126, s72_127, s72_130, s72_132, s72_133, s72_134, s72_135, s72_136, s72_137, s72_138, s72_139, s72_142, s72_145, s72_148, s72_151, s72_152, s72_153, s72_156, s72_158, s72_161, s72_162, nI_le2, nI_lt2, nI_eq2, nI_lt0, nI_0le, nI_0lt, nI_le0, nI_eq0, nI_clamp, nI_add, bu_nI, bb_0, bb_1, rf_s, rf_n, tl_s, tl_n, am_th_some, if_true, if_false, sI_eq, uI_eq, and_self, true_and, and_true, not_false_eq_true, not_true_eq_false, Nat.reduceEqDiff, Nat.reduceLeDiff, Nat.reduceLT, Nat.reduceAdd, Nat.reduceMul, Nat.reduceSub, Nat.zero_add, h1, h2]
          exact hp
      · -- two
        have hs2 : sp_fit k N kk (c + 1) = sp_fit k N kk c ++ ((List.range c).map fun l => 2 ^ c ||| 2 ^ l).filter fun s => decide (sp_so k N s) := by
          rw [fit_succ, if_neg (by omega)]
        let pre : Nat → List Nat := fun l => sp_fit k N kk c ++ ((List.range l).map fun l => 2 ^ c ||| 2 ^ l).filter fun s => decide (sp_so k N s)
        have pre_s : ∀ l, pre (l + 1) = pre l ++ if sp_so k N (2 ^ c ||| 2 ^ l) then [2 ^ c ||| 2 ^ l] else [] := fun l => by
          show _ ++ _ = _ ++ _ ++ _
          rw [List.range_succ, List.map_append, List.filter_append, List.append_assoc]
          congr 2
          by_cases q : sp_so k N (2 ^ c ||| 2 ^ l)
          · rw [if_pos q]; exact fl_pos q
          · rw [if_neg q]; exact fl_neg q
        have inner : ∀ l9 : Value, Post (am_ev (d + 1) 72 76 [.ref (am_mk 8 v), .int (nI n), .int (nI kk), .int i, .int (nI (pre 0).length), .int (nI c), .int (nI 0), .int (nI c - nI 1), .int (nI 0), l9] [] J R Q) ∨ ∃ J' l9', am_ev (d + 1) 72 76 [.ref (am_mk 8 v), .int (nI n), .int (nI kk), .int i, .int (nI (pre 0).length), .int (nI c), .int (nI 0), .int (nI c - nI 1), .int (nI 0), l9] [] J R Q = am_ev (d + 1) 72 76 [.ref (am_mk 8 v), .int (nI n), .int (nI kk), .int i, .int (nI (pre c).length), .int (nI c), .int (nI 0), .int (nI c - nI 1), .int (nI c), l9'] [] J' R Q ∧ am_fr (nt_S v) I J' ∧ (∀ f, f < (pre c).length → ¬ nI f = i) ∧ ∀ j, j < 25 → J' 41 v j = nI (sp_cnt (pre c) j) := by
          intro l9
          refine loop_inv (f := fun (a : am_I × Value) l => am_ev (d + 1) 72 76 [.ref (am_mk 8 v), .int (nI n), .int (nI kk), .int i, .int (nI (pre l).length), .int (nI c), .int (nI 0), .int (nI c - nI 1), .int (nI l), a.2] [] a.1 R Q) (Inv := fun l a => am_fr (nt_S v) I a.1 ∧ (∀ f, f < (pre l).length → ¬ nI f = i) ∧ ∀ j, j < 25 → a.1 41 v j = nI (sp_cnt (pre l) j)) (Post := fun y => Post y ∨ ∃ J' l9', y = am_ev (d + 1) 72 76 [.ref (am_mk 8 v), .int (nI n), .int (nI kk), .int i, .int (nI (pre c).length), .int (nI c), .int (nI 0), .int (nI c - nI 1), .int (nI c), l9'] [] J' R Q ∧ am_fr (nt_S v) I J' ∧ (∀ f, f < (pre c).length → ¬ nI f = i) ∧ ∀ j, j < 25 → J' 41 v j = nI (sp_cnt (pre c) j)) (n := c) ?_ ?_ (Nat.zero_le _) (a := (J, l9)) ⟨f1, ?_, ?_⟩
          · intro l ⟨J, l9⟩ hl ⟨f1, f2, f3⟩
            have f1 : am_fr (nt_S v) I J := f1
            have f3 : ∀ j, j < 25 → J 41 v j = nI (sp_cnt (pre l) j) := f3
            obtain ⟨r1, hr1⟩ := range_split (fun l => 2 ^ c ||| 2 ^ l) hl
            have hcut : sp_fit k N kk n = pre l ++ (((2 ^ c ||| 2 ^ l) :: r1).filter (fun s => decide (sp_so k N s)) ++ rr) := by
              rw [hrr, hs2, hr1, List.filter_append]
              simp only [pre, List.append_assoc]
            have hlast : nI c - nI 1 = nI (c - 1) := nI_sub (by omega)
            have := one J c l (pre l) _ hc (by omega) hcut f1 f2 f3 (fun w => by omega) (fun _ => hl) (fun so => ⟨_, (congrArg (· ++ rr) (fl_pos so)).trans (List.cons_append ..)⟩) (.int (nI 0)) l9 (c - 1) (by omega) (by omega)
            rw [← hlast, ← pre_s l] at this
            rcases this with ⟨J', l9', g1, g2, g3, g4⟩ | hp
            · exact Or.inl ⟨(J', l9'), g1, g2, g3, g4⟩
            · exact Or.inr (Or.inl hp)
          · intro ⟨J, l9⟩ ⟨f1, f2, f3⟩
            exact Or.inr ⟨J, l9, rfl, f1, f2, f3⟩
          · have : pre 0 = sp_fit k N kk c := by simp [pre]
            rw [this]; exact f2
          · have : pre 0 = sp_fit k N kk c := by simp [pre]
            rw [this]; exact f3
        have p0 : pre 0 = sp_fit k N kk c := by simp [pre]
        have pc : pre c = sp_fit k N kk (c + 1) := hs2.symm
        rw [p0, pc] at inner
        rcases inner l9 with hp | ⟨J', l9', g1, g2, g3, g4⟩
        · right
          show Post _
          subst e
          rw [s72_30]
          simp (disch := first | omega | assumption) only [s72_0, s72_1, s72_3, s72_4, s72_8, s72_10, s72_13, s72_14, s72_17, s72_19, s72_20, s72_21, s72_24, s72_27, s72_28, s72_32, s72_33, s72_36, s72_38, s72_40, s72_43, s72_44, s72_45, s72_48, s72_50, s72_53, s72_54, s72_56, s72_57, s72_58, s72_61, s72_63, s72_66, s72_68, s72_69, s72_70, s72_72, s72_74, s72_78, s72_80, s72_83, s72_84, s72_86, s72_87, s72_88, s72_90, s72_91, s72_92, s72_94, s72_95, s72_97, s72_100, s72_103, s72_105, s72_106, s72_109, s72_111, s72_112, s72_115, s72_116, s72_119, s72_121, s72_122, s72_123, s72_124, s72_125, s72_126, s72_127, s72_130, s72_132, s72_133, s72_134, s72_135, s72_136, s72_137, s72_138, s72_139, s72_142, s72_145, s72_148, s72_151, s72_152, s72_153, s72_156, s72_158, s72_161, s72_162, nI_le2, nI_lt2, nI_eq2, nI_lt0, nI_0le, nI_0lt, nI_le0, nI_eq0, nI_clamp, nI_add, bu_nI, bb_0, bb_1, rf_s, rf_n, tl_s, tl_n, am_th_some, if_true, if_false, sI_eq, uI_eq, and_self, true_and, and_true, not_false_eq_true, not_true_eq_false, Nat.reduceEqDiff, Nat.reduceLeDiff, Nat.reduceLT, Nat.reduceAdd, Nat.reduceMul, Nat.reduceSub, Nat.zero_add, h1, h2]
          exact hp
        · left
          refine ⟨(J', .int (nI 0), .int (nI c - nI 1), .int (nI c), l9'), ?_, g2, g3, g4⟩
          subst e
          rw [s72_30]
          simp (disch := first | omega | assumption) only [s72_0, s72_1, s72_3, s72_4, s72_8, s72_10, s72_13, s72_14, s72_17, s72_19, s72_20, s72_21, s72_24, s72_27, s72_28, s72_32, s72_33, s72_36, s72_38, s72_40, s72_43, s72_44, s72_45, s72_48, s72_50, s72_53, s72_54, s72_56, s72_57, s72_58, s72_61, s72_63, s72_66, s72_68, s72_69, s72_70, s72_72, s72_74, s72_78, s72_80, s72_83, s72_84, s72_86, s72_87, s72_88, s72_90, s72_91, s72_92, s72_94, s72_95, s72_97, s72_100, s72_103, s72_105, s72_106, s72_109, s72_111, s72_112, s72_115, s72_116, s72_119, s72_121, s72_122, s72_123, s72_124, s72_125, s72_126, s72_127, s72_130, s72_132, s72_133, s72_134, s72_135, s72_136, s72_137, s72_138, s72_139, s72_142, s72_145, s72_148, s72_151, s72_152, s72_153, s72_156, s72_158, s72_161, s72_162, nI_le2, nI_lt2, nI_eq2, nI_lt0, nI_0le, nI_0lt, nI_le0, nI_eq0, nI_clamp, nI_add, bu_nI, bb_0, bb_1, rf_s, rf_n, tl_s, tl_n, am_th_some, if_true, if_false, sI_eq, uI_eq, and_self, true_and, and_true, not_false_eq_true, not_true_eq_false, Nat.reduceEqDiff, Nat.reduceLeDiff, Nat.reduceLT, Nat.reduceAdd, Nat.reduceMul, Nat.reduceSub, Nat.zero_add, h1, h2]
          rw [g1, s72_76]
          have hgt : (nI c - nI 1 < nI c) = True := eq_true (by
            rw [nI_m1 (by omega) (nI_pos' (by omega))]
            exact Int32.lt_irrefl)
          simp (disch := first | omega | assumption) only [s72_0, s72_1, s72_3, s72_4, s72_8, s72_10, s72_13, s72_14, s72_17, s72_19, s72_20, s72_21, s72_24, s72_27, s72_28, s72_32, s72_33, s72_36, s72_38, s72_40, s72_43, s72_44, s72_45, s72_48, s72_50, s72_53, s72_54, s72_56, s72_57, s72_58, s72_61, s72_63, s72_66, s72_68, s72_69, s72_70, s72_72, s72_74, s72_78, s72_80, s72_83, s72_84, s72_86, s72_87, s72_88, s72_90, s72_91, s72_92, s72_94, s72_95, s72_97, s72_100, s72_103, s72_105, s72_106, s72_109, s72_111, s72_112, s72_115, s72_116, s72_119, s72_121, s72_122, s72_123, s72_124, s72_125, s72_126, s72_127, s72_130, s72_132, s72_133, s72_134, s72_135, s72_136, s72_137, s72_138, s72_139, s72_142, s72_145, s72_148, s72_151, s72_152, s72_153, s72_156, s72_158, s72_161, s72_162, nI_le2, nI_lt2, nI_eq2, nI_lt0, nI_0le, nI_0lt, nI_le0, nI_eq0, nI_clamp, nI_add, bu_nI, bb_0, bb_1, rf_s, rf_n, tl_s, tl_n, am_th_some, if_true, if_false, sI_eq, uI_eq, and_self, true_and, and_true, not_false_eq_true, not_true_eq_false, Nat.reduceEqDiff, Nat.reduceLeDiff, Nat.reduceLT, Nat.reduceAdd, Nat.reduceMul, Nat.reduceSub, Nat.zero_add, hgt]
    · intro ⟨J, l6, l7, l8, l9⟩ ⟨f1, f2, f3⟩
      have f1 : am_fr (nt_S v) I J := f1
      refine ⟨J, ?_, f1, fun _ => f3⟩
      rw [weak_end (by omega) f2, s72_30]
      by_cases e : i = -nI 1
      · rw [if_pos e]
        simp (disch := first | omega | assumption) only [s72_0, s72_1, s72_3, s72_4, s72_8, s72_10, s72_13, s72_14, s72_17, s72_19, s72_20, s72_21, s72_24, s72_27, s72_28, s72_32, s72_33, s72_36, s72_38, s72_40, s72_43, s72_44, s72_45, s72_48, s72_50, s72_53, s72_54, s72_56, s72_57, s72_58, s72_61, s72_63, s72_66, s72_68, s72_69, s72_70, s72_72, s72_74, s72_78, s72_80, s72_83, s72_84, s72_86, s72_87, s72_88, s72_90, s72_91, s72_92, s72_94, s72_95, s72_97, s72_100, s72_103, s72_105, s72_106, s72_109, s72_111, s72_112, s72_115, s72_116, s72_119, s72_121, s72_122, s72_123, s72_124, s72_125, s72_126, s72_127, s72_130, s72_132, s72_133, s72_134, s72_135, s72_136, s72_137, s72_138, s72_139, s72_142, s72_145, s72_148, s72_151, s72_152, s72_153, s72_156, s72_158, s72_161, s72_162, nI_le2, nI_lt2, nI_eq2, nI_lt0, nI_0le, nI_0lt, nI_le0, nI_eq0, nI_clamp, nI_add, bu_nI, bb_0, bb_1, rf_s, rf_n, tl_s, tl_n, am_th_some, if_true, if_false, sI_eq, uI_eq, and_self, true_and, and_true, not_false_eq_true, not_true_eq_false, Nat.reduceEqDiff, Nat.reduceLeDiff, Nat.reduceLT, Nat.reduceAdd, Nat.reduceMul, Nat.reduceSub, Nat.zero_add, Nat.le_refl, e]
      · rw [if_neg e]
        simp (disch := first | omega | assumption) only [s72_0, s72_1, s72_3, s72_4, s72_8, s72_10, s72_13, s72_14, s72_17, s72_19, s72_20, s72_21, s72_24, s72_27, s72_28, s72_32, s72_33, s72_36, s72_38, s72_40, s72_43, s72_44, s72_45, s72_48, s72_50, s72_53, s72_54, s72_56, s72_57, s72_58, s72_61, s72_63, s72_66, s72_68, s72_69, s72_70, s72_72, s72_74, s72_78, s72_80, s72_83, s72_84, s72_86, s72_87, s72_88, s72_90, s72_91, s72_92, s72_94, s72_95, s72_97, s72_100, s72_103, s72_105, s72_106, s72_109, s72_111, s72_112, s72_115, s72_116, s72_119, s72_121, s72_122, s72_123, s72_124, s72_125, s72_126, s72_127, s72_130, s72_132, s72_133, s72_134, s72_135, s72_136, s72_137, s72_138, s72_139, s72_142, s72_145, s72_148, s72_151, s72_152, s72_153, s72_156, s72_158, s72_161, s72_162, nI_le2, nI_lt2, nI_eq2, nI_lt0, nI_0le, nI_0lt, nI_le0, nI_eq0, nI_clamp, nI_add, bu_nI, bb_0, bb_1, rf_s, rf_n, tl_s, tl_n, am_th_some, if_true, if_false, sI_eq, uI_eq, and_self, true_and, and_true, not_false_eq_true, not_true_eq_false, Nat.reduceEqDiff, Nat.reduceLeDiff, Nat.reduceLT, Nat.reduceAdd, Nat.reduceMul, Nat.reduceSub, Nat.zero_add, Nat.le_refl, e]
  have zero : Post (am_ev (d + 1) 72 6 [.ref (am_mk 8 v), .int (nI n), .int (nI kk), .int i, .int (nI 0), .int (nI 0), am_J, am_J, am_J, am_J] [] I R Q) := by
    refine loop_inv (f := fun J c => am_ev (d + 1) 72 6 [.ref (am_mk 8 v), .int (nI n), .int (nI kk), .int i, .int (nI 0), .int (nI c), am_J, am_J, am_J, am_J] [] J R Q) (Inv := fun c J => am_fr (nt_S v) I J ∧ ∀ j, j < c → J 41 v j = nI 0) (Post := Post) (n := 25) ?_ ?_ (Nat.zero_le _) ⟨fr_rf, fun j hj => absurd hj (Nat.not_lt_zero _)⟩
    · intro c J hc ⟨f1, f2⟩
      left
      have h1 : ¬ 25 ≤ c := by omega
      refine ⟨_, by rw [s72_6]; simp (disch := first | omega | assumption) only [s72_0, s72_1, s72_3, s72_4, s72_8, s72_10, s72_13, s72_14, s72_17, s72_19, s72_20, s72_21, s72_24, s72_27, s72_28, s72_32, s72_33, s72_36, s72_38, s72_40, s72_43, s72_44, s72_45, s72_48, s72_50, s72_53, s72_54, s72_56, s72_57, s72_58, s72_61, s72_63, s72_66, s72_68, s72_69, s72_70, s72_72, s72_74, s72_78, s72_80, s72_83, s72_84, s72_86, s72_87, s72_88, s72_90, s72_91, s72_92, s72_94, s72_95, s72_97, s72_100, s72_103, s72_105, s72_106, s72_109, s72_111, s72_112, s72_115, s72_116, s72_119, s72_121, s72_122, s72_123, s72_124, s72_125, s72_126, s72_127, s72_130, s72_132, s72_133, s72_134, s72_135, s72_136, s72_137, s72_138, s72_139, s72_142, s72_145, s72_148, s72_151, s72_152, s72_153, s72_156, s72_158, s72_161, s72_162, nI_le2, nI_lt2, nI_eq2, nI_lt0, nI_0le, nI_0lt, nI_le0, nI_eq0, nI_clamp, nI_add, bu_nI, bb_0, bb_1, rf_s, rf_n, tl_s, tl_n, am_th_some, if_true, if_false, sI_eq, uI_eq, and_self, true_and, and_true, not_false_eq_true, not_true_eq_false, Nat.reduceEqDiff, Nat.reduceLeDiff, Nat.reduceLT, Nat.reduceAdd, Nat.reduceMul, Nat.reduceSub, Nat.zero_add, r3, h1] <;> rfl, fr_f f1 (fun _ => ⟨rfl, rfl⟩), fun j hj => ?_⟩
      rw [sI_eq]
      by_cases e : j = c
      · subst e; rw [uI_eq]
      · rw [uI_ne e, f2 j (by omega)]
    · intro J ⟨f1, f2⟩
      show Post _
      rw [s72_6]
      simp (disch := first | omega | assumption) only [s72_0, s72_1, s72_3, s72_4, s72_8, s72_10, s72_13, s72_14, s72_17, s72_19, s72_20, s72_21, s72_24, s72_27, s72_28, s72_32, s72_33, s72_36, s72_38, s72_40, s72_43, s72_44, s72_45, s72_48, s72_50, s72_53, s72_54, s72_56, s72_57, s72_58, s72_61, s72_63, s72_66, s72_68, s72_69, s72_70, s72_72, s72_74, s72_78, s72_80, s72_83, s72_84, s72_86, s72_87, s72_88, s72_90, s72_91, s72_92, s72_94, s72_95, s72_97, s72_100, s72_103, s72_105, s72_106, s72_109, s72_111, s72_112, s72_115, s72_116, s72_119, s72_121, s72_122, s72_123, s72_124, s72_125, s72_126, s72_127, s72_130, s72_132, s72_133, s72_134, s72_135, s72_136, s72_137, s72_138, s72_139, s72_142, s72_145, s72_148, s72_151, s72_152, s72_153, s72_156, s72_158, s72_161, s72_162, nI_le2, nI_lt2, nI_eq2, nI_lt0, nI_0le, nI_0lt, nI_le0, nI_eq0, nI_clamp, nI_add, bu_nI, bb_0, bb_1, rf_s, rf_n, tl_s, tl_n, am_th_some, if_true, if_false, sI_eq, uI_eq, and_self, true_and, and_true, not_false_eq_true, not_true_eq_false, Nat.reduceEqDiff, Nat.reduceLeDiff, Nat.reduceLT, Nat.reduceAdd, Nat.reduceMul, Nat.reduceSub, Nat.zero_add, Nat.le_refl]
      exact outer J f1 f2 _ _ _ _
  obtain ⟨J, g1, g2⟩ := zero
  refine ⟨J, ?_, g2⟩
  rw [s72]
  simp (disch := first | omega | assumption) only [s72_0, s72_1, s72_3, s72_4, s72_8, s72_10, s72_13, s72_14, s72_17, s72_19, s72_20, s72_21, s72_24, s72_27, s72_28, s72_32, s72_33, s72_36, s72_38, s72_40, s72_43, s72_44, s72_45, s72_48, s72_50, s72_53, s72_54, s72_56, s72_57, s72_58, s72_61, s72_63, s72_66, s72_68, s72_69, s72_70, s72_72, s72_74, s72_78, s72_80, s72_83, s72_84, s72_86, s72_87, s72_88, s72_90, s72_91, s72_92, s72_94, s72_95, s72_97, s72_100, s72_103, s72_105, s72_106, s72_109, s72_111, s72_112, s72_115, s72_116, s72_119, s72_121, s72_122, s72_123, s72_124, s72_125, s72_126, s72_127, s72_130, s72_132, s72_133, s72_134, s72_135, s72_136, s72_137, s72_138, s72_139, s72_142, s72_145, s72_148, s72_151, s72_152, s72_153, s72_156, s72_158, s72_161, s72_162, nI_le2, nI_lt2, nI_eq2, nI_lt0, nI_0le, nI_0lt, nI_le0, nI_eq0, nI_clamp, nI_add, bu_nI, bb_0, bb_1, rf_s, rf_n, tl_s, tl_n, am_th_some, if_true, if_false, sI_eq, uI_eq, and_self, true_and, and_true, not_false_eq_true, not_true_eq_false, Nat.reduceEqDiff, Nat.reduceLeDiff, Nat.reduceLT, Nat.reduceAdd, Nat.reduceMul, Nat.reduceSub, Nat.zero_add]
  exact g1
end
