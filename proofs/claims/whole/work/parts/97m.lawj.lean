/-! LAW texts: both sides read alike. -/
def zj_K (L : Nat) (B : Nat → Nat) (N Mc : Nat) (ar : List Value) (Mm dp a : Nat) (b : Bool) (n : Nat) : Prop := ∃ (ok : Bool) (a' : Nat) (C : List Nat), zc_K L B N Mc (.ref (am_mk 4 0) :: .int (nI dp) :: ar) a ok a' C ∧ zm_K L B N Mm dp a ok a' C ∧ a ≤ a' ∧ a' ≤ L ∧ (ok = true → a + 1 ≤ a' ∧ C.length + a ≤ a' ∧ zh b n C)
def zj_W (L : Nat) (B : Nat → Nat) (N Mc : Nat) (ls : Nat → Value → List Value) (Mm dp a n : Nat) : Prop := ∃ (ok : Bool) (a' : Nat) (C : List Nat), zc_W L B N Mc 8 ls a ok a' C ∧ zm_W L B N Mm dp a ok a' C ∧ a ≤ a' ∧ a' ≤ L ∧ (ok = true → C.length + a ≤ a' ∧ zg false false n C)
def zj_A (L : Nat) (B : Nat → Nat) (N Mc pc Mm dp a n : Nat) : Prop := ∃ (ok : Bool) (a' : Nat) (C : List Nat), zc_W L B N Mc pc (zc_ln dp) a ok a' C ∧ zm_K L B N Mm dp a ok a' C ∧ a ≤ a' ∧ a' ≤ L ∧ (ok = true → C.length + a ≤ a' ∧ zg true true n C)
def zj_P (L : Nat) (B : Nat → Nat) (N dp a n : Nat) : Prop := ∃ (ok : Bool) (a' : Nat) (C : List Nat), zc_K L B N 40 [.ref (am_mk 4 0), .int (nI dp)] a ok a' C ∧ zm_K L B N 176 dp a ok a' C ∧ a ≤ a' ∧ a' ≤ L ∧ (ok = true → C.length + a ≤ a' ∧ zg false true n C)
def zj_T (L : Nat) (B : Nat → Nat) (N dp a n : Nat) : Prop := ∃ (ok : Bool) (a' : Nat) (C : List Nat), zc_K L B N 38 [.ref (am_mk 4 0), .int (nI dp), .int (nI 0)] a ok a' C ∧ zm_T L B N 177 dp a ok a' C ∧ a ≤ a' ∧ a' ≤ L ∧ (ok = true → a + 1 ≤ a' ∧ C.length + a ≤ a' ∧ zh true n C)
section
variable {L a dp N N' Mc pc Mm n a' : Nat} {B : Nat → Nat} {C : List Nat} {ok : Bool} {ar : List Value} {ls : Nat → Value → List Value}
theorem zcK_mo (hN : N ≤ N') (h : zc_K L B N Mc ar a ok a' C) : zc_K L B N' Mc ar a ok a' C := fun d I R Q C0 hd => h d I R Q C0 (by omega)
theorem zcW_mo (hN : N ≤ N') (h : zc_W L B N Mc pc ls a ok a' C) : zc_W L B N' Mc pc ls a ok a' C := fun d I R Q C0 i l hd => h d I R Q C0 i l (by omega)
theorem zmK_mo (hN : N ≤ N') (h : zm_K L B N Mm dp a ok a' C) : zm_K L B N' Mm dp a ok a' C := fun d I R Q n C0 hd => h d I R Q n C0 (by omega)
theorem zmW_mo (hN : N ≤ N') (h : zm_W L B N Mm dp a ok a' C) : zm_W L B N' Mm dp a ok a' C := fun d I R Q n C0 hd => h d I R Q n C0 (by omega)
theorem zmT_mo (hN : N ≤ N') (h : zm_T L B N Mm dp a ok a' C) : zm_T L B N' Mm dp a ok a' C := fun d I R Q n C0 hd => h d I R Q n C0 (by omega)
abbrev zj_atom (L : Nat) (B : Nat → Nat) (dp a : Nat) : Prop := zj_K L B ((8 * (6 - dp) + 4 + 0)) 43 [] 172 dp a false ((4 * (6 - dp) + 1))
abbrev zj_term (L : Nat) (B : Nat → Nat) (dp a : Nat) : Prop := zj_K L B ((8 * (6 - dp) + 4 + 1)) 42 [] 173 dp a false ((4 * (6 - dp) + 2))
abbrev zj_sum (L : Nat) (B : Nat → Nat) (dp a : Nat) : Prop := zj_K L B ((8 * (6 - dp) + 4 + 2)) 41 [] 174 dp a false ((4 * (6 - dp) + 3))
abbrev zj_unit (L : Nat) (B : Nat → Nat) (dp a : Nat) : Prop := zj_K L B ((8 * (6 - dp) + 4 + 4)) 39 [] 177 dp a true ((4 * (6 - dp) + 4))
abbrev zj_truth (L : Nat) (B : Nat → Nat) (dp a : Nat) : Prop := zj_T L B ((8 * (6 - dp) + 4 + 5)) dp a ((4 * (6 - dp) + 5))
abbrev zj_cond (L : Nat) (B : Nat → Nat) (dp a : Nat) : Prop := zj_K L B ((8 * (6 - dp) + 4 + 7)) 37 [.int (nI 0)] 180 dp a true ((4 * (6 - dp) + 6))
theorem dg_L {L : Nat} {B : Nat → Nat} {f v a : Nat} (ha : a ≤ L) : (sp_dg L B f v a).2 ≤ L := by
  induction f generalizing v a with
  | zero => exact ha
  | succ f ih =>
    rw [sp_dg]
    by_cases e : 48 ≤ sp_hr L B a ∧ sp_hr L B a ≤ 57
    · rw [if_pos e]; exact ih (hr_lt e.1)
    · rw [if_neg e]; exact ha
theorem zj_atom_of (hk : tp_ok L B) (haL : a ≤ L) (hd : dp ≤ 6) (ih : dp < 6 → ∀ a'', a < a'' → a'' ≤ L → zj_sum L B (dp + 1) a'') : zj_atom L B dp a := by
  have hs := sk_L (B := B) haL
  have hx := hr_le (a := sp_sk L B a) hk
  by_cases e : sp_hr L B (sp_sk L B a) = 91
  · have hlt := hr_ltx e (by decide)
    by_cases q : dp < 6
    · obtain ⟨ok1, a1, C1, c1, m1, p1, p2, p3⟩ := ih q (sp_sk L B a + 1) (by omega) (by omega)
      have hs1 := sk_L (B := B) p2
      cases ok1
      · exact ⟨false, a1, [], zcK_mo (by omega) (zc_aFail hk haL e q (by omega) c1), zmK_mo (by omega) (zm_aFail hk haL p2 p1 e q (by omega) m1), by omega, p2, fa_f⟩
      · obtain ⟨r1, r2, r3⟩ := p3 rfl
        by_cases e2 : sp_hr L B (sp_sk L B a1) = 93
        · have hlt2 := hr_ltx e2 (by decide)
          exact ⟨true, sp_sk L B a1 + 1, C1, zcK_mo (by omega) (zc_aClose hk haL p2 e q (by omega) c1 e2), zmK_mo (by omega) (zm_aClose hk haL p2 p1 e q (by omega) m1 e2), by omega, hlt2, fun _ => ⟨by omega, by omega, zh_mo (by omega) r3⟩⟩
        · exact ⟨false, sp_sk L B a1, [], zcK_mo (by omega) (zc_aOpen hk haL p2 e q (by omega) c1 e2), zmK_mo (by omega) (zm_aOpen hk r2 haL p2 p1 e q (by omega) m1 e2), by omega, hs1.2, fa_f⟩
    · obtain rfl : dp = 6 := by omega
      exact ⟨false, sp_sk L B a, [], zcK_mo (by omega) (zc_aDeep hk haL e (by omega) (by omega)), zmK_mo (by omega) (zm_aDeep hk haL e), hs.1, hs.2, fa_f⟩
  · by_cases e2 : sp_in 5 (sp_hr L B (sp_sk L B a))
    · have hlt := hr_in (by decide) e2
      exact ⟨true, sp_sk L B a + 1, _, zcK_mo (by omega) (zc_aLetter hk haL e e2), zmK_mo (by omega) (zm_aLetter hk haL e2), by omega, hlt, fun _ => ⟨by omega, by simp; omega, zh_mo (by omega) (zh_let (Nat.pos_of_ne_zero fun w => by rw [hr_0 hk] at w; exact w hlt) (by omega) ((zt_in _ (by omega)).mpr e2))⟩⟩
    · by_cases e3 : ((sp_dg L B 4 0 (sp_sk L B a)).2 = sp_sk L B a ∨ (48 ≤ sp_hr L B (sp_dg L B 4 0 (sp_sk L B a)).2 ∧ sp_hr L B (sp_dg L B 4 0 (sp_sk L B a)).2 ≤ 57))
      · exact ⟨false, _, [], zcK_mo (by omega) (zc_aBad hk haL e e2 e3), zmK_mo (by omega) (zm_aBad hk haL e e2 e3), by have := dg_ge (L := L) (B := B) 4 0 (sp_sk L B a); omega, dg_L hs.2, fa_f⟩
      · have hge := dg_ge (L := L) (B := B) 4 0 (sp_sk L B a)
        have hne : ¬ (sp_dg L B 4 0 (sp_sk L B a)).2 = sp_sk L B a := fun w => e3 (Or.inl w)
        exact ⟨true, _, _, zcK_mo (by omega) (zc_aNum hk haL e e2 e3), zmK_mo (by omega) (zm_aNum hk haL e3), by omega, dg_L hs.2, fun _ => ⟨by omega, by simp; omega, zh_mo (by omega) (zh_num (dg_lt 4 0 _))⟩⟩
theorem zj_tloop (hk : tp_ok L B) (hd : dp ≤ 6) : ∀ m a, L - a ≤ m → a ≤ L → (∀ a'', a < a'' → a'' ≤ L → zj_atom L B dp a'') → zj_W L B ((8 * (6 - dp) + 4 + 1)) 42 (zc_lt dp) 173 dp a ((4 * (6 - dp) + 2)) := by
  intro m
  induction m with
  | zero =>
    intro a hm haL ih
    have hs := sk_L (B := B) haL
    by_cases e : sp_in 4 (sp_hr L B (sp_sk L B a))
    · have := hr_in (by decide) e; omega
    · exact ⟨true, sp_sk L B a, [], zc_tEnd hk haL e (by omega), zmW_mo (by omega) (zm_tEnd hk haL e), hs.1, hs.2, fun _ => ⟨by simp; omega, zg_nil⟩⟩
  | succ m ihm =>
    intro a hm haL ih
    have hs := sk_L (B := B) haL
    have hx := hr_le (a := sp_sk L B a) hk
    by_cases e : sp_in 4 (sp_hr L B (sp_sk L B a))
    · have hlt := hr_in (by decide) e
      obtain ⟨ok1, a1, C1, c1, m1, p1, p2, p3⟩ := ih (sp_sk L B a + 1) (by omega) (by omega)
      cases ok1
      · exact ⟨false, a1, [], zc_tBad hk haL p2 e (by omega) c1, zm_tBad hk haL p2 p1 e (by omega) m1, by omega, p2, fa_f⟩
      · obtain ⟨r1, r2, r3⟩ := p3 rfl
        obtain ⟨ok2, a2, C2, c2, m2, q1, q2, q3⟩ := ihm a1 (by omega) p2 (fun a'' h1 h2 => ih a'' (by omega) h2)
        refine ⟨ok2, a2, _, zc_tGo hk haL p2 e (by omega) c1 p1 c2, zm_tGo hk haL p2 p1 r2 e (by omega) m1 m2, by omega, q2, fun w => ⟨?_, ?_⟩⟩
        · have := (q3 w).1
          rw [List.length_append, List.length_cons]
          omega
        · exact zg_step (b := false) (b2 := false) (by rcases zi_4.mp e with w | w <;> rw [w] <;> decide) r3 (fun l r _ _ => zv_arith (by rcases zi_4.mp e with w | w <;> rw [w] <;> decide) l r) (fun w => by rcases zi_4.mp e with v | v <;> omega) (by omega) (q3 w).2
    · exact ⟨true, sp_sk L B a, [], zc_tEnd hk haL e (by omega), zmW_mo (by omega) (zm_tEnd hk haL e), hs.1, hs.2, fun _ => ⟨by simp; omega, zg_nil⟩⟩
theorem zj_term_of (hk : tp_ok L B) (haL : a ≤ L) (hd : dp ≤ 6) (h0 : zj_atom L B dp a) (ih : ∀ a'', a < a'' → a'' ≤ L → zj_atom L B dp a'') : zj_term L B dp a := by
  obtain ⟨ok1, a1, C1, c1, m1, p1, p2, p3⟩ := h0
  cases ok1
  · exact ⟨false, a1, [], zc_tFail (by omega) c1, zm_tFail hk haL p2 (by omega) m1, p1, p2, fa_f⟩
  · obtain ⟨r1, r2, r3⟩ := p3 rfl
    obtain ⟨ok2, a2, C2, c2, m2, q1, q2, q3⟩ := zj_tloop hk hd _ a1 (Nat.le_refl _) p2 (fun a'' h1 h2 => ih a'' (by omega) h2)
    refine ⟨ok2, a2, _, zc_tAll (by omega) p1 c1 c2, zm_tAll hk haL p2 p1 r2 (by omega) m1 m2, by omega, q2, fun w => ⟨by omega, ?_, zh_zg (zh_mo (by omega) r3) (q3 w).2⟩⟩
    have := (q3 w).1
    rw [List.length_append]
    omega
theorem zj_sloop (hk : tp_ok L B) (hd : dp ≤ 6) : ∀ m a, L - a ≤ m → a ≤ L → (∀ a'', a < a'' → a'' ≤ L → zj_term L B dp a'') → zj_W L B ((8 * (6 - dp) + 4 + 2)) 41 (zc_ls dp) 174 dp a ((4 * (6 - dp) + 3)) := by
  intro m
  induction m with
  | zero =>
    intro a hm haL ih
    have hs := sk_L (B := B) haL
    by_cases e : sp_in 3 (sp_hr L B (sp_sk L B a))
    · have := hr_in (by decide) e; omega
    · exact ⟨true, sp_sk L B a, [], zc_sEnd hk haL e (by omega), zmW_mo (by omega) (zm_sEnd hk haL e), hs.1, hs.2, fun _ => ⟨by simp; omega, zg_nil⟩⟩
  | succ m ihm =>
    intro a hm haL ih
    have hs := sk_L (B := B) haL
    have hx := hr_le (a := sp_sk L B a) hk
    by_cases e : sp_in 3 (sp_hr L B (sp_sk L B a))
    · have hlt := hr_in (by decide) e
      obtain ⟨ok1, a1, C1, c1, m1, p1, p2, p3⟩ := ih (sp_sk L B a + 1) (by omega) (by omega)
      cases ok1
      · exact ⟨false, a1, [], zc_sBad hk haL p2 e (by omega) c1, zm_sBad hk haL p2 p1 e (by omega) m1, by omega, p2, fa_f⟩
      · obtain ⟨r1, r2, r3⟩ := p3 rfl
        obtain ⟨ok2, a2, C2, c2, m2, q1, q2, q3⟩ := ihm a1 (by omega) p2 (fun a'' h1 h2 => ih a'' (by omega) h2)
        refine ⟨ok2, a2, _, zc_sGo hk haL p2 e (by omega) c1 p1 c2, zm_sGo hk haL p2 p1 r2 e (by omega) m1 m2, by omega, q2, fun w => ⟨?_, ?_⟩⟩
        · have := (q3 w).1
          rw [List.length_append, List.length_cons]
          omega
        · exact zg_step (b := false) (b2 := false) (by rcases zi_3.mp e with w | w <;> rw [w] <;> decide) r3 (fun l r _ _ => zv_arith (by rcases zi_3.mp e with w | w <;> rw [w] <;> decide) l r) (fun w => by rcases zi_3.mp e with v | v <;> omega) (by omega) (q3 w).2
    · exact ⟨true, sp_sk L B a, [], zc_sEnd hk haL e (by omega), zmW_mo (by omega) (zm_sEnd hk haL e), hs.1, hs.2, fun _ => ⟨by simp; omega, zg_nil⟩⟩
theorem zj_sum_of (hk : tp_ok L B) (haL : a ≤ L) (hd : dp ≤ 6) (h0 : zj_term L B dp a) (ih : ∀ a'', a < a'' → a'' ≤ L → zj_term L B dp a'') : zj_sum L B dp a := by
  obtain ⟨ok1, a1, C1, c1, m1, p1, p2, p3⟩ := h0
  cases ok1
  · exact ⟨false, a1, [], zc_sFail (by omega) c1, zm_sFail hk haL p2 (by omega) m1, p1, p2, fa_f⟩
  · obtain ⟨r1, r2, r3⟩ := p3 rfl
    obtain ⟨ok2, a2, C2, c2, m2, q1, q2, q3⟩ := zj_sloop hk hd _ a1 (Nat.le_refl _) p2 (fun a'' h1 h2 => ih a'' (by omega) h2)
    refine ⟨ok2, a2, _, zc_sAll (by omega) p1 c1 c2, zm_sAll hk haL p2 p1 r2 (by omega) m1 m2, by omega, q2, fun w => ⟨by omega, ?_, zh_zg (zh_mo (by omega) r3) (q3 w).2⟩⟩
    have := (q3 w).1
    rw [List.length_append]
    omega
theorem zj_cmp_of (hk : tp_ok L B) (haL : a ≤ L) (hd : dp ≤ 6) (ih : ∀ a'', a < a'' → a'' ≤ L → zj_sum L B dp a'') : zj_P L B ((8 * (6 - dp) + 4 + 3)) dp a ((4 * (6 - dp) + 4)) := by
  have hs := sk_L (B := B) haL
  by_cases e : sp_in 2 (sp_hr L B (sp_sk L B a))
  · have hlt := hr_in (by decide) e
    obtain ⟨ok1, a1, C1, c1, m1, p1, p2, p3⟩ := ih (sp_sk L B a + 1) (by omega) (by omega)
    cases ok1
    · exact ⟨false, a1, _, zc_pAll hk haL p2 e (by omega) c1, zm_pAllf hk haL p2 p1 e (by omega) m1, by omega, p2, fa_f⟩
    · obtain ⟨r1, r2, r3⟩ := p3 rfl
      refine ⟨true, a1, _, zc_pAll hk haL p2 e (by omega) c1, zm_pAllt hk haL p2 p1 r2 e (by omega) m1, by omega, p2, fun w => ⟨?_, ?_⟩⟩
      · rw [List.length_append, List.length_singleton]; omega
      · exact zg_step (b := false) (b2 := true) (by rcases zi_2.mp e with w | w | w <;> rw [w] <;> decide) r3 (fun l r _ _ => zv_cmp (zi_2.mp e) l r) (fun w => by rcases zi_2.mp e with v | v | v <;> omega) (by omega) zg_nil
  · exact ⟨false, sp_sk L B a, [], zcK_mo (by omega) (zc_pNo hk haL e), zmK_mo (by omega) (zm_pNo hk haL e), hs.1, hs.2, fa_f⟩
theorem zj_unit_of (hk : tp_ok L B) (haL : a ≤ L) (hd : dp ≤ 6) (hs0 : ∀ a'', a ≤ a'' → a'' ≤ L → zj_sum L B dp a'') (ihu : dp < 6 → ∀ a'', a < a'' → a'' ≤ L → zj_unit L B (dp + 1) a'') (ihc : dp < 6 → ∀ a'', a < a'' → a'' ≤ L → zj_cond L B (dp + 1) a'') : zj_unit L B dp a := by
  have hs := sk_L (B := B) haL
  by_cases e3 : sp_hr L B (sp_sk L B a) = 33
  · have hlt := hr_ltx e3 (by decide)
    by_cases q : dp < 6
    · obtain ⟨ok1, a1, C1, c1, m1, p1, p2, p3⟩ := ihu q (sp_sk L B a + 1) (by omega) (by omega)
      cases ok1
      · exact ⟨false, a1, _, zcK_mo (by omega) (zc_uNot hk haL p2 e3 q (by omega) c1), zmK_mo (by omega) (zm_uNotf hk haL p2 p1 e3 q (by omega) m1), by omega, p2, fa_f⟩
      · obtain ⟨r1, r2, r3⟩ := p3 rfl
        exact ⟨true, a1, _, zcK_mo (by omega) (zc_uNot hk haL p2 e3 q (by omega) c1), zmK_mo (by omega) (zm_uNott hk haL p2 p1 r2 e3 q (by omega) m1), by omega, p2, fun _ => ⟨by omega, by rw [List.length_append, List.length_singleton]; omega, zh_mo (by omega) (zh_not r3)⟩⟩
    · obtain rfl : dp = 6 := by omega
      exact ⟨false, sp_sk L B a, [], zcK_mo (by omega) (zc_uDeepN hk haL e3 (by omega) (by omega)), zmK_mo (by omega) (zm_uDeepN hk haL e3), hs.1, hs.2, fa_f⟩
  · by_cases e4 : sp_hr L B (sp_sk L B a) = 40
    · have hlt := hr_ltx e4 (by decide)
      by_cases q : dp < 6
      · obtain ⟨ok1, a1, C1, c1, m1, p1, p2, p3⟩ := ihc q (sp_sk L B a + 1) (by omega) (by omega)
        have hs1 := sk_L (B := B) p2
        cases ok1
        · exact ⟨false, a1, [], zcK_mo (by omega) (zc_uFail hk haL p2 e4 q (by omega) c1), zmK_mo (by omega) (zm_uFail hk haL p2 p1 e4 q (by omega) m1), by omega, p2, fa_f⟩
        · obtain ⟨r1, r2, r3⟩ := p3 rfl
          by_cases e2 : sp_hr L B (sp_sk L B a1) = 41
          · have hlt2 := hr_ltx e2 (by decide)
            exact ⟨true, sp_sk L B a1 + 1, C1, zcK_mo (by omega) (zc_uClose hk haL p2 e4 q (by omega) c1 e2), zmK_mo (by omega) (zm_uClose hk haL p2 p1 e4 q (by omega) m1 e2), by omega, hlt2, fun _ => ⟨by omega, by omega, zh_mo (by omega) r3⟩⟩
          · exact ⟨false, sp_sk L B a1, [], zcK_mo (by omega) (zc_uOpen hk haL p2 e4 q (by omega) c1 e2), zmK_mo (by omega) (zm_uOpen hk haL p2 p1 e4 q (by omega) m1 r2 e2), by omega, hs1.2, fa_f⟩
      · obtain rfl : dp = 6 := by omega
        exact ⟨false, sp_sk L B a, [], zcK_mo (by omega) (zc_uDeepP hk haL e4 (by omega) (by omega)), zmK_mo (by omega) (zm_uDeepP hk haL e4), hs.1, hs.2, fa_f⟩
    · obtain ⟨ok1, a1, C1, c1, m1, p1, p2, p3⟩ := hs0 (sp_sk L B a) hs.1 hs.2
      cases ok1
      · exact ⟨false, a1, [], zcK_mo (by omega) (zc_uSumBad hk haL e3 e4 (by omega) c1), zmK_mo (by omega) (zm_uSumBad hk haL p2 e3 e4 (by omega) m1), by omega, p2, fa_f⟩
      · obtain ⟨r1, r2, r3⟩ := p3 rfl
        obtain ⟨ok2, a2, C2, c2, m2, q1, q2, q3⟩ := zj_cmp_of hk p2 hd (fun a'' h1 h2 => hs0 a'' (by omega) h2)
        refine ⟨ok2, a2, C1 ++ C2, zcK_mo (by omega) (zc_uCmp hk haL e3 e4 (by omega) (zcK_mo (by omega) c1) p1 c2), zmK_mo (by omega) (zm_uCmp hk haL p2 r2 e3 e4 (by omega) (zmK_mo (by omega) m1) m2), by omega, q2, fun w => ⟨by omega, ?_, zh_zg (zh_mo (by omega) r3) (q3 w).2⟩⟩
        have := (q3 w).1
        rw [List.length_append]
        omega
theorem zj_nloop (hk : tp_ok L B) (hd : dp ≤ 6) : ∀ m a, L - a ≤ m → a ≤ L → (∀ a'', a < a'' → a'' ≤ L → zj_unit L B dp a'') → zj_A L B ((8 * (6 - dp) + 4 + 5)) 38 21 178 dp a ((4 * (6 - dp) + 5)) := by
  intro m
  induction m with
  | zero =>
    intro a hm haL ih
    have hs := sk_L (B := B) haL
    by_cases e : sp_hr L B (sp_sk L B a) = 38
    · have := hr_ltx e (by decide); omega
    · exact ⟨true, sp_sk L B a, [], zc_nEnd hk haL e (by omega), zmK_mo (by omega) (zm_nEnd hk haL e), hs.1, hs.2, fun _ => ⟨by simp; omega, zg_nil⟩⟩
  | succ m ihm =>
    intro a hm haL ih
    have hs := sk_L (B := B) haL
    by_cases e : sp_hr L B (sp_sk L B a) = 38
    · have hlt := hr_ltx e (by decide)
      obtain ⟨ok1, a1, C1, c1, m1, p1, p2, p3⟩ := ih (sp_sk L B a + 1) (by omega) (by omega)
      cases ok1
      · exact ⟨false, a1, [], zc_nBad hk haL p2 e (by omega) c1, zm_nBad hk haL p2 p1 e (by omega) m1, by omega, p2, fa_f⟩
      · obtain ⟨r1, r2, r3⟩ := p3 rfl
        obtain ⟨ok2, a2, C2, c2, m2, q1, q2, q3⟩ := ihm a1 (by omega) p2 (fun a'' h1 h2 => ih a'' (by omega) h2)
        refine ⟨ok2, a2, _, zc_nGo hk haL p2 e (by omega) c1 p1 c2, zm_nGo hk haL p2 p1 r2 e (by omega) m1 m2, by omega, q2, fun w => ⟨?_, ?_⟩⟩
        · have := (q3 w).1
          rw [List.length_append, List.length_cons]
          omega
        · exact zg_step (o := 38) (b := true) (b2 := true) (by decide) r3 (fun l r hl hr => zv_and (by decide) hl hr) (fun _ => rfl) (by omega) (q3 w).2
    · exact ⟨true, sp_sk L B a, [], zc_nEnd hk haL e (by omega), zmK_mo (by omega) (zm_nEnd hk haL e), hs.1, hs.2, fun _ => ⟨by simp; omega, zg_nil⟩⟩
theorem zj_truth_of (hk : tp_ok L B) (haL : a ≤ L) (hd : dp ≤ 6) (h0 : zj_unit L B dp a) (ih : ∀ a'', a < a'' → a'' ≤ L → zj_unit L B dp a'') : zj_truth L B dp a := by
  obtain ⟨ok1, a1, C1, c1, m1, p1, p2, p3⟩ := h0
  cases ok1
  · exact ⟨false, a1, [], zc_r0Fail (by omega) c1, zmT_mo (by omega) (zm_TFail hk p2 m1), p1, p2, fa_f⟩
  · obtain ⟨r1, r2, r3⟩ := p3 rfl
    obtain ⟨ok2, a2, C2, c2, m2, q1, q2, q3⟩ := zj_nloop hk hd _ a1 (Nat.le_refl _) p2 (fun a'' h1 h2 => ih a'' (by omega) h2)
    refine ⟨ok2, a2, _, zc_r0All (by omega) p1 c1 c2, zm_TAll r2 (zmK_mo (by omega) m1) m2, by omega, q2, fun w => ⟨by omega, ?_, zh_zg (zh_mo (by omega) r3) (q3 w).2⟩⟩
    have := (q3 w).1
    rw [List.length_append]
    omega
theorem zj_oloop (hk : tp_ok L B) (hd : dp ≤ 6) : ∀ m a, L - a ≤ m → a ≤ L → (∀ a'', a < a'' → a'' ≤ L → zj_truth L B dp a'') → zj_A L B ((8 * (6 - dp) + 4 + 6)) 37 10 179 dp a ((4 * (6 - dp) + 6)) := by
  intro m
  induction m with
  | zero =>
    intro a hm haL ih
    have hs := sk_L (B := B) haL
    by_cases e : sp_hr L B (sp_sk L B a) = 124
    · have := hr_ltx e (by decide); omega
    · exact ⟨true, sp_sk L B a, [], zc_oEnd hk haL e (by omega), zmK_mo (by omega) (zm_oEnd hk haL e), hs.1, hs.2, fun _ => ⟨by simp; omega, zg_nil⟩⟩
  | succ m ihm =>
    intro a hm haL ih
    have hs := sk_L (B := B) haL
    by_cases e : sp_hr L B (sp_sk L B a) = 124
    · have hlt := hr_ltx e (by decide)
      obtain ⟨ok1, a1, C1, c1, m1, p1, p2, p3⟩ := ih (sp_sk L B a + 1) (by omega) (by omega)
      cases ok1
      · exact ⟨false, a1, [], zc_oBad hk haL p2 e (by omega) c1, zm_oBad hk haL p2 p1 e (by omega) m1, by omega, p2, fa_f⟩
      · obtain ⟨r1, r2, r3⟩ := p3 rfl
        obtain ⟨ok2, a2, C2, c2, m2, q1, q2, q3⟩ := ihm a1 (by omega) p2 (fun a'' h1 h2 => ih a'' (by omega) h2)
        refine ⟨ok2, a2, _, zc_oGo hk haL p2 e (by omega) c1 p1 c2, zm_oGo hk haL p2 p1 r2 e (by omega) m1 m2, by omega, q2, fun w => ⟨?_, ?_⟩⟩
        · have := (q3 w).1
          rw [List.length_append, List.length_cons]
          omega
        · exact zg_step (o := 124) (b := true) (b2 := true) (by decide) r3 (fun l r hl hr => zv_and (by decide) hl hr) (fun _ => rfl) (by omega) (q3 w).2
    · exact ⟨true, sp_sk L B a, [], zc_oEnd hk haL e (by omega), zmK_mo (by omega) (zm_oEnd hk haL e), hs.1, hs.2, fun _ => ⟨by simp; omega, zg_nil⟩⟩
theorem zj_cond_of (hk : tp_ok L B) (haL : a ≤ L) (hd : dp ≤ 6) (h0 : zj_truth L B dp a) (ih : ∀ a'', a < a'' → a'' ≤ L → zj_truth L B dp a'') : zj_cond L B dp a := by
  obtain ⟨ok1, a1, C1, c1, m1, p1, p2, p3⟩ := h0
  cases ok1
  · exact ⟨false, a1, [], zcK_mo (by omega) (zc_d0Fail (by omega) c1), zmK_mo (by omega) (zm_dFail hk p2 (by omega) m1), p1, p2, fa_f⟩
  · obtain ⟨r1, r2, r3⟩ := p3 rfl
    obtain ⟨ok2, a2, C2, c2, m2, q1, q2, q3⟩ := zj_oloop hk hd _ a1 (Nat.le_refl _) p2 (fun a'' h1 h2 => ih a'' (by omega) h2)
    refine ⟨ok2, a2, _, zcK_mo (by omega) (zc_d0All (by omega) p1 c1 c2), zmK_mo (by omega) (zm_dAll (N := (8 * (6 - dp) + 4 + 6)) (by omega) r2 (zmT_mo (by omega) m1) m2), by omega, q2, fun w => ⟨by omega, ?_, zh_zg (zh_mo (by omega) r3) (q3 w).2⟩⟩
    have := (q3 w).1
    rw [List.length_append]
    omega
theorem zj_all (hk : tp_ok L B) : ∀ m a, L - a < m → a ≤ L → ∀ dp, dp ≤ 6 → zj_atom L B dp a ∧ zj_term L B dp a ∧ zj_sum L B dp a ∧ zj_unit L B dp a ∧ zj_truth L B dp a ∧ zj_cond L B dp a := by
  intro m
  induction m with
  | zero => intro a h; omega
  | succ m ih =>
    intro a hm haL dp hd
    have up : ∀ a'', a < a'' → a'' ≤ L → ∀ dp, dp ≤ 6 → _ := fun a'' h1 h2 => ih a'' (by omega) h2
    have h1 : zj_atom L B dp a := zj_atom_of hk haL hd (fun w a'' h1 h2 => (up a'' h1 h2 (dp + 1) (by omega)).2.2.1)
    have h2 : zj_term L B dp a := zj_term_of hk haL hd h1 (fun a'' h1 h2 => (up a'' h1 h2 dp hd).1)
    have h3 : zj_sum L B dp a := zj_sum_of hk haL hd h2 (fun a'' h1 h2 => (up a'' h1 h2 dp hd).2.1)
    have h4 : zj_unit L B dp a := zj_unit_of hk haL hd (fun a'' h1 h2 => by
      by_cases e : a'' = a
      · rw [e]; exact h3
      · exact (up a'' (by omega) h2 dp hd).2.2.1) (fun w a'' h1 h2 => (up a'' h1 h2 (dp + 1) (by omega)).2.2.2.1) (fun w a'' h1 h2 => (up a'' h1 h2 (dp + 1) (by omega)).2.2.2.2.2)
    have h5 : zj_truth L B dp a := zj_truth_of hk haL hd h4 (fun a'' h1 h2 => (up a'' h1 h2 dp hd).2.2.2.1)
    have h6 : zj_cond L B dp a := zj_cond_of hk haL hd h5 (fun a'' h1 h2 => (up a'' h1 h2 dp hd).2.2.2.2.1)
    exact ⟨h1, h2, h3, h4, h5, h6⟩
end
