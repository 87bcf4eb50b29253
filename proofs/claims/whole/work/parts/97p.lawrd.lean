/-! LAW texts: CLAUSES alike; the whole text. -/
abbrev zl_K : Type := List (List Nat × List Nat)
def zl_cls (K : zl_K) : List Nat := K.flatMap (fun p => zl_cl p.1 p.2)
def zk_fl (K : zl_K) : List Nat := K.flatMap (fun p => p.1 ++ p.2)
/-- a LAW that can be reckoned -/
def zl_ok (K : zl_K) : Prop := ∀ p ∈ K, (p.1 = [] ∨ zh true 30 p.1) ∧ zh false 30 p.2
def zk_at (I : am_I) (n : Nat) (K : zl_K) : Prop := I 46 0 n = nI K.length ∧ ∀ i (h : i < K.length), I 47 0 (140 * n + i) = nI (zk_fl (K.take i)).length ∧ I 48 0 (140 * n + i) = nI ((zk_fl (K.take i)).length + K[i].1.length) ∧ I 49 0 (140 * n + i) = nI ((zk_fl (K.take i)).length + K[i].1.length + K[i].2.length)
def zr_S (n : Nat) : Nat → Nat → Nat → Prop := fun a b j => zm_S n a b j ∨ (a = 46 ∧ j = n) ∨ ((a = 47 ∨ a = 48 ∨ a = 49) ∧ 140 * n ≤ j ∧ j < 140 * n + 140)
def zc_X (L : Nat) (B : Nat → Nat) (a : Nat) (w : Int32) (K : zl_K) : Prop := ∀ (d : Nat) (I : am_I) (R : am_R) (Q : am_Q) (C0 : List Nat) (i : Nat) (l : Value), 70 ≤ d → zc_R R → zc_at I L B a C0 → C0.length ≤ a → 2 * i + 2 ≤ a → ∃ (J : am_I) (C1 : List Nat), am_ev d 35 45 [.ref (am_mk 4 0), l, .int (nI i)] [] I R Q = some (some (.int w), J, R, Q) ∧ am_fr zc_S I J ∧ lw_at J 0 (C1.map zl_c) ∧ C1.length ≤ 240 ∧ (w = -nI 1 → C1 = C0 ++ zl_cls K)
def zm_X (L : Nat) (B : Nat → Nat) (a : Nat) (w : Int32) (K : zl_K) : Prop := ∀ (d : Nat) (I : am_I) (R : am_R) (Q : am_Q) (n : Nat) (K0 : zl_K), 70 ≤ d → mm_R R → n < 5 → zm_at I L B n a 0 (zk_fl K0) → zk_at I n K0 → (zk_fl K0).length ≤ a → 2 * K0.length ≤ a → ∃ J : am_I, am_ev d 184 9 [.ref (am_mk 12 0), .int (nI n)] [] I R Q = some (some (.int w), J, R, Q) ∧ am_fr (zr_S n) I J ∧ (w = -nI 1 → zm_ml J n (zk_fl (K0 ++ K)) ∧ zk_at J n (K0 ++ K))
section
variable {L a a1 a2 a' n : Nat} {B : Nat → Nat} {C C' T U : List Nat} {w : Int32} {K : zl_K} {I J : am_I}
theorem zh_ne {b : Bool} {m : Nat} {C : List Nat} (h : zh b m C) (hm : m ≤ 60) : ¬ C = [] := fun e => by
  obtain ⟨y, -, h2⟩ := h (fun _ => nI 0) (fun j _ => zv_0)
  have := (h2 [] (by simpa using hm)).2
  rw [e] at this
  cases this
theorem zcK_f {N M : Nat} {ar : List Value} (h : zc_K L B N M ar a false a' C) : zc_K L B N M ar a false a' C' := fun d I R Q C0 h1 h2 h3 h4 => by
  obtain ⟨J, C1, g1, g2, g3, g4, -⟩ := h d I R Q C0 h1 h2 h3 h4
  exact ⟨J, C1, g1, g2, g3, g4, fun w => by cases w⟩
theorem zk_app (h : zk_at I n K) (hf : am_fr (zn_S n (140 * n + K.length)) I J) (h46 : J 46 0 n = nI (K.length + 1)) (h47 : J 47 0 (140 * n + K.length) = nI (zk_fl K).length) (h48 : J 48 0 (140 * n + K.length) = nI ((zk_fl K).length + T.length)) (h49 : J 49 0 (140 * n + K.length) = nI ((zk_fl K).length + T.length + U.length)) : zk_at J n (K ++ [(T, U)]) := by
  refine ⟨by rw [List.length_append]; exact h46, fun i hi => ?_⟩
  have hi2 : i < K.length + 1 := by rw [List.length_append] at hi; exact hi
  by_cases e : i = K.length
  · subst e
    rw [List.take_left, List.getElem_append_right (Nat.le_refl _)]
    simp only [Nat.sub_self, List.getElem_cons_zero]
    exact ⟨h47, h48, h49⟩
  · have hi3 : i < K.length := by omega
    rw [List.take_append_of_le_length (by omega), List.getElem_append_left hi3]
    have z : ∀ x, x = 47 ∨ x = 48 ∨ x = 49 → J x 0 (140 * n + i) = I x 0 (140 * n + i) := fun x hx => hf _ _ _ (fun w => by unfold zn_S zm_S at w; omega)
    rw [z 47 (by omega), z 48 (by omega), z 49 (by omega)]
    exact h.2 i hi3
theorem zk_fr (h : zk_at I n K) (hf : am_fr (zm_S n) I J) : zk_at J n K := by
  have z : ∀ x j, x = 46 ∨ x = 47 ∨ x = 48 ∨ x = 49 → J x 0 j = I x 0 j := fun x j hx => hf _ _ _ (fun w => by unfold zm_S at w; omega)
  refine ⟨(z 46 n (by omega)).trans h.1, fun i hi => ?_⟩
  rw [z 47 _ (by omega), z 48 _ (by omega), z 49 _ (by omega)]
  exact h.2 i hi
theorem zrS_n {k : Nat} (hk : k < 140) (h : am_fr (zn_S n (140 * n + k)) I J) : am_fr (zr_S n) I J := fr_mo h fun a b j w => by
  rcases w with w | w | w
  · exact Or.inl w
  · exact Or.inr (Or.inl w)
  · exact Or.inr (Or.inr (by omega))
theorem zrS_m (h : am_fr (zm_S n) I J) : am_fr (zr_S n) I J := fr_mo h fun a b j w => Or.inl w
theorem zj_clause (hk : tp_ok L B) (haL : a ≤ L) : ∃ (ok : Bool) (a' : Nat) (T U : List Nat), zc_K L B 64 36 [.ref (am_mk 4 0)] a ok a' (zl_cl T U) ∧ zm_C L B a ok a' T U ∧ a ≤ a' ∧ a' ≤ L ∧ (ok = true → a + 2 ≤ a' ∧ (zl_cl T U).length + a ≤ a' ∧ T.length + U.length + a ≤ a' ∧ (T = [] ∨ zh true 30 T) ∧ zh false 30 U) := by
  have hs := sk_L (B := B) haL
  have all := fun a'' (h : a'' ≤ L) => zj_all hk (L - a'' + 1) a'' (by omega) h 0 (by decide)
  by_cases e : sp_hr L B (sp_sk L B a) = 121
  · have hlt := hr_ltx e (by decide)
    have hs2 := sk_L (B := B) (a := sp_sk L B a + 1) (L := L) (by omega)
    by_cases e2 : sp_hr L B (sp_sk L B (sp_sk L B a + 1)) = 58
    · have hlt2 := hr_ltx e2 (by decide)
      -- behind the :
      have key : ∃ (ok : Bool) (a' : Nat) (T U : List Nat), zc_Q L B 26 [.ref (am_mk 4 0), am_J, am_J] (sp_sk L B (sp_sk L B a + 1) + 1) ok a' (if ok = true then zl_cl T U else []) ∧ zm_E L B (sp_sk L B (sp_sk L B a + 1) + 1) ok a' T U ∧ sp_sk L B (sp_sk L B a + 1) + 1 ≤ a' ∧ a' ≤ L ∧ (ok = true → (zl_cl T U).length + (sp_sk L B (sp_sk L B a + 1) + 1) ≤ a' + 1 ∧ T.length + U.length + (sp_sk L B (sp_sk L B a + 1) + 1) ≤ a' ∧ (T = [] ∨ zh true 30 T) ∧ zh false 30 U) := by
        generalize hb : sp_sk L B (sp_sk L B a + 1) + 1 = b
        have hbL : b ≤ L := by omega
        have hs3 := sk_L (B := B) hbL
        -- behind a CONDITION that stands
        have q : ∀ a1, b ≤ a1 → a1 ≤ L → ∃ (ok : Bool) (a' : Nat) (U : List Nat), zc_Q L B 84 [.ref (am_mk 4 0), .int (nI 1), .int (nI 1)] a1 ok a' (10063 :: (U ++ [10059])) ∧ zm_Q L B (nI 1) a1 ok a' U ∧ a1 ≤ a' ∧ a' ≤ L ∧ (ok = true → U.length + 1 + a1 ≤ a' ∧ zh false 30 U) := by
          intro a1 h1 h2
          have hs4 := sk_L (B := B) h2
          by_cases e4 : sp_hr L B (sp_sk L B a1) = 63
          · have hlt4 := hr_ltx e4 (by decide)
            obtain ⟨ok2, a2, U, c2, m2, p1, p2, p3⟩ := (all (sp_sk L B a1 + 1) (by omega)).2.2.1
            refine ⟨ok2, a2, U, zc_qAll hk h2 p2 e4 p1 (zcK_mo (by decide) c2), zm_qAll hk h2 p2 p1 e4 (zmK_mo (by decide) m2), by omega, p2, fun w => ?_⟩
            obtain ⟨r1, r2, r3⟩ := p3 w
            exact ⟨by omega, zh_mo (by decide) r3⟩
          · refine ⟨false, sp_sk L B a1, [], ?_, zm_qNo hk h2 e4, hs4.1, hs4.2, fa_f⟩
            intro d I R Q C0 k1 k2 k3 k4
            obtain ⟨J, C1, g1, g2, g3, g4, -⟩ := zc_qNo hk h2 e4 d I R Q C0 k1 k2 k3 k4
            exact ⟨J, C1, g1, g2, g3, g4, fun w => by cases w⟩
        by_cases e3 : sp_in 1 (sp_hr L B (sp_sk L B b))
        · obtain ⟨ok1, a1, T, c1, m1, p1, p2, p3⟩ := (all (sp_sk L B b) hs3.2).2.2.2.2.2
          cases ok1
          · exact ⟨false, a1, [], [], zc_eCond hk hbL p1 e3 (C1 := []) (C' := []) (zcK_f (zcK_mo (by decide) c1)) (zc_q0 hk p2) (fun w => by cases w), zm_eCond (ok1 := false) (T := []) hk hbL p2 p1 (fun w => by cases w) e3 (fun d I R Q n C0 k1 k2 k3 k4 k5 => by
              obtain ⟨J, C1, g1, g2, g3, g4⟩ := m1 d I R Q n C0 (by omega) k2 k3 k4 k5
              exact ⟨J, C1, g1, g2, fa_f, g4⟩) (fun w => by cases w) (fun _ => ⟨rfl, rfl⟩), by omega, p2, fa_f⟩
          · obtain ⟨r1, r2, r3⟩ := p3 rfl
            obtain ⟨ok2, a2, U, c2, m2, t1, t2, t3⟩ := q a1 (by omega) p2
            have hT := zh_ne r3 (by decide)
            have ec : zl_cl T U = T ++ 10063 :: (U ++ [10059]) := by rw [zl_cl, if_neg hT]; simp
            refine ⟨ok2, a2, T, U, ?_, zm_eCond hk hbL p2 p1 (fun _ => r2) e3 (zmK_mo (by decide) m1) (fun _ => m2) (fun w => by cases w), by omega, t2, fun w => ?_⟩
            · have := zc_eCond (ok1 := true) hk hbL p1 e3 (zcK_mo (by decide) c1) c2 (fun _ => rfl)
              intro d I R Q C0 k1 k2 k3 k4
              obtain ⟨J, C1, g1, g2, g3, g4, g5⟩ := this d I R Q C0 k1 k2 k3 k4
              exact ⟨J, C1, g1, g2, g3, g4, fun w => by rw [g5 w, if_pos w, ec]⟩
            · obtain ⟨z1, z2⟩ := t3 w
              refine ⟨?_, by omega, Or.inr (zh_mo (by decide) r3), z2⟩
              rw [ec, List.length_append, List.length_cons, List.length_append, List.length_singleton]
              omega
        · obtain ⟨ok1, a1, U, c1, m1, p1, p2, p3⟩ := (all (sp_sk L B b) hs3.2).2.2.1
          have hs4 := sk_L (B := B) p2
          cases ok1
          · exact ⟨false, a1, [], [], zc_eSumBad hk hbL p1 e3 (zcK_mo (by decide) c1) (zc_q0 hk p2), zm_eSumBad hk hbL p2 e3 (zmK_mo (by decide) m1), by omega, p2, fa_f⟩
          · obtain ⟨r1, r2, r3⟩ := p3 rfl
            by_cases e4 : sp_in 2 (sp_hr L B (sp_sk L B a1))
            · obtain ⟨ok2, a2, D, c2, m2, t1, t2, t3⟩ := zj_D1 (B := B) hk hs4.2
              cases ok2
              · refine ⟨false, a2, [], [], ?_, ?_, by omega, t2, fa_f⟩
                · have := zc_eCmp (ok2 := false) (ok' := false) (C' := []) hk hbL p2 p1 t1 e3 (zcK_mo (by decide) c1) e4 c2 (zc_q0 hk t2) (fun w => by cases w)
                  intro d I R Q C0 k1 k2 k3 k4
                  obtain ⟨J, C1, g1, g2, g3, g4, g5⟩ := this d I R Q C0 k1 k2 k3 k4
                  exact ⟨J, C1, g1, g2, g3, g4, fun w => by cases w⟩
                · have := zm_eCmp (ok2 := false) (ok' := false) (a' := a2) (U := []) hk hbL p2 t2 r2 (fun w => by cases w) e3 (zmK_mo (by decide) m1) e4 m2 (fun w => by cases w) (fun _ => ⟨rfl, rfl⟩)
                  intro d I R Q n kk C0 k1 k2 k3 k4 k5 k6 k7
                  obtain ⟨J, g1, g2, g3, g4⟩ := this d I R Q n kk C0 k1 k2 k3 k4 k5 k6 k7
                  exact ⟨J, g1, g2, fa_f, g4⟩
              · obtain ⟨s1, s2⟩ := t3 rfl
                obtain ⟨ok3, a3, U3, c3, m3, v1, v2, v3⟩ := q a2 (by omega) t2
                have hTD : zh true 30 (U ++ D) := zh_zg (zh_mo (by decide) r3) s2
                have hT := zh_ne hTD (by decide)
                have ec : zl_cl (U ++ D) U3 = U ++ D ++ 10063 :: (U3 ++ [10059]) := by rw [zl_cl, if_neg hT]; simp
                refine ⟨ok3, a3, U ++ D, U3, ?_, zm_eCmp hk hbL p2 t2 r2 (fun _ => s1) e3 (zmK_mo (by decide) m1) e4 m2 (fun _ => m3) (fun w => by cases w), by omega, v2, fun w => ?_⟩
                · have := zc_eCmp (ok2 := true) hk hbL p2 p1 t1 e3 (zcK_mo (by decide) c1) e4 c2 c3 (fun _ => rfl)
                  intro d I R Q C0 k1 k2 k3 k4
                  obtain ⟨J, C1, g1, g2, g3, g4, g5⟩ := this d I R Q C0 k1 k2 k3 k4
                  exact ⟨J, C1, g1, g2, g3, g4, fun w => by rw [g5 w, if_pos w, ec]⟩
                · obtain ⟨z1, z2⟩ := v3 w
                  refine ⟨?_, by rw [List.length_append]; omega, Or.inr hTD, z2⟩
                  rw [ec, List.length_append, List.length_append, List.length_cons, List.length_append, List.length_singleton]
                  omega
            · refine ⟨true, sp_sk L B a1, [], U, ?_, zm_eSum hk hbL p2 r2 e3 (zmK_mo (by decide) m1) e4, by omega, hs4.2, fun _ => ⟨?_, ?_, Or.inl rfl, zh_mo (by decide) r3⟩⟩
              · have := zc_eSum hk hbL p2 p1 e3 (zcK_mo (by decide) c1) e4 (zc_q5 hk hs4.2)
                rw [if_pos rfl, zl_cl, if_pos rfl]
                exact this
              · rw [zl_cl, if_pos rfl, List.nil_append, List.length_append, List.length_singleton]
                omega
              · simp; omega
      obtain ⟨ok, a', T, U, c, m, p1, p2, p3⟩ := key
      refine ⟨ok, a', T, U, ?_, zm_yAll hk haL e e2 m, by omega, p2, fun w => ?_⟩
      · have := zc_yAll hk haL e e2 c
        cases ok
        · exact zcK_f this
        · rw [if_pos rfl] at this
          exact this
      · obtain ⟨z1, z2, z3⟩ := p3 w
        exact ⟨by omega, by omega, by omega, z3⟩
    · exact ⟨false, _, [], [], zcK_f (zc_yB hk haL e e2), zm_yB hk haL e e2, by omega, hs2.2, fa_f⟩
  · exact ⟨false, _, [], [], zcK_f (zc_yA hk haL e), zm_yA hk haL e, hs.1, hs.2, fa_f⟩
end
