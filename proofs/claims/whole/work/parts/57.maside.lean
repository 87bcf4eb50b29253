/-! The model: states put aside, FOOD moved, many TENS. -/
def ma_at (I : am_I) (dep : Nat) (P : Nat → Nat → Int32) : Prop := (∀ c, c < 25 → I 64 0 (102 * dep + c) = P 0 c ∧ I 64 0 (102 * dep + (25 + c)) = P 1 c ∧ I 64 0 (102 * dep + (50 + c)) = P 2 c ∧ I 64 0 (102 * dep + (75 + c)) = P 3 c) ∧ I 64 0 (102 * dep + 101) = P 4 1 ∧ I 64 0 (102 * dep + 100) = P 4 2
theorem ma_fr {S : Nat → Nat → Nat → Prop} {I J : am_I} {dep : Nat} {P : Nat → Nat → Int32} (h : ma_at I dep P) (hf : am_fr S I J) (hS : ∀ j, 102 * dep ≤ j → j < 102 * dep + 102 → ¬ S 64 0 j) : ma_at J dep P := by
  obtain ⟨h1, h2, h3⟩ := h
  refine ⟨fun c hc => ?_, (hf _ _ _ (hS _ (by omega) (by omega))).trans h2, (hf _ _ _ (hS _ (by omega) (by omega))).trans h3⟩
  obtain ⟨a0, a1, a2, a3⟩ := h1 c hc
  exact ⟨(hf _ _ _ (hS _ (by omega) (by omega))).trans a0, (hf _ _ _ (hS _ (by omega) (by omega))).trans a1, (hf _ _ _ (hS _ (by omega) (by omega))).trans a2, (hf _ _ _ (hS _ (by omega) (by omega))).trans a3⟩
def as_S (dep : Nat) : Nat → Nat → Nat → Prop := fun a _ j => a = 64 ∧ 102 * dep ≤ j ∧ j < 102 * dep + 102
/-- all but what the model's OVEN, shares, LAWS are -/
def mev_S : Nat → Nat → Nat → Prop := fun a _ j => ¬ (a = 56 ∨ a = 58 ∨ (43 ≤ a ∧ a ≤ 49) ∨ (a = 12 ∧ (j = 33 ∨ j = 30)))
def mT (T : pl_T) (n b : Nat) (R : am_R) (Q : am_Q) (I : am_I) : Prop := ∀ (d : Nat) (J : am_I) (m q : Nat) (P : Nat → Nat → Int32), am_fr mev_S I J → mm_at J P → pt_I n b m P → m < 2 ^ 29 → q ≤ 9 → ∃ K, am_cal (d + 8) 217 [.ref (am_mk 12 0), .int (nI q)] J R Q = some (some (.int (T (nI q) P).2), K, R, Q) ∧ am_fr mk_S J K ∧ mm_at K (T (nI q) P).1
theorem mT_fr {T : pl_T} {n b : Nat} {R : am_R} {Q : am_Q} {I J : am_I} (h : mT T n b R Q I) (hf : am_fr mev_S I J) : mT T n b R Q J := fun d K m q P hK => h d K m q P (fr_tr hf hK)
/-- where the model works apart -/
def ma_S (dep : Nat) : Nat → Nat → Nat → Prop := fun a _ j => (a = 60 ∧ j < 102) ∨ a = 62 ∨ a = 50 ∨ a = 51 ∨ (a = 64 ∧ 102 * dep ≤ j) ∨ (a = 12 ∧ j = 40)
theorem ma_ev {dep : Nat} : ∀ a b j, ma_S dep a b j → mev_S a b j := fun a b j h => by unfold ma_S at h; unfold mev_S; omega
theorem mkS_ma {dep : Nat} : ∀ a b j, mk_S a b j → ma_S dep a b j := fun a b j h => by unfold mk_S at h; unfold ma_S; omega
theorem mmS_ma {dep : Nat} : ∀ a b j, mm_S a b j → ma_S dep a b j := fun a b j h => by unfold mm_S at h; unfold ma_S; omega
theorem asS_ma {dep : Nat} : ∀ a b j, as_S dep a b j → ma_S dep a b j := fun a b j h => by unfold as_S at h; unfold ma_S; omega
theorem ma_mo {dep dep' : Nat} (h : dep ≤ dep') : ∀ a b j, ma_S dep' a b j → ma_S dep a b j := fun a b j v => by
  have : 102 * dep ≤ 102 * dep' := Nat.mul_le_mul_left _ h
  unfold ma_S at v ⊢
  omega
section
variable {d n b m u q : Nat} {I : am_I} {R : am_R} {Q : am_Q} {P : Nat → Nat → Int32} {T : pl_T}
theorem m_putAside (hr : mm_R R) (hP : mm_at I P) {dep : Nat} (hd : dep < 10) : ∃ J, am_cal d 238 [.ref (am_mk 12 0), .int (nI dep)] I R Q = some (none, J, R, Q) ∧ am_fr (as_S dep) I J ∧ ma_at J dep P ∧ mm_at J P := by
  have loop : ∃ J, am_ev d 238 2 [.ref (am_mk 12 0), .int (nI dep), .int (nI 0)] [] I R Q = some (none, J, R, Q) ∧ am_fr (as_S dep) I J ∧ ∀ k, k < 102 → J 64 0 (102 * dep + k) = I 60 0 k := by
    refine loop_inv (f := fun J c => am_ev d 238 2 [.ref (am_mk 12 0), .int (nI dep), .int (nI c)] [] J R Q) (Inv := fun c J => am_fr (as_S dep) I J ∧ ∀ k, k < c → J 64 0 (102 * dep + k) = I 60 0 k) (Post := fun y => ∃ J, y = some (none, J, R, Q) ∧ am_fr (as_S dep) I J ∧ ∀ k, k < 102 → J 64 0 (102 * dep + k) = I 60 0 k) (n := 102) ?_ ?_ (Nat.zero_le _) ⟨fr_rf, fun k hk => absurd hk (Nat.not_lt_zero _)⟩
    · intro c J hc ⟨f1, f2⟩
      left
      have h1 : ¬ 102 ≤ c := by omega
      have e : J 60 0 c = I 60 0 c := f1 _ _ _ (fun w => by unfold as_S at w; omega)
      have hb : am_bu (nI (102 * dep + c)) 1020 = True := bu_nI (by omega)
      refine ⟨_, by rw [s238_2]; simp (disch := first | omega | assumption) only [s238_0, s238_1, s238_3, s238_5, s238_8, s238_9, s238_12, s238_14, s238_15, s238_16, s238_17, s238_18, s238_19, s238_22, s238_23, s238_24, s238_25, s238_28, s238_31, nI_le2, nI_lt2, nI_eq2, nI_lt0, nI_0le, nI_0lt, nI_le0, nI_eq0, nI_clamp, nI_add, bu_nI, bb_0, bb_1, rf_s, rf_n, tl_s, tl_n, am_th_some, if_true, if_false, sI_eq, uI_eq, and_self, true_and, and_true, not_false_eq_true, not_true_eq_false, Nat.reduceEqDiff, Nat.reduceLeDiff, Nat.reduceLT, Nat.reduceAdd, Nat.reduceMul, Nat.reduceSub, Nat.zero_add, mr39 hr, mr31 hr, nI_mul, h1, hb, e] <;> rfl, fr_s f1 (by unfold as_S; omega), fun k hk => ?_⟩
      rw [sI_eq]
      by_cases q : k = c
      · subst q; rw [uI_eq]
      · rw [uI_ne (by omega), f2 k (by omega)]
    · intro J ⟨f1, f2⟩
      refine ⟨J, ?_, f1, f2⟩
      rw [s238_2]
      simp (disch := first | omega | assumption) only [s238_0, s238_1, s238_3, s238_5, s238_8, s238_9, s238_12, s238_14, s238_15, s238_16, s238_17, s238_18, s238_19, s238_22, s238_23, s238_24, s238_25, s238_28, s238_31, nI_le2, nI_lt2, nI_eq2, nI_lt0, nI_0le, nI_0lt, nI_le0, nI_eq0, nI_clamp, nI_add, bu_nI, bb_0, bb_1, rf_s, rf_n, tl_s, tl_n, am_th_some, if_true, if_false, sI_eq, uI_eq, and_self, true_and, and_true, not_false_eq_true, not_true_eq_false, Nat.reduceEqDiff, Nat.reduceLeDiff, Nat.reduceLT, Nat.reduceAdd, Nat.reduceMul, Nat.reduceSub, Nat.zero_add, Nat.le_refl]
  obtain ⟨J, g1, g2, g3⟩ := loop
  refine ⟨J, ?_, g2, ⟨fun c hc => ?_, ?_, ?_⟩, mm_fr hP g2 (fun j _ w => by unfold as_S at w; omega) (fun w => by unfold as_S at w; omega)⟩
  · rw [s238]
    simp (disch := first | omega | assumption) only [s238_0, s238_1, s238_3, s238_5, s238_8, s238_9, s238_12, s238_14, s238_15, s238_16, s238_17, s238_18, s238_19, s238_22, s238_23, s238_24, s238_25, s238_28, s238_31, nI_le2, nI_lt2, nI_eq2, nI_lt0, nI_0le, nI_0lt, nI_le0, nI_eq0, nI_clamp, nI_add, bu_nI, bb_0, bb_1, rf_s, rf_n, tl_s, tl_n, am_th_some, if_true, if_false, sI_eq, uI_eq, and_self, true_and, and_true, not_false_eq_true, not_true_eq_false, Nat.reduceEqDiff, Nat.reduceLeDiff, Nat.reduceLT, Nat.reduceAdd, Nat.reduceMul, Nat.reduceSub, Nat.zero_add]
    exact g1
  · obtain ⟨a0, a1, a2, a3⟩ := hP.1 c hc
    exact ⟨(g3 _ (by omega)).trans a0, (g3 _ (by omega)).trans a1, (g3 _ (by omega)).trans a2, (g3 _ (by omega)).trans a3⟩
  · exact (g3 _ (by decide)).trans hP.2.2.1
  · exact (g3 _ (by decide)).trans hP.2.2.2
theorem m_takeBack (hr : mm_R R) {dep : Nat} (hd : dep < 10) (hA : ma_at I dep P) (hc : I 12 0 30 = P 4 0) : ∃ J, am_cal d 239 [.ref (am_mk 12 0), .int (nI dep)] I R Q = some (none, J, R, Q) ∧ am_fr mm_S I J ∧ mm_at J P := by
  have loop : ∃ J, am_ev d 239 2 [.ref (am_mk 12 0), .int (nI dep), .int (nI 0)] [] I R Q = some (none, J, R, Q) ∧ am_fr mm_S I J ∧ ∀ k, k < 102 → J 60 0 k = I 64 0 (102 * dep + k) := by
    refine loop_inv (f := fun J c => am_ev d 239 2 [.ref (am_mk 12 0), .int (nI dep), .int (nI c)] [] J R Q) (Inv := fun c J => am_fr mm_S I J ∧ ∀ k, k < c → J 60 0 k = I 64 0 (102 * dep + k)) (Post := fun y => ∃ J, y = some (none, J, R, Q) ∧ am_fr mm_S I J ∧ ∀ k, k < 102 → J 60 0 k = I 64 0 (102 * dep + k)) (n := 102) ?_ ?_ (Nat.zero_le _) ⟨fr_rf, fun k hk => absurd hk (Nat.not_lt_zero _)⟩
    · intro c J hc ⟨f1, f2⟩
      left
      have h1 : ¬ 102 ≤ c := by omega
      have e : J 64 0 (102 * dep + c) = I 64 0 (102 * dep + c) := f1 _ _ _ (fun w => by unfold mm_S at w; omega)
      have hb : am_bu (nI (102 * dep + c)) 1020 = True := bu_nI (by omega)
      refine ⟨_, by rw [s239_2]; simp (disch := first | omega | assumption) only [s239_0, s239_1, s239_3, s239_5, s239_8, s239_9, s239_12, s239_13, s239_14, s239_17, s239_19, s239_20, s239_21, s239_22, s239_23, s239_24, s239_25, s239_28, s239_31, nI_le2, nI_lt2, nI_eq2, nI_lt0, nI_0le, nI_0lt, nI_le0, nI_eq0, nI_clamp, nI_add, bu_nI, bb_0, bb_1, rf_s, rf_n, tl_s, tl_n, am_th_some, if_true, if_false, sI_eq, uI_eq, and_self, true_and, and_true, not_false_eq_true, not_true_eq_false, Nat.reduceEqDiff, Nat.reduceLeDiff, Nat.reduceLT, Nat.reduceAdd, Nat.reduceMul, Nat.reduceSub, Nat.zero_add, mr39 hr, mr31 hr, nI_mul, h1, hb, e] <;> rfl, fr_s f1 (by unfold mm_S; omega), fun k hk => ?_⟩
      rw [sI_eq]
      by_cases q : k = c
      · subst q; rw [uI_eq]
      · rw [uI_ne (by omega), f2 k (by omega)]
    · intro J ⟨f1, f2⟩
      refine ⟨J, ?_, f1, f2⟩
      rw [s239_2]
      simp (disch := first | omega | assumption) only [s239_0, s239_1, s239_3, s239_5, s239_8, s239_9, s239_12, s239_13, s239_14, s239_17, s239_19, s239_20, s239_21, s239_22, s239_23, s239_24, s239_25, s239_28, s239_31, nI_le2, nI_lt2, nI_eq2, nI_lt0, nI_0le, nI_0lt, nI_le0, nI_eq0, nI_clamp, nI_add, bu_nI, bb_0, bb_1, rf_s, rf_n, tl_s, tl_n, am_th_some, if_true, if_false, sI_eq, uI_eq, and_self, true_and, and_true, not_false_eq_true, not_true_eq_false, Nat.reduceEqDiff, Nat.reduceLeDiff, Nat.reduceLT, Nat.reduceAdd, Nat.reduceMul, Nat.reduceSub, Nat.zero_add, Nat.le_refl]
  obtain ⟨J, g1, g2, g3⟩ := loop
  refine ⟨J, ?_, g2, fun c hc => ?_, ?_, ?_, ?_⟩
  · rw [s239]
    simp (disch := first | omega | assumption) only [s239_0, s239_1, s239_3, s239_5, s239_8, s239_9, s239_12, s239_13, s239_14, s239_17, s239_19, s239_20, s239_21, s239_22, s239_23, s239_24, s239_25, s239_28, s239_31, nI_le2, nI_lt2, nI_eq2, nI_lt0, nI_0le, nI_0lt, nI_le0, nI_eq0, nI_clamp, nI_add, bu_nI, bb_0, bb_1, rf_s, rf_n, tl_s, tl_n, am_th_some, if_true, if_false, sI_eq, uI_eq, and_self, true_and, and_true, not_false_eq_true, not_true_eq_false, Nat.reduceEqDiff, Nat.reduceLeDiff, Nat.reduceLT, Nat.reduceAdd, Nat.reduceMul, Nat.reduceSub, Nat.zero_add]
    exact g1
  · obtain ⟨a0, a1, a2, a3⟩ := hA.1 c hc
    exact ⟨(g3 _ (by omega)).trans a0, (g3 _ (by omega)).trans a1, (g3 _ (by omega)).trans a2, (g3 _ (by omega)).trans a3⟩
  · exact (g2 _ _ _ (fun w => by unfold mm_S at w; omega)).trans hc
  · exact (g3 _ (by decide)).trans hA.2.1
  · exact (g3 _ (by decide)).trans hA.2.2
theorem m_moveNow (hr : mm_R R) (hP : mm_at I P) {k o : Nat} (hk : k < 25) (ho : o < 25) (hne : ¬ k = o) : ∃ J, am_cal d 229 [.ref (am_mk 12 0), .int (nI k), .int (nI o)] I R Q = some (none, J, R, Q) ∧ am_fr mm_S I J ∧ mm_at J (sp_clear (sp_up (sp_up (sp_up (sp_up P 0 o (P 0 k)) 1 o (P 1 k)) 2 o (P 2 k)) 3 o (P 3 k)) k) := by
  let W : Nat → Nat → Int32 := fun a j => if j = k then nI 0 else if j = o then P a k else P a j
  have loop : ∃ J, am_ev d 229 2 [.ref (am_mk 12 0), .int (nI k), .int (nI o), .int (nI (25 * 0))] [] I R Q = some (none, J, R, Q) ∧ am_fr mm_S I J ∧ mm_at J (fun a j => if a < 4 then W a j else P a j) := by
    refine loop_inv (f := fun J c => am_ev d 229 2 [.ref (am_mk 12 0), .int (nI k), .int (nI o), .int (nI (25 * c))] [] J R Q) (Inv := fun c J => am_fr mm_S I J ∧ mm_at J (fun a j => if a < c then W a j else P a j)) (Post := fun y => ∃ J, y = some (none, J, R, Q) ∧ am_fr mm_S I J ∧ mm_at J (fun a j => if a < 4 then W a j else P a j)) (n := 4) ?_ ?_ (Nat.zero_le _) ⟨fr_rf, mm_congr hP fun a j _ => by rw [if_neg (Nat.not_lt_zero _)]⟩
    · intro c J hc ⟨f1, f2⟩
      left
      have h1 : ¬ 100 ≤ 25 * c := by omega
      have ek : J 60 0 (25 * c + k) = P c k := by
        obtain ⟨a0, a1, a2, a3⟩ := f2.1 k hk
        rcases (show c = 0 ∨ c = 1 ∨ c = 2 ∨ c = 3 by omega) with e | e | e | e <;> subst e
        · rw [Nat.mul_zero, Nat.zero_add]; exact a0.trans (if_neg (by decide))
        · exact a1.trans (if_neg (by decide))
        · exact a2.trans (if_neg (by decide))
        · exact a3.trans (if_neg (by decide))
      have m2 := mm_u (mm_u f2 c o (P c k) hc ho) c k (nI 0) hc hk
      rw [sI_eq, sI_sI] at m2
      refine ⟨_, by rw [s229_2]; simp (disch := first | omega | assumption) only [s229_0, s229_1, s229_3, s229_5, s229_8, s229_9, s229_12, s229_13, s229_14, s229_15, s229_16, s229_19, s229_20, s229_21, s229_22, s229_23, s229_24, s229_25, s229_28, s229_29, s229_30, s229_31, s229_32, s229_33, s229_36, s229_39, nI_le2, nI_lt2, nI_eq2, nI_lt0, nI_0le, nI_0lt, nI_le0, nI_eq0, nI_clamp, nI_add, bu_nI, bb_0, bb_1, rf_s, rf_n, tl_s, tl_n, am_th_some, if_true, if_false, sI_eq, uI_eq, and_self, true_and, and_true, not_false_eq_true, not_true_eq_false, Nat.reduceEqDiff, Nat.reduceLeDiff, Nat.reduceLT, Nat.reduceAdd, Nat.reduceMul, Nat.reduceSub, Nat.zero_add, mr31 hr, h1, ek, sI_sI, Nat.mul_add] <;> rfl, ?_, mm_congr m2 fun a j hj => ?_⟩
      · have := fr_s (fr_s f1 (a := 60) (b := 0) (k := 25 * c + o) (x := P c k) (by unfold mm_S; omega)) (a := 60) (b := 0) (k := 25 * c + k) (x := nI 0) (by unfold mm_S; omega)
        rw [sI_eq, sI_sI] at this
        exact this
      · by_cases e1 : a = c
        · subst e1
          rw [if_pos (Nat.lt_succ_self _)]
          show _ = if j = k then nI 0 else if j = o then P a k else P a j
          by_cases e2 : j = k
          · subst e2; rw [up_eq, if_pos rfl]
          · rw [up_nc e2, if_neg e2]
            by_cases e3 : j = o
            · subst e3; rw [up_eq, if_pos rfl]
            · rw [up_nc e3, if_neg e3, if_neg (Nat.lt_irrefl _)]
        · rw [up_na e1, up_na e1]
          by_cases e2 : a < c
          · rw [if_pos e2, if_pos (by omega)]
          · rw [if_neg e2, if_neg (by omega)]
    · intro J ⟨f1, f2⟩
      refine ⟨J, ?_, f1, f2⟩
      rw [s229_2]
      simp (disch := first | omega | assumption) only [s229_0, s229_1, s229_3, s229_5, s229_8, s229_9, s229_12, s229_13, s229_14, s229_15, s229_16, s229_19, s229_20, s229_21, s229_22, s229_23, s229_24, s229_25, s229_28, s229_29, s229_30, s229_31, s229_32, s229_33, s229_36, s229_39, nI_le2, nI_lt2, nI_eq2, nI_lt0, nI_0le, nI_0lt, nI_le0, nI_eq0, nI_clamp, nI_add, bu_nI, bb_0, bb_1, rf_s, rf_n, tl_s, tl_n, am_th_some, if_true, if_false, sI_eq, uI_eq, and_self, true_and, and_true, not_false_eq_true, not_true_eq_false, Nat.reduceEqDiff, Nat.reduceLeDiff, Nat.reduceLT, Nat.reduceAdd, Nat.reduceMul, Nat.reduceSub, Nat.zero_add, Nat.le_refl]
  obtain ⟨J, g1, g2, g3⟩ := loop
  refine ⟨J, ?_, g2, mm_congr g3 fun a j hj => ?_⟩
  · rw [s229]
    simp (disch := first | omega | assumption) only [s229_0, s229_1, s229_3, s229_5, s229_8, s229_9, s229_12, s229_13, s229_14, s229_15, s229_16, s229_19, s229_20, s229_21, s229_22, s229_23, s229_24, s229_25, s229_28, s229_29, s229_30, s229_31, s229_32, s229_33, s229_36, s229_39, nI_le2, nI_lt2, nI_eq2, nI_lt0, nI_0le, nI_0lt, nI_le0, nI_eq0, nI_clamp, nI_add, bu_nI, bb_0, bb_1, rf_s, rf_n, tl_s, tl_n, am_th_some, if_true, if_false, sI_eq, uI_eq, and_self, true_and, and_true, not_false_eq_true, not_true_eq_false, Nat.reduceEqDiff, Nat.reduceLeDiff, Nat.reduceLT, Nat.reduceAdd, Nat.reduceMul, Nat.reduceSub, Nat.zero_add]
    exact g1
  · unfold sp_clear
    by_cases e4 : a < 4
    · rw [if_pos e4]
      show (if j = k then nI 0 else if j = o then P a k else P a j) = _
      have hne' : ¬ o = k := fun e => hne e.symm
      by_cases e2 : j = k
      · subst e2
        rw [if_pos rfl]
        rcases (show a = 0 ∨ a = 1 ∨ a = 2 ∨ a = 3 by omega) with e | e | e | e <;> subst e
        · rw [up_na (by decide), up_na (by decide), up_na (by decide), up_eq]
        · rw [up_na (by decide), up_na (by decide), up_eq]
        · rw [up_na (by decide), up_eq]
        · rw [up_eq]
      · rw [if_neg e2, up_nc e2, up_nc e2, up_nc e2, up_nc e2]
        by_cases e3 : j = o
        · subst e3
          rw [if_pos rfl]
          rcases (show a = 0 ∨ a = 1 ∨ a = 2 ∨ a = 3 by omega) with e | e | e | e <;> subst e
          · rw [up_na (by decide), up_na (by decide), up_na (by decide), up_eq]
          · rw [up_na (by decide), up_na (by decide), up_eq]
          · rw [up_na (by decide), up_eq]
          · rw [up_eq]
        · rw [if_neg e3, up_nc e3, up_nc e3, up_nc e3, up_nc e3]
    · have e5 : ∀ b, b < 4 → ¬ a = b := fun b hb w => e4 (by omega)
      rw [if_neg e4, up_na (e5 3 (by decide)), up_na (e5 2 (by decide)), up_na (e5 1 (by decide)), up_na (e5 0 (by decide)), up_na (e5 3 (by decide)), up_na (e5 2 (by decide)), up_na (e5 1 (by decide)), up_na (e5 0 (by decide))]
theorem m_heatMany (hr : mm_R R) (hT : mT T n b R Q I) (hk : kT T n b) (hI : pt_I n b m P) (hm : m < 2 ^ 28) (hq : q ≤ 9) (hP : mm_at I P) {cnt : Nat} (hc : cnt ≤ 60) : ∃ J, am_cal (d + 9) 240 [.ref (am_mk 12 0), .int (nI cnt), .int (nI q)] I R Q = some (none, J, R, Q) ∧ am_fr mk_S I J ∧ mm_at J (sp_it T (nI q) P cnt) := by
  have loop : ∃ J, am_ev (d + 9) 240 2 [.ref (am_mk 12 0), .int (nI cnt), .int (nI q), .int (nI 0)] [] I R Q = some (none, J, R, Q) ∧ am_fr mk_S I J ∧ mm_at J (sp_it T (nI q) P cnt) := by
    refine loop_inv (f := fun J c => am_ev (d + 9) 240 2 [.ref (am_mk 12 0), .int (nI cnt), .int (nI q), .int (nI c)] [] J R Q) (Inv := fun c J => am_fr mk_S I J ∧ mm_at J (sp_it T (nI q) P c)) (Post := fun y => ∃ J, y = some (none, J, R, Q) ∧ am_fr mk_S I J ∧ mm_at J (sp_it T (nI q) P cnt)) (n := cnt) ?_ ?_ (Nat.zero_le _) ⟨fr_rf, hP⟩
    · intro c J hcn ⟨f1, f2⟩
      left
      have h1 : ¬ cnt ≤ c := by omega
      obtain ⟨K, g1, g2, g3⟩ := hT d J (m + c) q _ (fr_mo f1 (fun a b j w => by unfold mk_S at w; unfold mev_S; omega)) f2 (it_I hk hI c) (by omega) hq
      refine ⟨K, ?_, fr_tr f1 g2, g3⟩
      rw [s240_2]
      simp (disch := first | omega | assumption) only [s240_0, s240_1, s240_3, s240_4, s240_7, s240_8, s240_9, s240_12, s240_13, s240_16, s240_19, nI_le2, nI_lt2, nI_eq2, nI_lt0, nI_0le, nI_0lt, nI_le0, nI_eq0, nI_clamp, nI_add, bu_nI, bb_0, bb_1, rf_s, rf_n, tl_s, tl_n, am_th_some, if_true, if_false, sI_eq, uI_eq, and_self, true_and, and_true, not_false_eq_true, not_true_eq_false, Nat.reduceEqDiff, Nat.reduceLeDiff, Nat.reduceLT, Nat.reduceAdd, Nat.reduceMul, Nat.reduceSub, Nat.zero_add, h1, g1]
    · intro J ⟨f1, f2⟩
      refine ⟨J, ?_, f1, f2⟩
      rw [s240_2]
      simp (disch := first | omega | assumption) only [s240_0, s240_1, s240_3, s240_4, s240_7, s240_8, s240_9, s240_12, s240_13, s240_16, s240_19, nI_le2, nI_lt2, nI_eq2, nI_lt0, nI_0le, nI_0lt, nI_le0, nI_eq0, nI_clamp, nI_add, bu_nI, bb_0, bb_1, rf_s, rf_n, tl_s, tl_n, am_th_some, if_true, if_false, sI_eq, uI_eq, and_self, true_and, and_true, not_false_eq_true, not_true_eq_false, Nat.reduceEqDiff, Nat.reduceLeDiff, Nat.reduceLT, Nat.reduceAdd, Nat.reduceMul, Nat.reduceSub, Nat.zero_add, Nat.le_refl]
  obtain ⟨J, g1, g2⟩ := loop
  refine ⟨J, ?_, g2⟩
  rw [s240]
  simp (disch := first | omega | assumption) only [s240_0, s240_1, s240_3, s240_4, s240_7, s240_8, s240_9, s240_12, s240_13, s240_16, s240_19, nI_le2, nI_lt2, nI_eq2, nI_lt0, nI_0le, nI_0lt, nI_le0, nI_eq0, nI_clamp, nI_add, bu_nI, bb_0, bb_1, rf_s, rf_n, tl_s, tl_n, am_th_some, if_true, if_false, sI_eq, uI_eq, and_self, true_and, and_true, not_false_eq_true, not_true_eq_false, Nat.reduceEqDiff, Nat.reduceLeDiff, Nat.reduceLT, Nat.reduceAdd, Nat.reduceMul, Nat.reduceSub, Nat.zero_add]
  exact g1
theorem m_spanOf (hr : mm_R R) (hT : mT T n b R Q I) (hk : kT T n b) (hb : 1 ≤ b ∧ b ≤ 99) (hn2 : n ≤ 25) (hI : pt_I n b m P) (hm : m < 2 ^ 28) (hq : q ≤ 9) (hP : mm_at I P) : ∃ J, am_cal (d + 9) 241 [.ref (am_mk 12 0), .int (nI q)] I R Q = some (some (.int (sp_first (fun k => sp_safe (I 56 0 5) n (sp_it T (nI q) P k)) 61)), J, R, Q) ∧ am_fr (ma_S 0) I J ∧ mm_at J P := by
  obtain ⟨J0, a1, a2, a3, a4⟩ := m_putAside (d := d + 8) (Q := Q) hr hP (dep := 0) (by decide)
  have e56 : ∀ {J}, am_fr (ma_S 0) I J → J 56 0 5 = I 56 0 5 := fun {J} hf => hf _ _ _ (fun w => by unfold ma_S at w; omega)
  have fin : ∀ (J : am_I) (k : Nat), k ≤ 60 → am_fr (ma_S 0) I J → ma_at J 0 P → mm_at J (sp_it T (nI q) P k) → (∀ j, j < k → ¬ sp_safe (I 56 0 5) n (sp_it T (nI q) P j)) → (k = 60 ∨ sp_safe (I 56 0 5) n (sp_it T (nI q) P k)) → ∃ K, am_ev (d + 9) 241 32 [.ref (am_mk 12 0), .int (nI q), .int (nI k), am_J] [] J R Q = some (some (.int (sp_first (fun k => sp_safe (I 56 0 5) n (sp_it T (nI q) P k)) 61)), K, R, Q) ∧ am_fr (ma_S 0) I K ∧ mm_at K P := by
    intro J k hk60 f1 f2 f3 f4 f5
    have hIk := it_I (q := q) hk hI k
    have hs := m_isSafe (d := d + 3) (Q := Q) hb hr f3 hn2 hIk
    rw [e56 f1] at hs
    obtain ⟨K, g1, g2, g3⟩ := m_takeBack (d := d + 8) (R := R) (Q := Q) hr (by decide) f2 ((f3.2.1).trans (hIk.1.trans hI.1.symm))
    refine ⟨K, ?_, fr_x f1 g2 mmS_ma, g3⟩
    by_cases sf : sp_safe (I 56 0 5) n (sp_it T (nI q) P k)
    · rw [if_pos sf] at hs
      rw [first_yes (show k < 61 by omega) (by decide) f4 sf]
      simp (disch := first | omega | assumption) only [s241_0, s241_1, s241_2, s241_5, s241_6, s241_8, s241_10, s241_13, s241_14, s241_17, s241_20, s241_21, s241_22, s241_25, s241_26, s241_29, s241_32, s241_33, s241_36, s241_37, s241_38, s241_39, s241_42, s241_43, s241_46, s241_47, s241_50, s241_51, nI_le2, nI_lt2, nI_eq2, nI_lt0, nI_0le, nI_0lt, nI_le0, nI_eq0, nI_clamp, nI_add, bu_nI, bb_0, bb_1, rf_s, rf_n, tl_s, tl_n, am_th_some, if_true, if_false, sI_eq, uI_eq, and_self, true_and, and_true, not_false_eq_true, not_true_eq_false, Nat.reduceEqDiff, Nat.reduceLeDiff, Nat.reduceLT, Nat.reduceAdd, Nat.reduceMul, Nat.reduceSub, Nat.zero_add, hs, g1]
    · rw [if_neg sf] at hs
      obtain rfl : k = 60 := f5.resolve_right sf
      rw [first_no (fun j hj => (Nat.lt_succ_iff_lt_or_eq.mp hj).elim (f4 j) (fun e => by rw [e]; exact sf))]
      simp (disch := first | omega | assumption) only [s241_0, s241_1, s241_2, s241_5, s241_6, s241_8, s241_10, s241_13, s241_14, s241_17, s241_20, s241_21, s241_22, s241_25, s241_26, s241_29, s241_32, s241_33, s241_36, s241_37, s241_38, s241_39, s241_42, s241_43, s241_46, s241_47, s241_50, s241_51, nI_le2, nI_lt2, nI_eq2, nI_lt0, nI_0le, nI_0lt, nI_le0, nI_eq0, nI_clamp, nI_add, bu_nI, bb_0, bb_1, rf_s, rf_n, tl_s, tl_n, am_th_some, if_true, if_false, sI_eq, uI_eq, and_self, true_and, and_true, not_false_eq_true, not_true_eq_false, Nat.reduceEqDiff, Nat.reduceLeDiff, Nat.reduceLT, Nat.reduceAdd, Nat.reduceMul, Nat.reduceSub, Nat.zero_add, hs, g1]
  have loop : ∃ J, am_ev (d + 9) 241 7 [.ref (am_mk 12 0), .int (nI q), .int (nI 0), am_J] [] J0 R Q = some (some (.int (sp_first (fun k => sp_safe (I 56 0 5) n (sp_it T (nI q) P k)) 61)), J, R, Q) ∧ am_fr (ma_S 0) I J ∧ mm_at J P := by
    refine loop_inv (f := fun J c => am_ev (d + 9) 241 7 [.ref (am_mk 12 0), .int (nI q), .int (nI c), am_J] [] J R Q) (Inv := fun c J => am_fr (ma_S 0) I J ∧ ma_at J 0 P ∧ mm_at J (sp_it T (nI q) P c) ∧ ∀ j, j < c → ¬ sp_safe (I 56 0 5) n (sp_it T (nI q) P j)) (Post := fun y => ∃ J, y = some (some (.int (sp_first (fun k => sp_safe (I 56 0 5) n (sp_it T (nI q) P k)) 61)), J, R, Q) ∧ am_fr (ma_S 0) I J ∧ mm_at J P) (n := 60) ?_ ?_ (Nat.zero_le _) ⟨fr_mo a2 asS_ma, a3, a4, fun j hj => absurd hj (Nat.not_lt_zero _)⟩
    · intro c J hc ⟨f1, f2, f3, f4⟩
      have h1 : ¬ 60 ≤ c := by omega
      have hIk := it_I (q := q) hk hI c
      have hs := m_isSafe (d := d + 3) (Q := Q) hb hr f3 hn2 hIk
      rw [e56 f1] at hs
      by_cases sf : sp_safe (I 56 0 5) n (sp_it T (nI q) P c)
      · right
        rw [if_pos sf] at hs
        obtain ⟨K, g1, g2⟩ := fin J c (by omega) f1 f2 f3 f4 (Or.inr sf)
        refine ⟨K, ?_, g2⟩
        rw [s241_7]
        simp (disch := first | omega | assumption) only [s241_0, s241_1, s241_2, s241_5, s241_6, s241_8, s241_10, s241_13, s241_14, s241_17, s241_20, s241_21, s241_22, s241_25, s241_26, s241_29, s241_33, s241_36, s241_37, s241_38, s241_39, s241_42, s241_43, s241_46, s241_47, s241_50, s241_51, nI_le2, nI_lt2, nI_eq2, nI_lt0, nI_0le, nI_0lt, nI_le0, nI_eq0, nI_clamp, nI_add, bu_nI, bb_0, bb_1, rf_s, rf_n, tl_s, tl_n, am_th_some, if_true, if_false, sI_eq, uI_eq, and_self, true_and, and_true, not_false_eq_true, not_true_eq_false, Nat.reduceEqDiff, Nat.reduceLeDiff, Nat.reduceLT, Nat.reduceAdd, Nat.reduceMul, Nat.reduceSub, Nat.zero_add, h1, hs]
        exact g1
      · left
        rw [if_neg sf] at hs
        obtain ⟨K, g1, g2, g3⟩ := hT d J (m + c) q _ (fr_mo f1 ma_ev) f3 hIk (by omega) hq
        refine ⟨K, ?_, fr_x f1 g2 mkS_ma, ma_fr f2 g2 (fun j _ _ w => by unfold mk_S at w; omega), g3, fun j hj => (Nat.lt_succ_iff_lt_or_eq.mp hj).elim (f4 j) (fun e => by rw [e]; exact sf)⟩
        rw [s241_7]
        simp (disch := first | omega | assumption) only [s241_0, s241_1, s241_2, s241_5, s241_6, s241_8, s241_10, s241_13, s241_14, s241_17, s241_20, s241_21, s241_22, s241_25, s241_26, s241_29, s241_33, s241_36, s241_37, s241_38, s241_39, s241_42, s241_43, s241_46, s241_47, s241_50, s241_51, nI_le2, nI_lt2, nI_eq2, nI_lt0, nI_0le, nI_0lt, nI_le0, nI_eq0, nI_clamp, nI_add, bu_nI, bb_0, bb_1, rf_s, rf_n, tl_s, tl_n, am_th_some, if_true, if_false, sI_eq, uI_eq, and_self, true_and, and_true, not_false_eq_true, not_true_eq_false, Nat.reduceEqDiff, Nat.reduceLeDiff, Nat.reduceLT, Nat.reduceAdd, Nat.reduceMul, Nat.reduceSub, Nat.zero_add, h1, hs, g1]
    · intro J ⟨f1, f2, f3, f4⟩
      obtain ⟨K, g1, g2⟩ := fin J 60 (by omega) f1 f2 f3 f4 (Or.inl rfl)
      refine ⟨K, ?_, g2⟩
      rw [s241_7]
      simp (disch := first | omega | assumption) only [s241_0, s241_1, s241_2, s241_5, s241_6, s241_8, s241_10, s241_13, s241_14, s241_17, s241_20, s241_21, s241_22, s241_25, s241_26, s241_29, s241_33, s241_36, s241_37, s241_38, s241_39, s241_42, s241_43, s241_46, s241_47, s241_50, s241_51, nI_le2, nI_lt2, nI_eq2, nI_lt0, nI_0le, nI_0lt, nI_le0, nI_eq0, nI_clamp, nI_add, bu_nI, bb_0, bb_1, rf_s, rf_n, tl_s, tl_n, am_th_some, if_true, if_false, sI_eq, uI_eq, and_self, true_and, and_true, not_false_eq_true, not_true_eq_false, Nat.reduceEqDiff, Nat.reduceLeDiff, Nat.reduceLT, Nat.reduceAdd, Nat.reduceMul, Nat.reduceSub, Nat.zero_add, Nat.le_refl]
      exact g1
  obtain ⟨J, g1, g2⟩ := loop
  refine ⟨J, ?_, g2⟩
  rw [s241]
  simp (disch := first | omega | assumption) only [s241_0, s241_1, s241_2, s241_5, s241_6, s241_8, s241_10, s241_13, s241_14, s241_17, s241_20, s241_21, s241_22, s241_25, s241_26, s241_29, s241_32, s241_33, s241_36, s241_37, s241_38, s241_39, s241_42, s241_43, s241_46, s241_47, s241_50, s241_51, nI_le2, nI_lt2, nI_eq2, nI_lt0, nI_0le, nI_0lt, nI_le0, nI_eq0, nI_clamp, nI_add, bu_nI, bb_0, bb_1, rf_s, rf_n, tl_s, tl_n, am_th_some, if_true, if_false, sI_eq, uI_eq, and_self, true_and, and_true, not_false_eq_true, not_true_eq_false, Nat.reduceEqDiff, Nat.reduceLeDiff, Nat.reduceLT, Nat.reduceAdd, Nat.reduceMul, Nat.reduceSub, Nat.zero_add, a1]
  exact g1
end
