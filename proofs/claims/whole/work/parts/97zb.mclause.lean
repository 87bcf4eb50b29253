/-! LUNCH texts: a CLAUSE; the model. -/
def zd_m (I : am_I) (E : zE) : Prop := I 12 0 21 = nI E.2.2.1.length ∧ I 12 0 22 = nI E.2.2.2.1.length ∧ I 12 0 23 = nI E.2.2.2.2.length ∧ (∀ j, j < 6 → I 52 0 j = nI (E.2.1 j)) ∧ (∀ i (h : i < E.2.2.1.length) j, j < 4 → I 53 0 (4 * i + j) = nI (E.2.2.1[i] j)) ∧ (∀ i (h : i < E.2.2.2.1.length) j, j < 2 → I 54 0 (2 * i + j) = nI (E.2.2.2.1[i] j)) ∧ (∀ i (h : i < E.2.2.2.2.length) j, j < 2 → I 55 0 (2 * i + j) = nI (E.2.2.2.2[i] j))
def zct_S : Nat → Nat → Nat → Prop := fun a _ j => (a = 12 ∧ (j = 3 ∨ j = 4 ∨ j = 21 ∨ j = 22 ∨ j = 23)) ∨ a = 52 ∨ a = 53 ∨ a = 54 ∨ a = 55
/-- how many there may be at most, also when something is wrong -/
def zd_k (I : am_I) : Prop := (∃ k, k ≤ 12 ∧ I 12 0 21 = nI k) ∧ (∃ k, k ≤ 6 ∧ I 12 0 22 = nI k) ∧ ∃ k, k ≤ 6 ∧ I 12 0 23 = nI k
def zd_r (E : zE) (k : Nat) : Nat := if k = 0 then 0 else if k = 1 then 4 * E.2.2.1.length else if k = 2 then 2 * E.2.2.2.1.length else 2 * E.2.2.2.2.length
theorem zd_rl {E : zE} {k : Nat} (hk : k < 4) (h : zd_n E k < zX k) : zd_r E k + zM k ≤ zYl k := by
  rcases (show k = 0 ∨ k = 1 ∨ k = 2 ∨ k = 3 by omega) with rfl | rfl | rfl | rfl
  · exact Nat.le_refl _
  · have h : E.2.2.1.length < 12 := h
    show 4 * E.2.2.1.length + 4 ≤ 48
    omega
  · have h : E.2.2.2.1.length < 6 := h
    show 2 * E.2.2.2.1.length + 2 ≤ 12
    omega
  · have h : E.2.2.2.2.length < 6 := h
    show 2 * E.2.2.2.2.length + 2 ≤ 12
    omega
section
variable {d L a a' k r : Nat} {I : am_I} {R : am_R} {Q : am_Q} {B V V' : Nat → Nat} {E : zE} {ok : Bool}
theorem m_items (hr : mm_R R) (hk : tp_ok L B) (hk4 : k < 4) (haL : a ≤ L) (hrl : r + zM k ≤ zYl k) (ht : tm_at I L B) (ha : I 12 0 3 = nI a) (hw : I 12 0 4 = -nI 1) (hu : zui_m L B k a 0 (zu0 k) ok a' V') (hd : 8 ≤ d + 4) : ∃ J, am_cal (d + 4) 194 [.ref (am_mk 12 0), .int (nI (zC k)), .ref (am_mk (52 + k) 0), .int (nI r), .int (nI (zM k))] I R Q = some (none, J, R, Q) ∧ am_fr (zmi_S k r) I J ∧ (ok = true → zmi_at J L B a' k r V') ∧ (ok = false → zui_bad L B J a') := by
  obtain ⟨f1, f2, f3, f4⟩ := zM_F k hk4
  have y3 := (zY_ok k hk4).2.2
  have loop : ∃ J, am_ev (d + 4) 194 3 [.ref (am_mk 12 0), .int (nI (zC k)), .ref (am_mk (52 + k) 0), .int (nI r), .int (nI (zM k)), .int (nI 0), am_J] [] I R Q = am_ev (d + 4) 194 28 [.ref (am_mk 12 0), .int (nI (zC k)), .ref (am_mk (52 + k) 0), .int (nI r), .int (nI (zM k)), .int (nI (zM k)), am_J] [] J R Q ∧ am_fr (fun a _ i => a = 52 + k ∧ r ≤ i ∧ i < r + zM k) I J ∧ ∀ j, j < zM k → J (52 + k) 0 (r + j) = nI (zu0 k j) := by
    refine loop_inv (f := fun J c => am_ev (d + 4) 194 3 [.ref (am_mk 12 0), .int (nI (zC k)), .ref (am_mk (52 + k) 0), .int (nI r), .int (nI (zM k)), .int (nI c), am_J] [] J R Q) (Inv := fun c J => am_fr (fun a _ i => a = 52 + k ∧ r ≤ i ∧ i < r + zM k) I J ∧ ∀ j, j < c → J (52 + k) 0 (r + j) = nI (zu0 k j)) (Post := fun y => ∃ J, y = am_ev (d + 4) 194 28 [.ref (am_mk 12 0), .int (nI (zC k)), .ref (am_mk (52 + k) 0), .int (nI r), .int (nI (zM k)), .int (nI (zM k)), am_J] [] J R Q ∧ am_fr (fun a _ i => a = 52 + k ∧ r ≤ i ∧ i < r + zM k) I J ∧ ∀ j, j < zM k → J (52 + k) 0 (r + j) = nI (zu0 k j)) (n := zM k) ?_ ?_ (Nat.zero_le _) ⟨fr_rf, fun j hj => absurd hj (Nat.not_lt_zero _)⟩
    · intro c J hc ⟨f, g⟩
      left
      have n1 : ¬ zM k ≤ c := by omega
      have n2 : r + c < zYl k := by omega
      have gu := m_usual (d := d + 3) (I := J) (R := R) (Q := Q) hk4 hc
      obtain ⟨X, x, y, fx⟩ := wr J (52 + k) 0 (r + c) (nI (zUs (zF k + c)))
      refine ⟨X, ?_, fr_tr f (fr_mo fx fun a b j w => by omega), fun j hj => ?_⟩
      · rw [s194_3]
        simp (disch := first | omega | assumption) only [s194_0, s194_1, s194_5, s194_7, s194_10, s194_11, s194_12, s194_14, s194_15, s194_16, s194_18, s194_21, s194_22, s194_25, s194_29, s194_31, s194_32, s194_33, s194_36, s194_39, s194_41, s194_42, s194_45, s194_46, s194_49, s194_51, s194_52, s194_55, s194_57, s194_59, s194_62, s194_65, s194_67, s194_68, s194_70, s194_71, s194_72, s194_74, s194_75, s194_76, s194_79, s194_80, s194_81, s194_84, s194_85, s194_86, s194_88, s194_89, s194_90, s194_91, s194_93, s194_96, s194_97, s194_99, s194_102, s194_105, s194_106, s194_107, s194_110, s194_111, s194_114, s194_115, s194_116, s194_119, s194_122, s194_125, s194_126, s194_128, s194_131, nI_le2, nI_lt2, nI_eq2, nI_lt0, nI_0le, nI_0lt, nI_le0, nI_eq0, nI_clamp, nI_add, bu_nI, bb_0, bb_1, rf_s, rf_n, tl_s, tl_n, am_th_some, if_true, if_false, sI_eq, uI_eq, and_self, true_and, and_true, not_false_eq_true, not_true_eq_false, Nat.reduceEqDiff, Nat.reduceLeDiff, Nat.reduceLT, Nat.reduceAdd, Nat.reduceMul, Nat.reduceSub, Nat.zero_add, n1, gu, w194_21, hk4, n2, x]
      · by_cases q : j = c
        · rw [q]; exact y
        · rw [fx _ _ _ (by omega)]; exact g j (by omega)
    · intro J ⟨f, g⟩
      refine ⟨J, ?_, f, g⟩
      have n1 : zM k ≤ zM k := Nat.le_refl _
      rw [s194_3]
      simp (disch := first | omega | assumption) only [s194_0, s194_1, s194_5, s194_7, s194_10, s194_11, s194_12, s194_14, s194_15, s194_16, s194_18, s194_21, s194_22, s194_25, s194_29, s194_31, s194_32, s194_33, s194_36, s194_39, s194_41, s194_42, s194_45, s194_46, s194_49, s194_51, s194_52, s194_55, s194_57, s194_59, s194_62, s194_65, s194_67, s194_68, s194_70, s194_71, s194_72, s194_74, s194_75, s194_76, s194_79, s194_80, s194_81, s194_84, s194_85, s194_86, s194_88, s194_89, s194_90, s194_91, s194_93, s194_96, s194_97, s194_99, s194_102, s194_105, s194_106, s194_107, s194_110, s194_111, s194_114, s194_115, s194_116, s194_119, s194_122, s194_125, s194_126, s194_128, s194_131, nI_le2, nI_lt2, nI_eq2, nI_lt0, nI_0le, nI_0lt, nI_le0, nI_eq0, nI_clamp, nI_add, bu_nI, bb_0, bb_1, rf_s, rf_n, tl_s, tl_n, am_th_some, if_true, if_false, sI_eq, uI_eq, and_self, true_and, and_true, not_false_eq_true, not_true_eq_false, Nat.reduceEqDiff, Nat.reduceLeDiff, Nat.reduceLT, Nat.reduceAdd, Nat.reduceMul, Nat.reduceSub, Nat.zero_add, n1]
  obtain ⟨J, g, f, v⟩ := loop
  have tJ := tm_fr ht f (by omega) (fun j => by omega)
  have aJ : J 12 0 3 = nI a := (f _ _ _ (by omega)).trans ha
  have wJ : J 12 0 4 = -nI 1 := (f _ _ _ (by omega)).trans hw
  obtain ⟨J2, g2, f2', a2⟩ := m_look (d := d + 2) (Q := Q) hr hk tJ aJ haL
  have gi := m_itemOf (d := d + 3) (a := sp_sk L B a) (I := J2) (R := R) (Q := Q) hk hk4
  have h2 : zmi_at J2 L B (sp_sk L B a) k r (zu0 k) := ⟨tm_fr tJ f2' (fun w => by unfold tm_S at w; omega) (fun j w => by unfold tm_S at w; omega), a2, (f2' _ _ _ (fun w => by unfold tm_S at w; omega)).trans wJ, fun i hi => (f2' _ _ _ (fun w => by unfold tm_S at w; omega)).trans (v i hi)⟩
  obtain ⟨J3, g3, f3', o1, o2⟩ := hu (d + 4) J2 R Q r hd hr hrl h2
  refine ⟨J3, ?_, fr_tr (fr_tr (fr_mo f fun a b i w => Or.inr w) (fr_mo f2' fun a b i w => Or.inl ⟨w.1, Or.inl w.2⟩)) f3', o1, o2⟩
  rw [s194]
  simp (disch := first | omega | assumption) only [s194_0, s194_1, s194_5, s194_7, s194_10, s194_11, s194_12, s194_14, s194_15, s194_16, s194_18, s194_21, s194_22, s194_25, s194_28, s194_29, s194_31, s194_32, s194_33, s194_36, s194_39, s194_41, s194_42, s194_45, s194_46, s194_49, s194_51, s194_52, s194_55, s194_57, s194_59, s194_62, s194_65, s194_67, s194_68, s194_70, s194_71, s194_72, s194_74, s194_75, s194_76, s194_79, s194_80, s194_81, s194_84, s194_85, s194_86, s194_88, s194_89, s194_90, s194_91, s194_93, s194_96, s194_97, s194_99, s194_102, s194_105, s194_106, s194_107, s194_110, s194_111, s194_114, s194_115, s194_116, s194_119, s194_122, s194_125, s194_126, s194_128, s194_131, nI_le2, nI_lt2, nI_eq2, nI_lt0, nI_0le, nI_0lt, nI_le0, nI_eq0, nI_clamp, nI_add, bu_nI, bb_0, bb_1, rf_s, rf_n, tl_s, tl_n, am_th_some, if_true, if_false, sI_eq, uI_eq, and_self, true_and, and_true, not_false_eq_true, not_true_eq_false, Nat.reduceEqDiff, Nat.reduceLeDiff, Nat.reduceLT, Nat.reduceAdd, Nat.reduceMul, Nat.reduceSub, Nat.zero_add]
  refine g.trans ?_
  simp (disch := first | omega | assumption) only [s194_0, s194_1, s194_5, s194_7, s194_10, s194_11, s194_12, s194_14, s194_15, s194_16, s194_18, s194_21, s194_22, s194_25, s194_28, s194_29, s194_31, s194_32, s194_33, s194_36, s194_39, s194_42, s194_45, s194_46, s194_49, s194_51, s194_52, s194_55, s194_57, s194_59, s194_62, s194_65, s194_67, s194_68, s194_70, s194_71, s194_72, s194_74, s194_75, s194_76, s194_79, s194_80, s194_81, s194_84, s194_85, s194_86, s194_88, s194_89, s194_90, s194_91, s194_93, s194_96, s194_97, s194_99, s194_102, s194_105, s194_106, s194_107, s194_110, s194_111, s194_114, s194_115, s194_116, s194_119, s194_122, s194_125, s194_126, s194_128, s194_131, nI_le2, nI_lt2, nI_eq2, nI_lt0, nI_0le, nI_0lt, nI_le0, nI_eq0, nI_clamp, nI_add, bu_nI, bb_0, bb_1, rf_s, rf_n, tl_s, tl_n, am_th_some, if_true, if_false, sI_eq, uI_eq, and_self, true_and, and_true, not_false_eq_true, not_true_eq_false, Nat.reduceEqDiff, Nat.reduceLeDiff, Nat.reduceLT, Nat.reduceAdd, Nat.reduceMul, Nat.reduceSub, Nat.zero_add, g2, gi]
  exact g3
theorem e196_102 {l0 l1 : Value} {st : List Value} : am_ev d 196 11 [l0, l1] (.int (nI 102) :: st) I R Q = am_ev d 196 59 [l0, l1] st I R Q := s196_11c102
theorem e196_109 {l0 l1 : Value} {st : List Value} : am_ev d 196 11 [l0, l1] (.int (nI 109) :: st) I R Q = am_ev d 196 88 [l0, l1] st I R Q := s196_11c109
theorem e196_115 {l0 l1 : Value} {st : List Value} : am_ev d 196 11 [l0, l1] (.int (nI 115) :: st) I R Q = am_ev d 196 44 [l0, l1] st I R Q := s196_11c115
theorem e196_100 {l0 l1 : Value} {st : List Value} : am_ev d 196 11 [l0, l1] (.int (nI 100) :: st) I R Q = am_ev d 196 117 [l0, l1] st I R Q := s196_11d (by decide) (by decide) (by decide)
theorem zd_m_fr {Z : Nat → Nat → Nat → Prop} {J : am_I} (h : zd_m I E) (hf : am_fr Z I J) (h1 : ∀ j, (j = 21 ∨ j = 22 ∨ j = 23) → ¬ Z 12 0 j) (h2 : ∀ a j, 52 ≤ a → a ≤ 55 → ¬ Z a 0 j) : zd_m J E := by
  obtain ⟨m1, m2, m3, m4, m5, m6, m7⟩ := h
  exact ⟨(hf _ _ _ (h1 _ (by omega))).trans m1, (hf _ _ _ (h1 _ (by omega))).trans m2, (hf _ _ _ (h1 _ (by omega))).trans m3, fun j hj => (hf _ _ _ (h2 _ _ (by omega) (by omega))).trans (m4 j hj), fun i hi j hj => (hf _ _ _ (h2 _ _ (by omega) (by omega))).trans (m5 i hi j hj), fun i hi j hj => (hf _ _ _ (h2 _ _ (by omega) (by omega))).trans (m6 i hi j hj), fun i hi j hj => (hf _ _ _ (h2 _ _ (by omega) (by omega))).trans (m7 i hi j hj)⟩
theorem zd_k_of (h : zd_m I E) (hE : zd_ok E) : zd_k I := ⟨⟨_, hE.2.2.2.2.1, h.1⟩, ⟨_, hE.2.2.2.2.2.1, h.2.1⟩, ⟨_, hE.2.2.2.2.2.2, h.2.2.1⟩⟩
/-- one more stands behind those told -/
theorem sn_get {l : List (Nat → Nat)} {V : Nat → Nat} {J K : am_I} {x n m : Nat} (hold : ∀ i (h : i < l.length) j, j < n → J x 0 (m * i + j) = nI (l[i] j)) (hnew : ∀ j, j < n → K x 0 (m * l.length + j) = nI (V j)) (hfr : ∀ i j, i < l.length → j < n → K x 0 (m * i + j) = J x 0 (m * i + j)) : ∀ i (h : i < (l ++ [V]).length) j, j < n → K x 0 (m * i + j) = nI ((l ++ [V])[i] j) := by
  intro i hi j hj
  have hi2 : i < l.length + 1 := by rw [List.length_append, List.length_singleton] at hi; exact hi
  by_cases q : i = l.length
  · subst q
    rw [eV]; exact hnew j hj
  · rw [List.getElem_append_left (show i < l.length by omega), hfr i j (by omega) hj]
    exact hold i (by omega) j hj
theorem m_clauseText (hr : mm_R R) (hk : tp_ok L B) (hk4 : k < 4) (haL : a < L) (hn : zd_n E k < zX k) (hE : zd_ok E) (ht : tm_at I L B) (ha : I 12 0 3 = nI a) (hw : I 12 0 4 = -nI 1) (hm : zd_m I E) (hu : zui_m L B k (a + 1) 0 (zu0 k) ok a' V') (hd : 8 ≤ d + 4) : ∃ J, am_cal (d + 5) 196 [.ref (am_mk 12 0), .int (nI (zC k))] I R Q = some (none, J, R, Q) ∧ am_fr zct_S I J ∧ (ok = true → tm_at J L B ∧ J 12 0 3 = nI a' ∧ J 12 0 4 = -nI 1 ∧ zd_m J (zd_add E k V')) ∧ (ok = false → zui_bad L B J a' ∧ zd_k J) := by
  obtain ⟨X1, x1, y1, f1⟩ := wr I 12 0 3 (nI (a + 1))
  have ht1 := tm_fr ht f1 (by omega) (fun j => by omega)
  have hw1 : X1 12 0 4 = -nI 1 := (f1 _ _ _ (by omega)).trans hw
  have hm1 := zd_m_fr hm f1 (fun j _ => by omega) (fun a j _ _ => by omega)
  have hrl := zd_rl hk4 hn
  obtain ⟨J, g, f, o1, o2⟩ := m_items (d := d) (Q := Q) (r := zd_r E k) hr hk hk4 (show a + 1 ≤ L from haL) hrl ht1 y1 hw1 hu hd
  have r17 := mr17 hr
  have r18 := mr18 hr
  have r19 := mr19 hr
  have r20 := mr20 hr
  have fS : am_fr zct_S I J := fr_tr (fr_mo f1 fun a b j w => by unfold zct_S; omega) (fr_mo f fun a b j w => by unfold zct_S; unfold zmi_S at w; omega)
  have keep : ∀ x j, (x = 12 ∧ ¬ j = 3 ∧ ¬ j = 4) ∨ (52 ≤ x ∧ x ≤ 55 ∧ ¬ x = 52 + k) ∨ (x = 52 + k ∧ j < zd_r E k) → J x 0 j = X1 x 0 j := fun x j h => f _ _ _ (fun w => by unfold zmi_S at w; omega)
  obtain ⟨m1, m2, m3, m4, m5, m6, m7⟩ := hm1
  have k21 := (keep 12 21 (by omega)).trans m1
  have k22 := (keep 12 22 (by omega)).trans m2
  have k23 := (keep 12 23 (by omega)).trans m3
  have bnd : ∀ (X : am_I) (x : Nat), (x = 21 ∨ x = 22 ∨ x = 23) → ∀ v, am_fr (fun y z j => y = 12 ∧ z = 0 ∧ j = x) J X → X 12 0 x = v → zui_bad L B J a' → zui_bad L B X a' := fun X x hx v fX _ h => by
    rcases h with h | ⟨h1, h2, h3⟩
    · exact Or.inl ((fX _ _ _ (by omega)).trans h)
    · exact Or.inr ⟨(fX _ _ _ (by omega)).trans h1, (fX _ _ _ (by omega)).trans h2, h3⟩
  rcases (show k = 0 ∨ k = 1 ∨ k = 2 ∨ k = 3 by omega) with rfl | rfl | rfl | rfl
  · refine ⟨J, ?_, fS, fun w => ?_, fun w => ⟨o2 w, ⟨⟨_, hE.2.2.2.2.1, k21⟩, ⟨_, hE.2.2.2.2.2.1, k22⟩, ⟨_, hE.2.2.2.2.2.2, k23⟩⟩⟩⟩
    · have g : am_cal (d + 4) 194 [.ref (am_mk 12 0), .int (nI 115), .ref (am_mk 52 0), .int (nI 0), .int (nI 6)] X1 R Q = some (none, J, R, Q) := g
      show am_cal (d + 5) 196 [.ref (am_mk 12 0), .int (nI 115)] I R Q = _
      rw [s196]
      simp (disch := first | omega | assumption) only [s196_0, s196_1, s196_2, s196_5, s196_6, s196_7, s196_10, s196_11c102, s196_11c109, s196_11c115, s196_11d, s196_44, s196_45, s196_46, s196_47, s196_50, s196_51, s196_53, s196_56, s196_59, s196_60, s196_61, s196_62, s196_65, s196_66, s196_67, s196_70, s196_71, s196_72, s196_75, s196_76, s196_77, s196_80, s196_81, s196_82, s196_85, s196_88, s196_89, s196_90, s196_91, s196_94, s196_95, s196_96, s196_99, s196_100, s196_101, s196_104, s196_105, s196_106, s196_109, s196_110, s196_111, s196_114, s196_117, s196_118, s196_119, s196_120, s196_123, s196_124, s196_125, s196_128, s196_129, s196_130, s196_133, s196_134, s196_135, s196_138, s196_139, s196_140, s196_143, nI_le2, nI_lt2, nI_eq2, nI_lt0, nI_0le, nI_0lt, nI_le0, nI_eq0, nI_clamp, nI_add, bu_nI, bb_0, bb_1, rf_s, rf_n, tl_s, tl_n, am_th_some, if_true, if_false, sI_eq, uI_eq, and_self, true_and, and_true, not_false_eq_true, not_true_eq_false, Nat.reduceEqDiff, Nat.reduceLeDiff, Nat.reduceLT, Nat.reduceAdd, Nat.reduceMul, Nat.reduceSub, Nat.zero_add, ha, x1, e196_115, r17, g]
    · obtain ⟨z1, z2, z3, z4⟩ := o1 w
      refine ⟨z1, z2, z3, k21, k22, k23, fun j hj => ?_, fun i hi j hj => (keep 53 _ (by omega)).trans (m5 i hi j hj), fun i hi j hj => (keep 54 _ (by omega)).trans (m6 i hi j hj), fun i hi j hj => (keep 55 _ (by omega)).trans (m7 i hi j hj)⟩
      have := z4 j hj
      rwa [show zd_r E 0 + j = j from Nat.zero_add j] at this
  · have hn : E.2.2.1.length < 12 := hn
    obtain ⟨X2, x2, y2, f2⟩ := wr J 12 0 21 (nI (E.2.2.1.length + 1))
    have g : am_cal (d + 4) 194 [.ref (am_mk 12 0), .int (nI 102), .ref (am_mk 53 0), .int (nI (4 * E.2.2.1.length)), .int (nI 4)] X1 R Q = some (none, J, R, Q) := g
    refine ⟨X2, ?_, fr_tr fS (fr_mo f2 fun a b j w => by unfold zct_S; omega), fun w => ?_, fun w => ⟨bnd X2 21 (by omega) _ f2 y2 (o2 w), ?_⟩⟩
    · show am_cal (d + 5) 196 [.ref (am_mk 12 0), .int (nI 102)] I R Q = _
      rw [s196]
      simp (disch := first | omega | assumption) only [s196_0, s196_1, s196_2, s196_5, s196_6, s196_7, s196_10, s196_11c102, s196_11c109, s196_11c115, s196_11d, s196_44, s196_45, s196_46, s196_47, s196_50, s196_51, s196_53, s196_56, s196_59, s196_60, s196_61, s196_62, s196_65, s196_66, s196_67, s196_70, s196_71, s196_72, s196_75, s196_76, s196_77, s196_80, s196_81, s196_82, s196_85, s196_88, s196_89, s196_90, s196_91, s196_94, s196_95, s196_96, s196_99, s196_100, s196_101, s196_104, s196_105, s196_106, s196_109, s196_110, s196_111, s196_114, s196_117, s196_118, s196_119, s196_120, s196_123, s196_124, s196_125, s196_128, s196_129, s196_130, s196_133, s196_134, s196_135, s196_138, s196_139, s196_140, s196_143, nI_le2, nI_lt2, nI_eq2, nI_lt0, nI_0le, nI_0lt, nI_le0, nI_eq0, nI_clamp, nI_add, bu_nI, bb_0, bb_1, rf_s, rf_n, tl_s, tl_n, am_th_some, if_true, if_false, sI_eq, uI_eq, and_self, true_and, and_true, not_false_eq_true, not_true_eq_false, Nat.reduceEqDiff, Nat.reduceLeDiff, Nat.reduceLT, Nat.reduceAdd, Nat.reduceMul, Nat.reduceSub, Nat.zero_add, ha, x1, e196_102, r18, m1, nI_mul, g, k21, x2]
    · obtain ⟨z1, z2, z3, z4⟩ := o1 w
      exact ⟨tm_fr z1 f2 (by omega) (fun j => by omega), (f2 _ _ _ (by omega)).trans z2, (f2 _ _ _ (by omega)).trans z3, by show X2 12 0 21 = nI (E.2.2.1 ++ [V']).length; rw [List.length_append, List.length_singleton]; exact y2, (f2 _ _ _ (by omega)).trans k22, (f2 _ _ _ (by omega)).trans k23, fun j hj => (f2 _ _ _ (by omega)).trans ((keep 52 _ (by omega)).trans (m4 j hj)), sn_get (J := X1) m5 (fun j hj => (f2 _ _ _ (by omega)).trans (z4 j hj)) (fun i j hi hj => (f2 _ _ _ (by omega)).trans (keep 53 _ (Or.inr (Or.inr ⟨rfl, show 4 * i + j < 4 * E.2.2.1.length by omega⟩)))), fun i hi j hj => (f2 _ _ _ (by omega)).trans ((keep 54 _ (by omega)).trans (m6 i hi j hj)), fun i hi j hj => (f2 _ _ _ (by omega)).trans ((keep 55 _ (by omega)).trans (m7 i hi j hj))⟩
    · exact ⟨⟨_, hn, y2⟩, ⟨_, hE.2.2.2.2.2.1, (f2 _ _ _ (by omega)).trans k22⟩, ⟨_, hE.2.2.2.2.2.2, (f2 _ _ _ (by omega)).trans k23⟩⟩
  · have hn : E.2.2.2.1.length < 6 := hn
    obtain ⟨X2, x2, y2, f2⟩ := wr J 12 0 22 (nI (E.2.2.2.1.length + 1))
    have g : am_cal (d + 4) 194 [.ref (am_mk 12 0), .int (nI 109), .ref (am_mk 54 0), .int (nI (2 * E.2.2.2.1.length)), .int (nI 2)] X1 R Q = some (none, J, R, Q) := g
    refine ⟨X2, ?_, fr_tr fS (fr_mo f2 fun a b j w => by unfold zct_S; omega), fun w => ?_, fun w => ⟨bnd X2 22 (by omega) _ f2 y2 (o2 w), ?_⟩⟩
    · show am_cal (d + 5) 196 [.ref (am_mk 12 0), .int (nI 109)] I R Q = _
      rw [s196]
      simp (disch := first | omega | assumption) only [s196_0, s196_1, s196_2, s196_5, s196_6, s196_7, s196_10, s196_11c102, s196_11c109, s196_11c115, s196_11d, s196_44, s196_45, s196_46, s196_47, s196_50, s196_51, s196_53, s196_56, s196_59, s196_60, s196_61, s196_62, s196_65, s196_66, s196_67, s196_70, s196_71, s196_72, s196_75, s196_76, s196_77, s196_80, s196_81, s196_82, s196_85, s196_88, s196_89, s196_90, s196_91, s196_94, s196_95, s196_96, s196_99, s196_100, s196_101, s196_104, s196_105, s196_106, s196_109, s196_110, s196_111, s196_114, s196_117, s196_118, s196_119, s196_120, s196_123, s196_124, s196_125, s196_128, s196_129, s196_130, s196_133, s196_134, s196_135, s196_138, s196_139, s196_140, s196_143, nI_le2, nI_lt2, nI_eq2, nI_lt0, nI_0le, nI_0lt, nI_le0, nI_eq0, nI_clamp, nI_add, bu_nI, bb_0, bb_1, rf_s, rf_n, tl_s, tl_n, am_th_some, if_true, if_false, sI_eq, uI_eq, and_self, true_and, and_true, not_false_eq_true, not_true_eq_false, Nat.reduceEqDiff, Nat.reduceLeDiff, Nat.reduceLT, Nat.reduceAdd, Nat.reduceMul, Nat.reduceSub, Nat.zero_add, ha, x1, e196_109, r19, m2, nI_mul, g, k22, x2]
    · obtain ⟨z1, z2, z3, z4⟩ := o1 w
      exact ⟨tm_fr z1 f2 (by omega) (fun j => by omega), (f2 _ _ _ (by omega)).trans z2, (f2 _ _ _ (by omega)).trans z3, (f2 _ _ _ (by omega)).trans k21, by show X2 12 0 22 = nI (E.2.2.2.1 ++ [V']).length; rw [List.length_append, List.length_singleton]; exact y2, (f2 _ _ _ (by omega)).trans k23, fun j hj => (f2 _ _ _ (by omega)).trans ((keep 52 _ (by omega)).trans (m4 j hj)), fun i hi j hj => (f2 _ _ _ (by omega)).trans ((keep 53 _ (by omega)).trans (m5 i hi j hj)), sn_get (J := X1) m6 (fun j hj => (f2 _ _ _ (by omega)).trans (z4 j hj)) (fun i j hi hj => (f2 _ _ _ (by omega)).trans (keep 54 _ (Or.inr (Or.inr ⟨rfl, show 2 * i + j < 2 * E.2.2.2.1.length by omega⟩)))), fun i hi j hj => (f2 _ _ _ (by omega)).trans ((keep 55 _ (by omega)).trans (m7 i hi j hj))⟩
    · exact ⟨⟨_, hE.2.2.2.2.1, (f2 _ _ _ (by omega)).trans k21⟩, ⟨_, hn, y2⟩, ⟨_, hE.2.2.2.2.2.2, (f2 _ _ _ (by omega)).trans k23⟩⟩
  · have hn : E.2.2.2.2.length < 6 := hn
    obtain ⟨X2, x2, y2, f2⟩ := wr J 12 0 23 (nI (E.2.2.2.2.length + 1))
    have g : am_cal (d + 4) 194 [.ref (am_mk 12 0), .int (nI 100), .ref (am_mk 55 0), .int (nI (2 * E.2.2.2.2.length)), .int (nI 2)] X1 R Q = some (none, J, R, Q) := g
    refine ⟨X2, ?_, fr_tr fS (fr_mo f2 fun a b j w => by unfold zct_S; omega), fun w => ?_, fun w => ⟨bnd X2 23 (by omega) _ f2 y2 (o2 w), ?_⟩⟩
    · show am_cal (d + 5) 196 [.ref (am_mk 12 0), .int (nI 100)] I R Q = _
      rw [s196]
      simp (disch := first | omega | assumption) only [s196_0, s196_1, s196_2, s196_5, s196_6, s196_7, s196_10, s196_11c102, s196_11c109, s196_11c115, s196_11d, s196_44, s196_45, s196_46, s196_47, s196_50, s196_51, s196_53, s196_56, s196_59, s196_60, s196_61, s196_62, s196_65, s196_66, s196_67, s196_70, s196_71, s196_72, s196_75, s196_76, s196_77, s196_80, s196_81, s196_82, s196_85, s196_88, s196_89, s196_90, s196_91, s196_94, s196_95, s196_96, s196_99, s196_100, s196_101, s196_104, s196_105, s196_106, s196_109, s196_110, s196_111, s196_114, s196_117, s196_118, s196_119, s196_120, s196_123, s196_124, s196_125, s196_128, s196_129, s196_130, s196_133, s196_134, s196_135, s196_138, s196_139, s196_140, s196_143, nI_le2, nI_lt2, nI_eq2, nI_lt0, nI_0le, nI_0lt, nI_le0, nI_eq0, nI_clamp, nI_add, bu_nI, bb_0, bb_1, rf_s, rf_n, tl_s, tl_n, am_th_some, if_true, if_false, sI_eq, uI_eq, and_self, true_and, and_true, not_false_eq_true, not_true_eq_false, Nat.reduceEqDiff, Nat.reduceLeDiff, Nat.reduceLT, Nat.reduceAdd, Nat.reduceMul, Nat.reduceSub, Nat.zero_add, ha, x1, e196_100, r20, m3, nI_mul, g, k23, x2]
    · obtain ⟨z1, z2, z3, z4⟩ := o1 w
      exact ⟨tm_fr z1 f2 (by omega) (fun j => by omega), (f2 _ _ _ (by omega)).trans z2, (f2 _ _ _ (by omega)).trans z3, (f2 _ _ _ (by omega)).trans k21, (f2 _ _ _ (by omega)).trans k22, by show X2 12 0 23 = nI (E.2.2.2.2 ++ [V']).length; rw [List.length_append, List.length_singleton]; exact y2, fun j hj => (f2 _ _ _ (by omega)).trans ((keep 52 _ (by omega)).trans (m4 j hj)), fun i hi j hj => (f2 _ _ _ (by omega)).trans ((keep 53 _ (by omega)).trans (m5 i hi j hj)), fun i hi j hj => (f2 _ _ _ (by omega)).trans ((keep 54 _ (by omega)).trans (m6 i hi j hj)), sn_get (J := X1) m7 (fun j hj => (f2 _ _ _ (by omega)).trans (z4 j hj)) (fun i j hi hj => (f2 _ _ _ (by omega)).trans (keep 55 _ (Or.inr (Or.inr ⟨rfl, show 2 * i + j < 2 * E.2.2.2.2.length by omega⟩))))⟩
    · exact ⟨⟨_, hE.2.2.2.2.1, (f2 _ _ _ (by omega)).trans k21⟩, ⟨_, hE.2.2.2.2.2.1, (f2 _ _ _ (by omega)).trans k22⟩, ⟨_, hn, y2⟩⟩
end
