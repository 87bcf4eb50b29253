/-! LUNCH texts: what was told; a CLAUSE is taken; the class. -/
abbrev zE : Type := Bool × (Nat → Nat) × List (Nat → Nat) × List (Nat → Nat) × List (Nat → Nat)
def zd_P (F : List (Nat → Nat)) : Nat → Nat → Nat := F.foldl (fun P f a c => if c = f 0 ∧ a < 3 then f (a + 1) else P a c) (fun _ _ => 0)
def zd_sh (M : List (Nat → Nat)) : Nat → Nat := M.foldl (fun S m c => if c = m 0 then m 1 else S c) (fun _ => 10)
def zd_l (F : List (Nat → Nat)) : List Nat := F.map (fun f => f 0)
def zd_in (k : Nat) (V : Nat → Nat) : Prop := ∀ j, j < zM k → zLo (zF k + j) ≤ V j ∧ V j ≤ zHi (zF k + j)
def zd_ok (E : zE) : Prop := zd_in 0 E.2.1 ∧ (∀ f ∈ E.2.2.1, zd_in 1 f) ∧ (∀ f ∈ E.2.2.2.1, zd_in 2 f) ∧ (∀ f ∈ E.2.2.2.2, zd_in 3 f) ∧ E.2.2.1.length ≤ 12 ∧ E.2.2.2.1.length ≤ 6 ∧ E.2.2.2.2.length ≤ 6
def zd_n (E : zE) (k : Nat) : Nat := if k = 0 then (if E.1 = true then 1 else 0) else if k = 1 then E.2.2.1.length else if k = 2 then E.2.2.2.1.length else E.2.2.2.2.length
def zd_add (E : zE) (k : Nat) (V : Nat → Nat) : zE := if k = 0 then (true, V, E.2.2) else if k = 1 then (E.1, E.2.1, E.2.2.1 ++ [V], E.2.2.2) else if k = 2 then (E.1, E.2.1, E.2.2.1, E.2.2.2.1 ++ [V], E.2.2.2.2) else (E.1, E.2.1, E.2.2.1, E.2.2.2.1, E.2.2.2.2 ++ [V])
def zd_o (I : am_I) (E : zE) : Prop := ∀ k, k < 4 → I 23 0 k = nI (zd_n E k)
/-- what the class has of it: oven, plate, places, dishes; are two in one CELL; the furthest CELL -/
def zd_ov (I : am_I) (u : Nat) (V : Nat → Nat) : Prop := ∀ j, j < 6 → I 14 u j = nI (V j)
def zd_f (I : am_I) (u : Nat) (F : List (Nat → Nat)) : Prop := ∀ c, c < 25 → I 19 u c = nI (zd_P F 0 c) ∧ I 20 u c = nI (zd_P F 1 c) ∧ I 21 u c = nI (zd_P F 2 c) ∧ I 22 u c = nI 0
def zd_s (I : am_I) (u : Nat) (M : List (Nat → Nat)) : Prop := ∀ c, c < 25 → I 15 u c = nI (zd_sh M c) ∧ I 26 0 c = if c ∈ zd_l M then nI 1 else nI 0
def zd_d (I : am_I) (u : Nat) (D : List (Nat → Nat)) : Prop := I 6 u 5 = nI D.length ∧ ∀ i (h : i < D.length), I 17 u i = nI (D[i] 0) ∧ I 18 u i = nI (D[i] 1)
def zd_w (I : am_I) (F M : List (Nat → Nat)) : Prop := (I 7 0 6 = if (zd_l F).Nodup ∧ (zd_l M).Nodup then nI 0 else nI 1) ∧ ∃ x, I 7 0 7 = nI x ∧ x < 25 ∧ (∀ c, c ∈ zd_l F ∨ c ∈ zd_l M → c ≤ x) ∧ (x = 0 ∨ x ∈ zd_l F ∨ x ∈ zd_l M)
def zd_c (I : am_I) (u : Nat) (E : zE) : Prop := zd_ov I u E.2.1 ∧ zd_f I u E.2.2.1 ∧ zd_s I u E.2.2.2.1 ∧ zd_d I u E.2.2.2.2 ∧ zd_w I E.2.2.1 E.2.2.2.1
def zt_S (u : Nat) : Nat → Nat → Nat → Prop := fun a b j => ((a = 14 ∨ a = 15 ∨ a = 17 ∨ a = 18 ∨ a = 19 ∨ a = 20 ∨ a = 21) ∧ b = u) ∨ a = 26 ∨ (a = 7 ∧ (j = 6 ∨ j = 7)) ∨ (a = 6 ∧ b = u ∧ j = 5)
theorem P_app {F : List (Nat → Nat)} {f : Nat → Nat} : zd_P (F ++ [f]) = fun a c => if c = f 0 ∧ a < 3 then f (a + 1) else zd_P F a c := by rw [zd_P, List.foldl_append]; rfl
theorem sh_app {M : List (Nat → Nat)} {m : Nat → Nat} : zd_sh (M ++ [m]) = fun c => if c = m 0 then m 1 else zd_sh M c := by rw [zd_sh, List.foldl_append]; rfl
theorem l_app {F : List (Nat → Nat)} {f : Nat → Nat} : zd_l (F ++ [f]) = zd_l F ++ [f 0] := by rw [zd_l, List.map_append]; rfl
theorem snoc_ind {α : Type} {P : List α → Prop} (h0 : P []) (h1 : ∀ l a, P l → P (l ++ [a])) : ∀ l, P l := by
  intro l
  rw [← List.reverse_reverse l]
  induction l.reverse with
  | nil => exact h0
  | cons a l ih => rw [List.reverse_cons]; exact h1 _ _ ih
theorem nd_app {l : List Nat} {c : Nat} : (l ++ [c]).Nodup ↔ l.Nodup ∧ ¬ c ∈ l := by
  rw [List.nodup_append]
  constructor
  · intro ⟨h1, _, h3⟩
    exact ⟨h1, fun h => h3 c h c (List.mem_singleton.mpr rfl) rfl⟩
  · intro ⟨h1, h2⟩
    refine ⟨h1, by simp, fun a ha b hb e => ?_⟩
    rw [List.mem_singleton.mp hb] at e
    rw [e] at ha
    exact h2 ha
/-- there is FOOD in just the CELLS told -/
theorem P_pos {c : Nat} : ∀ F : List (Nat → Nat), (∀ f ∈ F, zd_in 1 f) → (0 < zd_P F 0 c ↔ c ∈ zd_l F) ∧ zd_P F 0 c ≤ 9 ∧ zd_P F 1 c ≤ 99 ∧ zd_P F 2 c ≤ 49 ∧ (zd_P F 0 c = 0 → zd_P F 1 c = 0 ∧ zd_P F 2 c = 0) := by
  refine snoc_ind (fun _ => ?_) (fun F f ih hF => ?_)
  · exact ⟨⟨fun w => absurd w (Nat.lt_irrefl 0), fun w => by cases w⟩, Nat.zero_le _, Nat.zero_le _, Nat.zero_le _, fun _ => ⟨rfl, rfl⟩⟩
  · obtain ⟨h1, h2, h3, h4, h5⟩ := ih fun g hg => hF g (List.mem_append_left _ hg)
    have hf := hF f (List.mem_append_right _ (List.mem_singleton.mpr rfl))
    have f1 := hf 1 (by decide)
    have f2 := hf 2 (by decide)
    have f3 := hf 3 (by decide)
    have f1 : 1 ≤ f 1 ∧ f 1 ≤ 9 := f1
    have f2 : 0 ≤ f 2 ∧ f 2 ≤ 99 := f2
    have f3 : 0 ≤ f 3 ∧ f 3 ≤ 49 := f3
    rw [P_app, l_app]
    dsimp only
    by_cases e : c = f 0
    · rw [if_pos ⟨e, by decide⟩, if_pos ⟨e, by decide⟩, if_pos ⟨e, by decide⟩]
      refine ⟨⟨fun _ => by rw [e]; exact List.mem_append_right _ (List.mem_singleton.mpr rfl), fun _ => f1.1⟩, f1.2, f2.2, f3.2, fun w => ?_⟩
      have w : f 1 = 0 := w
      omega
    · rw [if_neg (fun w => e w.1), if_neg (fun w => e w.1), if_neg (fun w => e w.1)]
      refine ⟨⟨fun w => List.mem_append_left _ (h1.mp w), fun w => h1.mpr ?_⟩, h2, h3, h4, h5⟩
      rcases List.mem_append.mp w with w | w
      · exact w
      · exact absurd (List.mem_singleton.mp w) e
/-- one place is written -/
theorem wr (I : am_I) (a b k : Nat) (v : Int32) : ∃ X, am_sI I a b (am_uI (I a b) k v) = X ∧ X a b k = v ∧ am_fr (fun y z j => y = a ∧ z = b ∧ j = k) I X := ⟨_, rfl, by rw [sI_eq, uI_eq], fr_s fr_rf ⟨rfl, rfl, rfl⟩⟩
section
variable {d u : Nat} {I : am_I} {R : am_R} {Q : am_Q} {V : Nat → Nat} {E : zE} {F M D : List (Nat → Nat)}
theorem c_takeFood (hr : ze_R R u) (hV : zd_in 1 V) (hF : ∀ f ∈ F, zd_in 1 f) (hf : zd_f I u F) (hw : zd_w I F M) : ∃ J, am_cal d 65 [.ref (am_mk 7 0), .int (nI (V 0)), .int (nI (V 1)), .int (nI (V 2)), .int (nI (V 3))] I R Q = some (none, J, R, Q) ∧ am_fr (fun a b j => ((a = 19 ∨ a = 20 ∨ a = 21) ∧ b = u) ∨ (a = 7 ∧ b = 0 ∧ (j = 6 ∨ j = 7))) I J ∧ zd_f J u (F ++ [V]) ∧ zd_w J (F ++ [V]) M := by
  obtain ⟨-, r0, r1, r2, r3, r4, r5, q0, q1, q2, q3, q4, q6, p0, p1, p2, p3⟩ := hr
  have v0 : 0 ≤ V 0 ∧ V 0 ≤ 24 := hV 0 (by decide)
  have v1 : 1 ≤ V 1 ∧ V 1 ≤ 9 := hV 1 (by decide)
  have v2 : 0 ≤ V 2 ∧ V 2 ≤ 99 := hV 2 (by decide)
  have v3 : 0 ≤ V 3 ∧ V 3 ≤ 49 := hV 3 (by decide)
  obtain ⟨w6, x, w7, x25, xa, xb⟩ := hw
  have hc := hf (V 0) (by omega)
  have pp := P_pos (c := V 0) F hF
  have hc0 := hc.1
  have e25 : V 0 < 25 := by omega
  have hne : ((nI 1 : Int32) = 0) = False := by decide
  obtain ⟨X1, x1, y1, f1⟩ := wr I 7 0 6 (if (zd_l (F ++ [V])).Nodup ∧ (zd_l M).Nodup then nI 0 else nI 1)
  have a7 : X1 7 0 7 = nI x := (f1 _ _ _ (by omega)).trans w7
  obtain ⟨X2, x2, y2, f2⟩ := wr X1 7 0 7 (nI (if x < V 0 then V 0 else x))
  obtain ⟨X3, x3, y3, f3⟩ := wr X2 19 u (V 0) (nI (V 1))
  obtain ⟨X4, x4, y4, f4⟩ := wr X3 20 u (V 0) (nI (V 2))
  obtain ⟨X5, x5, y5, f5⟩ := wr X4 21 u (V 0) (nI (V 3))
  have hx2 : (if x < V 0 then nI (V 0) else nI x) = nI (if x < V 0 then V 0 else x) := by
    by_cases q : x < V 0
    · rw [if_pos q, if_pos q]
    · rw [if_neg q, if_neg q]
  refine ⟨X5, ?_, ?_, fun c hc25 => ?_, ?_⟩
  · rw [s65]
    by_cases hN : (zd_l F).Nodup ∧ (zd_l M).Nodup
    · rw [if_pos hN] at w6
      by_cases hin : V 0 ∈ zd_l F
      · have e0 : ¬ zd_P F 0 (V 0) = 0 := by have := pp.1.mpr hin; omega
        have hno : ¬ ((zd_l (F ++ [V])).Nodup ∧ (zd_l M).Nodup) := fun w => by rw [l_app, nd_app] at w; exact w.1.2 hin
        rw [if_neg hno] at x1
        simp (disch := first | omega | assumption) only [s65_0, s65_1, s65_4, s65_5, s65_7, s65_10, s65_11, s65_12, s65_13, s65_16, s65_19, s65_20, s65_23, s65_26, s65_29, s65_30, s65_31, s65_34, s65_35, s65_38, s65_39, s65_42, s65_43, s65_44, s65_47, s65_48, s65_51, s65_54, s65_55, s65_58, s65_61, s65_64, s65_65, s65_66, s65_67, s65_68, s65_71, s65_74, s65_77, s65_78, s65_79, s65_80, s65_81, s65_84, s65_87, s65_90, s65_91, s65_93, s65_94, nI_le2, nI_lt2, nI_eq2, nI_lt0, nI_0le, nI_0lt, nI_le0, nI_eq0, nI_clamp, nI_add, bu_nI, bb_0, bb_1, rf_s, rf_n, tl_s, tl_n, am_th_some, if_true, if_false, sI_eq, uI_eq, and_self, true_and, and_true, not_false_eq_true, not_true_eq_false, Nat.reduceEqDiff, Nat.reduceLeDiff, Nat.reduceLT, Nat.reduceAdd, Nat.reduceMul, Nat.reduceSub, Nat.zero_add, r1, q6, p0, p1, p2, p3, w6, w7, hc0, e0, e25, x1, a7, hx2, x2, x3, x4, x5]
      · have e0 : zd_P F 0 (V 0) = 0 := by
          have := mt pp.1.mp hin
          omega
        have hyes : (zd_l (F ++ [V])).Nodup ∧ (zd_l M).Nodup := ⟨by rw [l_app, nd_app]; exact ⟨hN.1, hin⟩, hN.2⟩
        rw [if_pos hyes] at x1
        simp (disch := first | omega | assumption) only [s65_0, s65_1, s65_4, s65_5, s65_7, s65_10, s65_11, s65_12, s65_13, s65_16, s65_19, s65_20, s65_23, s65_26, s65_29, s65_30, s65_31, s65_34, s65_35, s65_38, s65_39, s65_42, s65_43, s65_44, s65_47, s65_48, s65_51, s65_54, s65_55, s65_58, s65_61, s65_64, s65_65, s65_66, s65_67, s65_68, s65_71, s65_74, s65_77, s65_78, s65_79, s65_80, s65_81, s65_84, s65_87, s65_90, s65_91, s65_93, s65_94, nI_le2, nI_lt2, nI_eq2, nI_lt0, nI_0le, nI_0lt, nI_le0, nI_eq0, nI_clamp, nI_add, bu_nI, bb_0, bb_1, rf_s, rf_n, tl_s, tl_n, am_th_some, if_true, if_false, sI_eq, uI_eq, and_self, true_and, and_true, not_false_eq_true, not_true_eq_false, Nat.reduceEqDiff, Nat.reduceLeDiff, Nat.reduceLT, Nat.reduceAdd, Nat.reduceMul, Nat.reduceSub, Nat.zero_add, r1, q6, p0, p1, p2, p3, w6, w7, hc0, e0, e25, x1, a7, hx2, x2, x3, x4, x5]
    · rw [if_neg hN] at w6
      have hno : ¬ ((zd_l (F ++ [V])).Nodup ∧ (zd_l M).Nodup) := fun w => by rw [l_app, nd_app] at w; exact hN ⟨w.1.1, w.2⟩
      rw [if_neg hno] at x1
      simp (disch := first | omega | assumption) only [s65_0, s65_1, s65_4, s65_5, s65_7, s65_10, s65_11, s65_12, s65_13, s65_16, s65_19, s65_20, s65_23, s65_26, s65_29, s65_30, s65_31, s65_34, s65_35, s65_38, s65_39, s65_42, s65_43, s65_44, s65_47, s65_48, s65_51, s65_54, s65_55, s65_58, s65_61, s65_64, s65_65, s65_66, s65_67, s65_68, s65_71, s65_74, s65_77, s65_78, s65_79, s65_80, s65_81, s65_84, s65_87, s65_90, s65_91, s65_93, s65_94, nI_le2, nI_lt2, nI_eq2, nI_lt0, nI_0le, nI_0lt, nI_le0, nI_eq0, nI_clamp, nI_add, bu_nI, bb_0, bb_1, rf_s, rf_n, tl_s, tl_n, am_th_some, if_true, if_false, sI_eq, uI_eq, and_self, true_and, and_true, not_false_eq_true, not_true_eq_false, Nat.reduceEqDiff, Nat.reduceLeDiff, Nat.reduceLT, Nat.reduceAdd, Nat.reduceMul, Nat.reduceSub, Nat.zero_add, r1, q6, p0, p1, p2, p3, w6, w7, hne, e25, x1, a7, hx2, x2, x3, x4, x5]
  · exact fr_tr (fr_tr (fr_tr (fr_tr (fr_mo f1 fun a b j w => by omega) (fr_mo f2 fun a b j w => by omega)) (fr_mo f3 fun a b j w => by omega)) (fr_mo f4 fun a b j w => by omega)) (fr_mo f5 fun a b j w => by omega)
  · obtain ⟨c0, c1, c2, c3⟩ := hf c hc25
    have z : ∀ a b j, ¬ (a = 7) → ¬ (a = 19 ∧ b = u ∧ j = V 0) → ¬ (a = 20 ∧ b = u ∧ j = V 0) → ¬ (a = 21 ∧ b = u ∧ j = V 0) → X5 a b j = I a b j := fun a b j h1 h2 h3 h4 => (f5 _ _ _ h4).trans ((f4 _ _ _ h3).trans ((f3 _ _ _ h2).trans ((f2 _ _ _ (by omega)).trans (f1 _ _ _ (by omega)))))
    rw [P_app]
    dsimp only
    by_cases e : c = V 0
    · rw [if_pos ⟨e, by decide⟩, if_pos ⟨e, by decide⟩, if_pos ⟨e, by decide⟩, e]
      refine ⟨?_, ?_, y5, ?_⟩
      · rw [f5 _ _ _ (by omega), f4 _ _ _ (by omega)]; exact y3
      · rw [f5 _ _ _ (by omega)]; exact y4
      · rw [z _ _ _ (by omega) (by omega) (by omega) (by omega), ← e]; exact c3
    · rw [if_neg (fun w => e w.1), if_neg (fun w => e w.1), if_neg (fun w => e w.1), z _ _ _ (by omega) (by omega) (by omega) (by omega), z _ _ _ (by omega) (by omega) (by omega) (by omega), z _ _ _ (by omega) (by omega) (by omega) (by omega), z _ _ _ (by omega) (by omega) (by omega) (by omega)]
      exact ⟨c0, c1, c2, c3⟩
  · have z7 : ∀ j, X5 7 0 j = X2 7 0 j := fun j => (f5 _ _ _ (by omega)).trans ((f4 _ _ _ (by omega)).trans (f3 _ _ _ (by omega)))
    refine ⟨by rw [z7, f2 _ _ _ (by omega)]; exact y1, (if x < V 0 then V 0 else x), by rw [z7]; exact y2, ?_, fun c hc => ?_, ?_⟩
    · by_cases q : x < V 0
      · rw [if_pos q]; omega
      · rw [if_neg q]; exact x25
    · have hle : c ≤ x ∨ c = V 0 := by
        rcases hc with hc | hc
        · rw [l_app] at hc
          rcases List.mem_append.mp hc with hc | hc
          · exact Or.inl (xa c (Or.inl hc))
          · exact Or.inr (List.mem_singleton.mp hc)
        · exact Or.inl (xa c (Or.inr hc))
      by_cases q : x < V 0
      · rw [if_pos q]; omega
      · rw [if_neg q]; omega
    · rw [l_app]
      by_cases q : x < V 0
      · rw [if_pos q]; exact Or.inr (Or.inl (List.mem_append_right _ (List.mem_singleton.mpr rfl)))
      · rw [if_neg q]
        rcases xb with xb | xb | xb
        · exact Or.inl xb
        · exact Or.inr (Or.inl (List.mem_append_left _ xb))
        · exact Or.inr (Or.inr xb)
theorem c_takePlace (hr : ze_R R u) (hV : zd_in 2 V) (hf : zd_s I u M) (hw : zd_w I F M) : ∃ J, am_cal d 66 [.ref (am_mk 7 0), .int (nI (V 0)), .int (nI (V 1))] I R Q = some (none, J, R, Q) ∧ am_fr (fun a b j => (a = 15 ∧ b = u) ∨ (a = 26 ∧ b = 0) ∨ (a = 7 ∧ b = 0 ∧ (j = 6 ∨ j = 7))) I J ∧ zd_s J u (M ++ [V]) ∧ zd_w J F (M ++ [V]) := by
  obtain ⟨-, r0, r1, r2, r3, r4, r5, q0, q1, q2, q3, q4, q6, p0, p1, p2, p3⟩ := hr
  have v0 : 0 ≤ V 0 ∧ V 0 ≤ 24 := hV 0 (by decide)
  have v1 : 0 ≤ V 1 ∧ V 1 ≤ 20 := hV 1 (by decide)
  obtain ⟨w6, x, w7, x25, xa, xb⟩ := hw
  have hc0 := (hf (V 0) (by omega)).2
  have e25 : V 0 < 25 := by omega
  have hne : ((nI 1 : Int32) = 0) = False := by decide
  obtain ⟨X1, x1, y1, f1⟩ := wr I 7 0 6 (if (zd_l F).Nodup ∧ (zd_l (M ++ [V])).Nodup then nI 0 else nI 1)
  have a7 : X1 7 0 7 = nI x := (f1 _ _ _ (by omega)).trans w7
  obtain ⟨X2, x2, y2, f2⟩ := wr X1 7 0 7 (nI (if x < V 0 then V 0 else x))
  obtain ⟨X3, x3, y3, f3⟩ := wr X2 26 0 (V 0) (nI 1)
  obtain ⟨X4, x4, y4, f4⟩ := wr X3 15 u (V 0) (nI (V 1))
  have hx2 : (if x < V 0 then nI (V 0) else nI x) = nI (if x < V 0 then V 0 else x) := by
    by_cases q : x < V 0
    · rw [if_pos q, if_pos q]
    · rw [if_neg q, if_neg q]
  refine ⟨X4, ?_, ?_, fun c hc25 => ?_, ?_⟩
  · rw [s66]
    by_cases hN : (zd_l F).Nodup ∧ (zd_l M).Nodup
    · rw [if_pos hN] at w6
      by_cases hin : V 0 ∈ zd_l M
      · rw [if_pos hin] at hc0
        have hno : ¬ ((zd_l F).Nodup ∧ (zd_l (M ++ [V])).Nodup) := fun w => by rw [l_app, nd_app] at w; exact w.2.2 hin
        rw [if_neg hno] at x1
        simp (disch := first | omega | assumption) only [s66_0, s66_1, s66_4, s66_5, s66_7, s66_10, s66_11, s66_12, s66_13, s66_16, s66_19, s66_20, s66_23, s66_24, s66_25, s66_28, s66_29, s66_32, s66_33, s66_36, s66_37, s66_38, s66_41, s66_42, s66_45, s66_48, s66_49, s66_52, s66_53, s66_54, s66_55, s66_56, s66_59, s66_62, s66_63, s66_64, s66_65, nI_le2, nI_lt2, nI_eq2, nI_lt0, nI_0le, nI_0lt, nI_le0, nI_eq0, nI_clamp, nI_add, bu_nI, bb_0, bb_1, rf_s, rf_n, tl_s, tl_n, am_th_some, if_true, if_false, sI_eq, uI_eq, and_self, true_and, and_true, not_false_eq_true, not_true_eq_false, Nat.reduceEqDiff, Nat.reduceLeDiff, Nat.reduceLT, Nat.reduceAdd, Nat.reduceMul, Nat.reduceSub, Nat.zero_add, r1, r5, q1, w6, w7, hc0, hne, e25, x1, a7, hx2, x2, x3, x4]
      · rw [if_neg hin] at hc0
        have hyes : (zd_l F).Nodup ∧ (zd_l (M ++ [V])).Nodup := ⟨hN.1, by rw [l_app, nd_app]; exact ⟨hN.2, hin⟩⟩
        rw [if_pos hyes] at x1
        simp (disch := first | omega | assumption) only [s66_0, s66_1, s66_4, s66_5, s66_7, s66_10, s66_11, s66_12, s66_13, s66_16, s66_19, s66_20, s66_23, s66_24, s66_25, s66_28, s66_29, s66_32, s66_33, s66_36, s66_37, s66_38, s66_41, s66_42, s66_45, s66_48, s66_49, s66_52, s66_53, s66_54, s66_55, s66_56, s66_59, s66_62, s66_63, s66_64, s66_65, nI_le2, nI_lt2, nI_eq2, nI_lt0, nI_0le, nI_0lt, nI_le0, nI_eq0, nI_clamp, nI_add, bu_nI, bb_0, bb_1, rf_s, rf_n, tl_s, tl_n, am_th_some, if_true, if_false, sI_eq, uI_eq, and_self, true_and, and_true, not_false_eq_true, not_true_eq_false, Nat.reduceEqDiff, Nat.reduceLeDiff, Nat.reduceLT, Nat.reduceAdd, Nat.reduceMul, Nat.reduceSub, Nat.zero_add, r1, r5, q1, w6, w7, hc0, e25, x1, a7, hx2, x2, x3, x4]
    · rw [if_neg hN] at w6
      have hno : ¬ ((zd_l F).Nodup ∧ (zd_l (M ++ [V])).Nodup) := fun w => by rw [l_app, nd_app] at w; exact hN ⟨w.1, w.2.1⟩
      rw [if_neg hno] at x1
      simp (disch := first | omega | assumption) only [s66_0, s66_1, s66_4, s66_5, s66_7, s66_10, s66_11, s66_12, s66_13, s66_16, s66_19, s66_20, s66_23, s66_24, s66_25, s66_28, s66_29, s66_32, s66_33, s66_36, s66_37, s66_38, s66_41, s66_42, s66_45, s66_48, s66_49, s66_52, s66_53, s66_54, s66_55, s66_56, s66_59, s66_62, s66_63, s66_64, s66_65, nI_le2, nI_lt2, nI_eq2, nI_lt0, nI_0le, nI_0lt, nI_le0, nI_eq0, nI_clamp, nI_add, bu_nI, bb_0, bb_1, rf_s, rf_n, tl_s, tl_n, am_th_some, if_true, if_false, sI_eq, uI_eq, and_self, true_and, and_true, not_false_eq_true, not_true_eq_false, Nat.reduceEqDiff, Nat.reduceLeDiff, Nat.reduceLT, Nat.reduceAdd, Nat.reduceMul, Nat.reduceSub, Nat.zero_add, r1, r5, q1, w6, w7, hne, e25, x1, a7, hx2, x2, x3, x4]
  · exact fr_tr (fr_tr (fr_tr (fr_mo f1 fun a b j w => by omega) (fr_mo f2 fun a b j w => by omega)) (fr_mo f3 fun a b j w => by omega)) (fr_mo f4 fun a b j w => by omega)
  · obtain ⟨c0, c1⟩ := hf c hc25
    rw [sh_app, l_app]
    dsimp only
    by_cases e : c = V 0
    · rw [if_pos e, if_pos (by rw [e]; exact List.mem_append_right _ (List.mem_singleton.mpr rfl)), e]
      exact ⟨y4, by rw [f4 _ _ _ (by omega)]; exact y3⟩
    · rw [if_neg e, f4 _ _ _ (by omega), f3 _ _ _ (by omega), f2 _ _ _ (by omega), f1 _ _ _ (by omega), f4 _ _ _ (by omega), f3 _ _ _ (by omega), f2 _ _ _ (by omega), f1 _ _ _ (by omega)]
      refine ⟨c0, c1.trans ?_⟩
      by_cases q : c ∈ zd_l M
      · rw [if_pos q, if_pos (List.mem_append_left _ q)]
      · rw [if_neg q, if_neg (fun w => by
          rcases List.mem_append.mp w with w | w
          · exact q w
          · exact e (List.mem_singleton.mp w))]
  · have z7 : ∀ j, X4 7 0 j = X2 7 0 j := fun j => (f4 _ _ _ (by omega)).trans (f3 _ _ _ (by omega))
    refine ⟨by rw [z7, f2 _ _ _ (by omega)]; exact y1, (if x < V 0 then V 0 else x), by rw [z7]; exact y2, ?_, fun c hc => ?_, ?_⟩
    · by_cases q : x < V 0
      · rw [if_pos q]; omega
      · rw [if_neg q]; exact x25
    · have hle : c ≤ x ∨ c = V 0 := by
        rcases hc with hc | hc
        · exact Or.inl (xa c (Or.inl hc))
        · rw [l_app] at hc
          rcases List.mem_append.mp hc with hc | hc
          · exact Or.inl (xa c (Or.inr hc))
          · exact Or.inr (List.mem_singleton.mp hc)
      by_cases q : x < V 0
      · rw [if_pos q]; omega
      · rw [if_neg q]; omega
    · rw [l_app]
      by_cases q : x < V 0
      · rw [if_pos q]; exact Or.inr (Or.inr (List.mem_append_right _ (List.mem_singleton.mpr rfl)))
      · rw [if_neg q]
        rcases xb with xb | xb | xb
        · exact Or.inl xb
        · exact Or.inr (Or.inl xb)
        · exact Or.inr (Or.inr (List.mem_append_left _ xb))
end
